/-! 50.rel -/
section
/-! PART B: what both sides stand for. AS: one party's state as plain numbers. -/
abbrev AS : Type := Nat × Nat × Nat × (Nat → Nat → Nat) × (Nat → Nat) × (Nat → Nat) × (Nat → Nat → Nat) × (Nat → Nat → Int) × (Nat → Nat) × (Nat → Nat) × (Nat → Int) × (Nat → Nat) × (Nat → Nat) × (Nat → Nat)
/-- rooms -/
def a_R (a : AS) : Nat := a.1
/-- guests who are there, as bits -/
def a_T (a : AS) : Nat := a.2.1
/-- sights -/
def a_k (a : AS) : Nat := a.2.2.1
def a_th (a : AS) : Nat → Nat → Nat := a.2.2.2.1
def a_sz (a : AS) : Nat → Nat := a.2.2.2.2.1
def a_ch (a : AS) : Nat → Nat := a.2.2.2.2.2.1
def a_wd (a : AS) : Nat → Nat → Nat := a.2.2.2.2.2.2.1
def a_lk (a : AS) : Nat → Nat → Int := a.2.2.2.2.2.2.2.1
def a_pl (a : AS) : Nat → Nat := a.2.2.2.2.2.2.2.2.1
def a_bs (a : AS) : Nat → Nat := a.2.2.2.2.2.2.2.2.2.1
def a_mt (a : AS) : Nat → Int := a.2.2.2.2.2.2.2.2.2.2.1
def a_lf (a : AS) : Nat → Nat := a.2.2.2.2.2.2.2.2.2.2.2.1
def a_sg (a : AS) : Nat → Nat := a.2.2.2.2.2.2.2.2.2.2.2.2.1
def a_sr (a : AS) : Nat → Nat := a.2.2.2.2.2.2.2.2.2.2.2.2.2
/-- how many of the eight -/
def cn8 (p : Nat → Bool) : Nat := (List.range 8).countP p
/-- guest g is there -/
def a_is (a : AS) (g : Nat) : Bool := (a_T a).testBit g
/-- how many are in a room -/
def a_in (a : AS) (r : Nat) : Nat := cn8 (fun g => a_is a g && a_pl a g == r)
/-- what always holds -/
def Inv (a : AS) : Prop :=
  (2 ≤ a_R a ∧ a_R a ≤ 6 ∧ a_T a < 256 ∧ a_k a ≤ 6) ∧
  (∀ r, r < 6 → (∀ s, s < 4 → a_th a r s ≤ 9) ∧ 1 ≤ a_sz a r ∧ a_sz a r ≤ 9 ∧ a_ch a r ≤ 9) ∧
  (∀ r q, r < 6 → q < 6 → a_wd a r q ≤ 3 ∧ a_wd a r q = a_wd a q r ∧ (a_R a ≤ r → a_wd a r q = 0)) ∧ (∀ r, r < 6 → a_wd a r r = 0) ∧
  (∀ g, g < 8 → a_is a g = false → a_pl a g = 0 ∧ a_bs a g = 0 ∧ (∀ k, k < 5 → a_lk a g k = 0)) ∧
  (∀ g, g < 8 → a_is a g = true → a_pl a g < a_R a ∧ a_bs a g ≤ 3 ∧ (∀ k, k < 5 → -3 ≤ a_lk a g k ∧ a_lk a g k ≤ 3)) ∧
  (∀ g, g < 8 → (a_bs a g = 0 ∨ a_bs a g = 2) → a_mt a g = -6 ∧ a_lf a g = 0) ∧
  (∀ g, g < 8 → a_bs a g = 1 → ∃ j, j < 8 ∧ j ≠ g ∧ a_mt a g = (j : Int) ∧ a_is a j = true ∧ a_bs a j = 1 ∧ a_mt a j = (g : Int) ∧ a_lf a j = a_lf a g ∧ 1 ≤ a_lf a g ∧ a_lf a g ≤ 9) ∧
  (∀ g, g < 8 → a_bs a g = 3 → a_lf a g = 0 ∧ ∃ q, q < a_R a ∧ q ≠ a_pl a g ∧ a_mt a g = (q : Int) ∧ 1 ≤ a_wd a (a_pl a g) q) ∧
  (∀ r, r < 6 → a_in a r ≤ a_sz a r) ∧
  (∀ s, s < a_k a → a_sg a s < 8 ∧ a_sr a s < a_R a)
/-- a House holds a -/
def Hc (h : HS) (a : AS) : Prop :=
  H_rooms h = nI (a_R a) ∧ H_there h = nI (a_T a) ∧ H_sights h = nI (a_k a) ∧
  (∀ r, r < 6 → (∀ s, s < 4 → H_measure h (r * 6 + s) = nI (a_th a r s)) ∧ H_measure h (r * 6 + 4) = nI (a_sz a r) ∧ H_measure h (r * 6 + 5) = nI (a_ch a r)) ∧
  (∀ r q, r < 6 → q < 6 → H_width h (r * 6 + q) = nI (a_wd a r q)) ∧
  (∀ g, g < 8 → H_place h g = nI (a_pl a g) ∧ H_busy h g = nI (a_bs a g) ∧ H_mate h g = Int32.ofInt (a_mt a g) ∧ H_left h g = nI (a_lf a g)) ∧
  (∀ g k, g < 8 → k < 5 → H_likes h (g * 5 + k) = Int32.ofInt (a_lk a g k)) ∧
  (∀ s, s < a_k a → H_sightGuest h s = nI (a_sg a s) ∧ H_sightRoom h s = nI (a_sr a s))
/-- the reference's lasting part -/
abbrev MK : Type := Int32 × (Nat → Int32) × (Nat → Int32) × (Nat → Int32) × (Nat → Int32) × Int32 × (Nat → Int32) × (Nat → Int32) × (Nat → Int32) × (Nat → Int32) × (Nat → Int32) × Int32 × (Nat → Int32)
def mcore (z : MS) : MK := (M_rooms z, M_things z, M_size z, M_chairs z, M_width z, M_there z, M_likes z, M_place z, M_busy z, M_with z, M_left z, M_sights z, M_sight z)
/-- the reference's lasting part holds a -/
def Mc (m : MK) (a : AS) : Prop :=
  m.1 = nI (a_R a) ∧ m.2.2.2.2.2.1 = nI (a_T a) ∧ m.2.2.2.2.2.2.2.2.2.2.2.1 = nI (a_k a) ∧
  (∀ r, r < 6 → (∀ s, s < 4 → m.2.1 (4 * r + s) = nI (a_th a r s)) ∧ m.2.2.1 r = nI (a_sz a r) ∧ m.2.2.2.1 r = nI (a_ch a r)) ∧
  (∀ r q, r < 6 → q < 6 → m.2.2.2.2.1 (6 * r + q) = nI (a_wd a r q)) ∧
  (∀ g, g < 8 → a_is a g = true → m.2.2.2.2.2.2.2.1 g = nI (a_pl a g) ∧ m.2.2.2.2.2.2.2.2.1 g = nI (a_bs a g) ∧ m.2.2.2.2.2.2.2.2.2.2.1 g = nI (a_lf a g) ∧ (a_bs a g = 1 ∨ a_bs a g = 3 → m.2.2.2.2.2.2.2.2.2.1 g = Int32.ofInt (a_mt a g)) ∧ ∀ k, k < 5 → m.2.2.2.2.2.2.1 (5 * g + k) = Int32.ofInt (a_lk a g k)) ∧
  (∀ s, s < a_k a → m.2.2.2.2.2.2.2.2.2.2.2.2 (2 * s) = nI (a_sg a s) ∧ m.2.2.2.2.2.2.2.2.2.2.2.2 (2 * s + 1) = nI (a_sr a s))
/-- an image of the reference, read as its lasting part -/
def mimg (f : Nat → Int32) (o : Nat) : MK := (f (o + 156), (fun k => f (o + k)), (fun r => f (o + 144 + r)), (fun r => f (o + 150 + r)), (fun k => f (o + 24 + k)), f (o + 157), (fun k => f (o + 60 + k)), (fun g => f (o + 100 + g)), (fun g => f (o + 108 + g)), (fun g => f (o + 116 + g)), (fun g => f (o + 124 + g)), f (o + 158), (fun k => f (o + 132 + k)))
/-- the pads are alike -/
def PadR (pd : PS) (sn : Int32) (f : Nat → Int32) : Prop := ∃ n, n ≤ 60 ∧ P_used pd = nI n ∧ sn = nI n ∧ ∀ i, i < n → P_signs pd i = f i ∧ ∃ c, 33 ≤ c ∧ c ≤ 126 ∧ f i = nI c
/-- one image on both sides -/
def ImgR (k1 k2 : Int32) (h : HS) (m : MK) : Prop := k1 = k2 ∧ (k1 = 0 ∨ k1 = 1) ∧ (k1 = 1 → ∃ a, Inv a ∧ Hc h a ∧ Mc m a)
/-- all of the reference that lasts -/
abbrev MKK : Type := MK × Int32 × (Nat → Int32) × (Nat → Int32) × (Nat → Int32)
def mkeep (z : MS) : MKK := (mcore z, M_signs z, M_pad z, M_image z, M_isKept z)
/-- all of the class that lasts -/
abbrev KKK : Type := HS × PS × (Nat → Int32) × HS × HS
def kkeep (S : KDS) : KKK := (K_now S, K_pad S, K_kept S, K_img0 S, K_img1 S)
/-- all that both sides keep -/
def RelK (x : KKK) (m : MKK) : Prop :=
  (∃ a, Inv a ∧ Hc x.1 a ∧ Mc m.1 a) ∧ PadR x.2.1 m.2.1 m.2.2.1 ∧ ImgR (x.2.2.1 0) (m.2.2.2.2 0) x.2.2.2.1 (mimg m.2.2.2.1 0) ∧ ImgR (x.2.2.1 1) (m.2.2.2.2 1) x.2.2.2.2 (mimg m.2.2.2.1 200)
def Rel (S : KDS) (z : MS) : Prop := RelK (kkeep S) (mkeep z)
theorem Rel.to {S S' : KDS} {z z' : MS} (h : Rel S z) (e1 : kkeep S' = kkeep S) (e2 : mkeep z' = mkeep z) : Rel S' z' := by unfold Rel; rw [e1, e2]; exact h
theorem kp_at (z : MS) (v : Nat → Int32) : mkeep (M_set_at z v) = mkeep z := by
  obtain ⟨z_rooms, z_things, z_size, z_chairs, z_width, z_there, z_likes, z_place, z_busy, z_with, z_left, z_sights, z_sight, z_signs, z_pad, z_at, z_busyNow, z_withNow, z_leftNow, z_thingsNow, z_loose, z_through, z_reason, z_events, z_states, z_dear, z_chances, z_then, z_image, z_isKept⟩ := z
  show ((z_rooms, z_things, z_size, z_chairs, z_width, z_there, z_likes, z_place, z_busy, z_with, z_left, z_sights, z_sight), z_signs, z_pad, z_image, z_isKept) = ((z_rooms, z_things, z_size, z_chairs, z_width, z_there, z_likes, z_place, z_busy, z_with, z_left, z_sights, z_sight), z_signs, z_pad, z_image, z_isKept)
  rfl
theorem kp_busyNow (z : MS) (v : Nat → Int32) : mkeep (M_set_busyNow z v) = mkeep z := by
  obtain ⟨z_rooms, z_things, z_size, z_chairs, z_width, z_there, z_likes, z_place, z_busy, z_with, z_left, z_sights, z_sight, z_signs, z_pad, z_at, z_busyNow, z_withNow, z_leftNow, z_thingsNow, z_loose, z_through, z_reason, z_events, z_states, z_dear, z_chances, z_then, z_image, z_isKept⟩ := z
  show ((z_rooms, z_things, z_size, z_chairs, z_width, z_there, z_likes, z_place, z_busy, z_with, z_left, z_sights, z_sight), z_signs, z_pad, z_image, z_isKept) = ((z_rooms, z_things, z_size, z_chairs, z_width, z_there, z_likes, z_place, z_busy, z_with, z_left, z_sights, z_sight), z_signs, z_pad, z_image, z_isKept)
  rfl
theorem kp_withNow (z : MS) (v : Nat → Int32) : mkeep (M_set_withNow z v) = mkeep z := by
  obtain ⟨z_rooms, z_things, z_size, z_chairs, z_width, z_there, z_likes, z_place, z_busy, z_with, z_left, z_sights, z_sight, z_signs, z_pad, z_at, z_busyNow, z_withNow, z_leftNow, z_thingsNow, z_loose, z_through, z_reason, z_events, z_states, z_dear, z_chances, z_then, z_image, z_isKept⟩ := z
  show ((z_rooms, z_things, z_size, z_chairs, z_width, z_there, z_likes, z_place, z_busy, z_with, z_left, z_sights, z_sight), z_signs, z_pad, z_image, z_isKept) = ((z_rooms, z_things, z_size, z_chairs, z_width, z_there, z_likes, z_place, z_busy, z_with, z_left, z_sights, z_sight), z_signs, z_pad, z_image, z_isKept)
  rfl
theorem kp_leftNow (z : MS) (v : Nat → Int32) : mkeep (M_set_leftNow z v) = mkeep z := by
  obtain ⟨z_rooms, z_things, z_size, z_chairs, z_width, z_there, z_likes, z_place, z_busy, z_with, z_left, z_sights, z_sight, z_signs, z_pad, z_at, z_busyNow, z_withNow, z_leftNow, z_thingsNow, z_loose, z_through, z_reason, z_events, z_states, z_dear, z_chances, z_then, z_image, z_isKept⟩ := z
  show ((z_rooms, z_things, z_size, z_chairs, z_width, z_there, z_likes, z_place, z_busy, z_with, z_left, z_sights, z_sight), z_signs, z_pad, z_image, z_isKept) = ((z_rooms, z_things, z_size, z_chairs, z_width, z_there, z_likes, z_place, z_busy, z_with, z_left, z_sights, z_sight), z_signs, z_pad, z_image, z_isKept)
  rfl
theorem kp_thingsNow (z : MS) (v : Nat → Int32) : mkeep (M_set_thingsNow z v) = mkeep z := by
  obtain ⟨z_rooms, z_things, z_size, z_chairs, z_width, z_there, z_likes, z_place, z_busy, z_with, z_left, z_sights, z_sight, z_signs, z_pad, z_at, z_busyNow, z_withNow, z_leftNow, z_thingsNow, z_loose, z_through, z_reason, z_events, z_states, z_dear, z_chances, z_then, z_image, z_isKept⟩ := z
  show ((z_rooms, z_things, z_size, z_chairs, z_width, z_there, z_likes, z_place, z_busy, z_with, z_left, z_sights, z_sight), z_signs, z_pad, z_image, z_isKept) = ((z_rooms, z_things, z_size, z_chairs, z_width, z_there, z_likes, z_place, z_busy, z_with, z_left, z_sights, z_sight), z_signs, z_pad, z_image, z_isKept)
  rfl
theorem kp_loose (z : MS) (v : Int32) : mkeep (M_set_loose z v) = mkeep z := by
  obtain ⟨z_rooms, z_things, z_size, z_chairs, z_width, z_there, z_likes, z_place, z_busy, z_with, z_left, z_sights, z_sight, z_signs, z_pad, z_at, z_busyNow, z_withNow, z_leftNow, z_thingsNow, z_loose, z_through, z_reason, z_events, z_states, z_dear, z_chances, z_then, z_image, z_isKept⟩ := z
  show ((z_rooms, z_things, z_size, z_chairs, z_width, z_there, z_likes, z_place, z_busy, z_with, z_left, z_sights, z_sight), z_signs, z_pad, z_image, z_isKept) = ((z_rooms, z_things, z_size, z_chairs, z_width, z_there, z_likes, z_place, z_busy, z_with, z_left, z_sights, z_sight), z_signs, z_pad, z_image, z_isKept)
  rfl
theorem kp_through (z : MS) (v : Nat → Int32) : mkeep (M_set_through z v) = mkeep z := by
  obtain ⟨z_rooms, z_things, z_size, z_chairs, z_width, z_there, z_likes, z_place, z_busy, z_with, z_left, z_sights, z_sight, z_signs, z_pad, z_at, z_busyNow, z_withNow, z_leftNow, z_thingsNow, z_loose, z_through, z_reason, z_events, z_states, z_dear, z_chances, z_then, z_image, z_isKept⟩ := z
  show ((z_rooms, z_things, z_size, z_chairs, z_width, z_there, z_likes, z_place, z_busy, z_with, z_left, z_sights, z_sight), z_signs, z_pad, z_image, z_isKept) = ((z_rooms, z_things, z_size, z_chairs, z_width, z_there, z_likes, z_place, z_busy, z_with, z_left, z_sights, z_sight), z_signs, z_pad, z_image, z_isKept)
  rfl
theorem kp_reason (z : MS) (v : Int32) : mkeep (M_set_reason z v) = mkeep z := by
  obtain ⟨z_rooms, z_things, z_size, z_chairs, z_width, z_there, z_likes, z_place, z_busy, z_with, z_left, z_sights, z_sight, z_signs, z_pad, z_at, z_busyNow, z_withNow, z_leftNow, z_thingsNow, z_loose, z_through, z_reason, z_events, z_states, z_dear, z_chances, z_then, z_image, z_isKept⟩ := z
  show ((z_rooms, z_things, z_size, z_chairs, z_width, z_there, z_likes, z_place, z_busy, z_with, z_left, z_sights, z_sight), z_signs, z_pad, z_image, z_isKept) = ((z_rooms, z_things, z_size, z_chairs, z_width, z_there, z_likes, z_place, z_busy, z_with, z_left, z_sights, z_sight), z_signs, z_pad, z_image, z_isKept)
  rfl
theorem kp_events (z : MS) (v : Int32) : mkeep (M_set_events z v) = mkeep z := by
  obtain ⟨z_rooms, z_things, z_size, z_chairs, z_width, z_there, z_likes, z_place, z_busy, z_with, z_left, z_sights, z_sight, z_signs, z_pad, z_at, z_busyNow, z_withNow, z_leftNow, z_thingsNow, z_loose, z_through, z_reason, z_events, z_states, z_dear, z_chances, z_then, z_image, z_isKept⟩ := z
  show ((z_rooms, z_things, z_size, z_chairs, z_width, z_there, z_likes, z_place, z_busy, z_with, z_left, z_sights, z_sight), z_signs, z_pad, z_image, z_isKept) = ((z_rooms, z_things, z_size, z_chairs, z_width, z_there, z_likes, z_place, z_busy, z_with, z_left, z_sights, z_sight), z_signs, z_pad, z_image, z_isKept)
  rfl
theorem kp_states (z : MS) (v : Nat → Int64) : mkeep (M_set_states z v) = mkeep z := by
  obtain ⟨z_rooms, z_things, z_size, z_chairs, z_width, z_there, z_likes, z_place, z_busy, z_with, z_left, z_sights, z_sight, z_signs, z_pad, z_at, z_busyNow, z_withNow, z_leftNow, z_thingsNow, z_loose, z_through, z_reason, z_events, z_states, z_dear, z_chances, z_then, z_image, z_isKept⟩ := z
  show ((z_rooms, z_things, z_size, z_chairs, z_width, z_there, z_likes, z_place, z_busy, z_with, z_left, z_sights, z_sight), z_signs, z_pad, z_image, z_isKept) = ((z_rooms, z_things, z_size, z_chairs, z_width, z_there, z_likes, z_place, z_busy, z_with, z_left, z_sights, z_sight), z_signs, z_pad, z_image, z_isKept)
  rfl
theorem kp_dear (z : MS) (v : Nat → Int32) : mkeep (M_set_dear z v) = mkeep z := by
  obtain ⟨z_rooms, z_things, z_size, z_chairs, z_width, z_there, z_likes, z_place, z_busy, z_with, z_left, z_sights, z_sight, z_signs, z_pad, z_at, z_busyNow, z_withNow, z_leftNow, z_thingsNow, z_loose, z_through, z_reason, z_events, z_states, z_dear, z_chances, z_then, z_image, z_isKept⟩ := z
  show ((z_rooms, z_things, z_size, z_chairs, z_width, z_there, z_likes, z_place, z_busy, z_with, z_left, z_sights, z_sight), z_signs, z_pad, z_image, z_isKept) = ((z_rooms, z_things, z_size, z_chairs, z_width, z_there, z_likes, z_place, z_busy, z_with, z_left, z_sights, z_sight), z_signs, z_pad, z_image, z_isKept)
  rfl
theorem kp_chances (z : MS) (v : Nat → Int64) : mkeep (M_set_chances z v) = mkeep z := by
  obtain ⟨z_rooms, z_things, z_size, z_chairs, z_width, z_there, z_likes, z_place, z_busy, z_with, z_left, z_sights, z_sight, z_signs, z_pad, z_at, z_busyNow, z_withNow, z_leftNow, z_thingsNow, z_loose, z_through, z_reason, z_events, z_states, z_dear, z_chances, z_then, z_image, z_isKept⟩ := z
  show ((z_rooms, z_things, z_size, z_chairs, z_width, z_there, z_likes, z_place, z_busy, z_with, z_left, z_sights, z_sight), z_signs, z_pad, z_image, z_isKept) = ((z_rooms, z_things, z_size, z_chairs, z_width, z_there, z_likes, z_place, z_busy, z_with, z_left, z_sights, z_sight), z_signs, z_pad, z_image, z_isKept)
  rfl
theorem kp_then (z : MS) (v : Nat → Int64) : mkeep (M_set_then z v) = mkeep z := by
  obtain ⟨z_rooms, z_things, z_size, z_chairs, z_width, z_there, z_likes, z_place, z_busy, z_with, z_left, z_sights, z_sight, z_signs, z_pad, z_at, z_busyNow, z_withNow, z_leftNow, z_thingsNow, z_loose, z_through, z_reason, z_events, z_states, z_dear, z_chances, z_then, z_image, z_isKept⟩ := z
  show ((z_rooms, z_things, z_size, z_chairs, z_width, z_there, z_likes, z_place, z_busy, z_with, z_left, z_sights, z_sight), z_signs, z_pad, z_image, z_isKept) = ((z_rooms, z_things, z_size, z_chairs, z_width, z_there, z_likes, z_place, z_busy, z_with, z_left, z_sights, z_sight), z_signs, z_pad, z_image, z_isKept)
  rfl
theorem kk_drift (S : KDS) (v : DS) : kkeep (K_set_drift S v) = kkeep S := rfl
theorem kk_play (S : KDS) (v : YS) : kkeep (K_set_play S v) = kkeep S := rfl
theorem kk_rest (S : KDS) (v : TS) : kkeep (K_set_rest S v) = kkeep S := rfl
theorem kk_route (S : KDS) (v : OS) : kkeep (K_set_route S v) = kkeep S := rfl
theorem kk_stagger (S : KDS) (v : SS) : kkeep (K_set_stagger S v) = kkeep S := rfl
theorem kk_draws (S : KDS) (v : US) : kkeep (K_set_draws S v) = kkeep S := rfl
theorem kk_ends (S : KDS) (v : Nat → Int64) : kkeep (K_set_ends S v) = kkeep S := rfl
/-- what a step of the kept part does -/
theorem mk_signs (z : MS) (v : Int32) : mkeep (M_set_signs z v) = (mcore z, v, M_pad z, M_image z, M_isKept z) := by
  obtain ⟨z_rooms, z_things, z_size, z_chairs, z_width, z_there, z_likes, z_place, z_busy, z_with, z_left, z_sights, z_sight, z_signs, z_pad, z_at, z_busyNow, z_withNow, z_leftNow, z_thingsNow, z_loose, z_through, z_reason, z_events, z_states, z_dear, z_chances, z_then, z_image, z_isKept⟩ := z
  show ((z_rooms, z_things, z_size, z_chairs, z_width, z_there, z_likes, z_place, z_busy, z_with, z_left, z_sights, z_sight), v, z_pad, z_image, z_isKept) = ((z_rooms, z_things, z_size, z_chairs, z_width, z_there, z_likes, z_place, z_busy, z_with, z_left, z_sights, z_sight), v, z_pad, z_image, z_isKept)
  rfl
theorem mk_pad (z : MS) (f : Nat → Int32) : mkeep (M_set_pad z f) = (mcore z, M_signs z, f, M_image z, M_isKept z) := by
  obtain ⟨z_rooms, z_things, z_size, z_chairs, z_width, z_there, z_likes, z_place, z_busy, z_with, z_left, z_sights, z_sight, z_signs, z_pad, z_at, z_busyNow, z_withNow, z_leftNow, z_thingsNow, z_loose, z_through, z_reason, z_events, z_states, z_dear, z_chances, z_then, z_image, z_isKept⟩ := z
  show ((z_rooms, z_things, z_size, z_chairs, z_width, z_there, z_likes, z_place, z_busy, z_with, z_left, z_sights, z_sight), z_signs, f, z_image, z_isKept) = ((z_rooms, z_things, z_size, z_chairs, z_width, z_there, z_likes, z_place, z_busy, z_with, z_left, z_sights, z_sight), z_signs, f, z_image, z_isKept)
  rfl
theorem mk_sights (z : MS) (v : Int32) : mkeep (M_set_sights z v) = ((M_rooms z, M_things z, M_size z, M_chairs z, M_width z, M_there z, M_likes z, M_place z, M_busy z, M_with z, M_left z, v, M_sight z), M_signs z, M_pad z, M_image z, M_isKept z) := by
  obtain ⟨z_rooms, z_things, z_size, z_chairs, z_width, z_there, z_likes, z_place, z_busy, z_with, z_left, z_sights, z_sight, z_signs, z_pad, z_at, z_busyNow, z_withNow, z_leftNow, z_thingsNow, z_loose, z_through, z_reason, z_events, z_states, z_dear, z_chances, z_then, z_image, z_isKept⟩ := z
  show ((z_rooms, z_things, z_size, z_chairs, z_width, z_there, z_likes, z_place, z_busy, z_with, z_left, v, z_sight), z_signs, z_pad, z_image, z_isKept) = ((z_rooms, z_things, z_size, z_chairs, z_width, z_there, z_likes, z_place, z_busy, z_with, z_left, v, z_sight), z_signs, z_pad, z_image, z_isKept)
  rfl
/-- a loop with a counter that goes up to e: what holds ahead of each turn, what is to be shown of the rest -/
theorem it_rule {γ σ : Type} {B : γ → γ} {bot : γ} (e : Nat) (I : Nat → σ → Prop) (Q : γ → Nat → σ → Prop) (hex : ∀ k s, I e s → Q (B k) e s) (hst : ∀ k i s, i < e → I i s → (∀ s', I (i + 1) s' → Q k (i + 1) s') → Q (B k) i s) : ∀ n i s, e - i < n → i ≤ e → I i s → Q (it B bot n) i s := by
  intro n
  induction n with
  | zero => intro i s h; omega
  | succ n ih =>
    intro i s h hi hI
    show Q (B (it B bot n)) i s
    by_cases c : i = e
    · subst c; exact hex _ s hI
    · exact hst _ i s (by omega) hI (fun s' hs' => ih (i + 1) s' (by omega) (by omega) hs')
/-! first sims -/
theorem sim_wipe : Sim_wipe Rel := by
  intro S z h
  refine ⟨_, _, rfl, rfl, ?_, ?_⟩
  · obtain ⟨-, ⟨n, -, h1, h2, -⟩, -⟩ := h
    exact h1.trans h2.symm
  · obtain ⟨h1, ⟨n, hn, e1, e2, e3⟩, h3⟩ := h
    unfold Rel
    rw [mk_signs]
    exact ⟨h1, ⟨0, by omega, rfl, rfl, fun i hi => absurd hi (by omega)⟩, h3⟩
theorem clear_eq (h : HS) (n : Int32) : f_X1_clear h n = some (n, 0, 0, upd (upd (upd (upd (upd (upd (fillA 36 0 (H_measure h)) 4 8) 10 8) 16 8) 22 8) 28 8) 34 8, fillA 36 0 (H_width h), fillA 8 0 (H_place h), fillA 8 0 (H_busy h), fillA 8 (-6) (H_mate h), fillA 8 0 (H_left h), fillA 40 0 (H_likes h), H_sightGuest h, H_sightRoom h) := rfl
end
/-! 51.easy -/
section
theorem i_nle {x y : Int32} : ¬ x ≤ y ↔ y < x := Int32.not_le
theorem i_nlt {x y : Int32} : ¬ x < y ↔ y ≤ x := Int32.not_lt
/-- a number between 0 and n less 1 is a small natural -/
theorem i_small {x : Int32} {n : Nat} (hn : n < 2 ^ 31) (h0 : ¬ x < 0) (h1 : x < nI n) : ∃ j, j < n ∧ x = nI j := by
  obtain ⟨j, hj, rfl⟩ := nI_of h0
  exact ⟨j, (nI_ltI hj hn).mp h1, rfl⟩
theorem in_1 {x a b : Int32} (h1 : ¬ x < a) (h2 : ¬ b < x) : f_X9_in x a b = some 1 := by unfold f_X9_in; rw [if_neg h1, if_neg h2]
theorem in_0 {x a b : Int32} (h : x < a ∨ b < x) : f_X9_in x a b = some 0 := by
  unfold f_X9_in
  by_cases h1 : x < a
  · rw [if_pos h1]
  · rw [if_neg h1, if_pos (h.resolve_left h1)]
theorem chk_nI {α : Type} {n N : Nat} {x : Option α} (h : n < N) (hN : N < 2 ^ 31) : chk (nI n) N x = x := chk_ok (vp_in_nI h hN)
theorem sim_say : Sim_say Rel := by
  intro S z x h
  obtain ⟨h1, ⟨n, hn, e1, e2, e3⟩, h3⟩ := h
  have e1 : P_used (K_pad S) = nI n := e1
  have e2 : M_signs z = nI n := e2
  have e3 : ∀ i, i < n → P_signs (K_pad S) i = M_pad z i ∧ ∃ c, 33 ≤ c ∧ c ≤ 126 ∧ M_pad z i = nI c := e3
  by_cases c1 : x < 33
  · refine ⟨(-2, K_pad S), (-2, z), ?_, ?_, rfl, h1, ⟨n, hn, e1, e2, e3⟩, h3⟩
    · unfold f_X8_say; rw [if_pos c1]
    · unfold f_X9_say; rw [in_0 (Or.inl c1)]; rfl
  · by_cases c2 : x ≤ 126
    · have hi : f_X9_in x 33 126 = some 1 := in_1 c1 (Int32.not_lt.mpr c2)
      obtain ⟨c, hc, rfl⟩ := nI_of (x := x) (fun q => c1 (Int32.lt_of_lt_of_le q (by decide)))
      have hc1 : 33 ≤ c := by
        rcases Nat.lt_or_ge c 33 with q | q
        · exact absurd (nI_lt q (by decide)) c1
        · exact q
      have hc2 : c ≤ 126 := (nI_leI hc (b := 126) (by decide)).mp c2
      by_cases c3 : n = 60
      · subst c3
        refine ⟨(-4, K_pad S), (-4, z), ?_, ?_, rfl, h1, ⟨60, hn, e1, e2, e3⟩, h3⟩
        · unfold f_X8_say f_X2_add
          rw [if_neg c1, if_pos c2, e1, if_neg (by decide)]; rfl
        · unfold f_X9_say
          rw [hi, Option.bind_some, if_neg (by decide), e2]; rfl
      · have hn' : n < 60 := by omega
        obtain ⟨z1, ez1⟩ : ∃ y, y = M_set_pad z (upd (M_pad z) n (nI c)) := ⟨_, rfl⟩
        have k1 : mkeep z1 = (mcore z, M_signs z, upd (M_pad z) n (nI c), M_image z, M_isKept z) := by rw [ez1]; exact mk_pad _ _
        have s1 : M_signs z1 = nI n := (congrArg (fun m => m.2.1) k1).trans e2
        obtain ⟨z2, ez2⟩ : ∃ y, y = M_set_signs z1 (nI n + 1) := ⟨_, rfl⟩
        have k2 : mkeep z2 = (mcore z, nI n + 1, upd (M_pad z) n (nI c), M_image z, M_isKept z) := by
          rw [ez2, mk_signs]
          exact congrArg (fun m : MKK => (m.1, nI n + 1, m.2.2.1, m.2.2.2.1, m.2.2.2.2)) k1
        refine ⟨(nI n + 1, P_set_used (P_set_signs (K_pad S) (upd (P_signs (K_pad S)) n (nI c))) (nI n + 1)), (nI n + 1, z2), ?_, ?_, rfl, ?_⟩
        · unfold f_X8_say f_X2_add
          rw [if_neg c1, if_pos c2, e1, if_pos (show nI n < (60 : Int32) from nI_lt hn' (by decide)), chk_nI hn' (by decide), nI_clamp (by omega)]; rfl
        · unfold f_X9_say ltA
          rw [hi, Option.bind_some, if_neg (by decide), e2, if_neg (show ¬ nI n = (60 : Int32) from fun q => c3 ((nI_eq (by omega) (b := 60) (by decide)).mp q)), chk_nI hn' (by decide), nI_clamp (by omega)]
          show (fun z35 : MS => (fun z43 : MS => some (M_signs z43, z43)) (M_set_signs z35 (M_signs z35 + 1))) (M_set_pad z (upd (M_pad z) n (nI c))) = _
          rw [← ez1]
          show (fun z43 : MS => some (M_signs z43, z43)) (M_set_signs z1 (M_signs z1 + 1)) = _
          rw [s1, ← ez2]
          show some (M_signs z2, z2) = _
          rw [show M_signs z2 = nI n + 1 from congrArg (fun m => m.2.1) k2]
        unfold Rel
        rw [k2]
        refine ⟨h1, ⟨n + 1, by omega, nI_1 n, nI_1 n, ?_⟩, h3⟩
        · intro i hi
          show upd (P_signs (K_pad S)) n (nI c) i = upd (M_pad z) n (nI c) i ∧ ∃ c', 33 ≤ c' ∧ c' ≤ 126 ∧ upd (M_pad z) n (nI c) i = nI c'
          by_cases q : i = n
          · subst q; rw [pk_us, pk_us]; exact ⟨rfl, c, hc1, hc2, rfl⟩
          · rw [pk_un q, pk_un q]; exact e3 i (by omega)
    · refine ⟨(-2, K_pad S), (-2, z), ?_, ?_, rfl, h1, ⟨n, hn, e1, e2, e3⟩, h3⟩
      · unfold f_X8_say; rw [if_neg c1, if_neg c2]
      · unfold f_X9_say; rw [in_0 (Or.inr (Int32.not_le.mp c2))]; rfl
theorem sim_forget : Sim_forget Rel := by
  intro S z h
  obtain ⟨⟨a, hI, hH, hM⟩, h3⟩ := h
  refine ⟨_, _, rfl, rfl, ?_, ?_⟩
  · exact hH.2.2.1.trans hM.2.2.1.symm
  · unfold Rel
    rw [mk_sights]
    obtain ⟨i1, i2, i3, i4, i5, i6, i7, i8, i9, i10, i11⟩ := hI
    obtain ⟨b1, b2, b3, b4, b5, b6, b7, b8⟩ := hH
    obtain ⟨m1, m2, m3, m4, m5, m6, m7⟩ := hM
    refine ⟨⟨(a_R a, a_T a, 0, a_th a, a_sz a, a_ch a, a_wd a, a_lk a, a_pl a, a_bs a, a_mt a, a_lf a, a_sg a, a_sr a), ⟨⟨i1.1, i1.2.1, i1.2.2.1, Nat.zero_le _⟩, i2, i3, i4, i5, i6, i7, i8, i9, i10, fun s hs => absurd hs (Nat.not_lt_zero _)⟩, ⟨b1, b2, rfl, b4, b5, b6, b7, fun s hs => absurd hs (Nat.not_lt_zero _)⟩, ⟨m1, m2, rfl, m4, m5, m6, fun s hs => absurd hs (Nat.not_lt_zero _)⟩⟩, h3⟩
theorem mk_size (z : MS) (f : Nat → Int32) : mkeep (M_set_size z f) = ((M_rooms z, M_things z, f, M_chairs z, M_width z, M_there z, M_likes z, M_place z, M_busy z, M_with z, M_left z, M_sights z, M_sight z), M_signs z, M_pad z, M_image z, M_isKept z) := rfl
theorem mk_chairs (z : MS) (f : Nat → Int32) : mkeep (M_set_chairs z f) = ((M_rooms z, M_things z, M_size z, f, M_width z, M_there z, M_likes z, M_place z, M_busy z, M_with z, M_left z, M_sights z, M_sight z), M_signs z, M_pad z, M_image z, M_isKept z) := rfl
theorem mk_things (z : MS) (f : Nat → Int32) : mkeep (M_set_things z f) = ((M_rooms z, f, M_size z, M_chairs z, M_width z, M_there z, M_likes z, M_place z, M_busy z, M_with z, M_left z, M_sights z, M_sight z), M_signs z, M_pad z, M_image z, M_isKept z) := rfl
theorem mk_width (z : MS) (f : Nat → Int32) : mkeep (M_set_width z f) = ((M_rooms z, M_things z, M_size z, M_chairs z, f, M_there z, M_likes z, M_place z, M_busy z, M_with z, M_left z, M_sights z, M_sight z), M_signs z, M_pad z, M_image z, M_isKept z) := rfl
theorem mk_there (z : MS) (v : Int32) : mkeep (M_set_there z v) = ((M_rooms z, M_things z, M_size z, M_chairs z, M_width z, v, M_likes z, M_place z, M_busy z, M_with z, M_left z, M_sights z, M_sight z), M_signs z, M_pad z, M_image z, M_isKept z) := rfl
theorem mk_rooms (z : MS) (v : Int32) : mkeep (M_set_rooms z v) = ((v, M_things z, M_size z, M_chairs z, M_width z, M_there z, M_likes z, M_place z, M_busy z, M_with z, M_left z, M_sights z, M_sight z), M_signs z, M_pad z, M_image z, M_isKept z) := rfl
def emT (m : MKK) (th sz ch wd : Nat → Int32) : MKK := ((m.1.1, th, sz, ch, wd, 0, m.1.2.2.2.2.2.2.1, m.1.2.2.2.2.2.2.2.1, m.1.2.2.2.2.2.2.2.2.1, m.1.2.2.2.2.2.2.2.2.2.1, m.1.2.2.2.2.2.2.2.2.2.2.1, 0, m.1.2.2.2.2.2.2.2.2.2.2.2.2), m.2.1, m.2.2.1, m.2.2.2.1, m.2.2.2.2)
/-- what the reference's empty() leaves: the rest of what lasts is as it was -/
def EmptyOf (m w : MKK) : Prop := ∃ th sz ch wd, w = emT m th sz ch wd ∧ (∀ k, k < 24 → th k = 0) ∧ (∀ r, r < 6 → sz r = 8 ∧ ch r = 0) ∧ ∀ k, k < 36 → wd k = 0
theorem ltA_eq {α β : Type} (x : α) (k : α → Option β) : ltA x k = k x := by rw [ltA]
theorem FU_ex : ∃ N, 60000 < N ∧ FU = N := ⟨FU, by decide, rfl⟩
theorem nlit {a b : Nat} (hb : b < 2 ^ 31) (h : a < b) : ¬ nI b ≤ nI a := nI_ge h hb
theorem empty_3 {N : Nat} (hFU : FU = N) (hN : 60000 < N) : ∀ (m : MKK) (z : MS), (∃ th sz ch wd, mkeep z = emT m th sz ch wd ∧ (∀ k, k < 24 → th k = 0) ∧ (∀ r, r < 6 → sz r = 8 ∧ ch r = 0)) → ∃ w, it X9_empty_B62 (fun _ _ => none) N z (nI 0) = some w ∧ EmptyOf m (mkeep w) := by
  intro m z h
  refine it_rule (bot := fun _ _ => none) 36 (fun i (z : MS) => ∃ th sz ch wd, mkeep z = emT m th sz ch wd ∧ (∀ k, k < 24 → th k = 0) ∧ (∀ r, r < 6 → sz r = 8 ∧ ch r = 0) ∧ ∀ k, k < i → wd k = 0) (fun k i z => ∃ w, k z (nI i) = some w ∧ EmptyOf m (mkeep w)) ?_ ?_ N 0 z (by omega) (by omega) ?_
  · intro k z hz
    exact ⟨z, by unfold X9_empty_B62; rw [if_pos (by decide)], hz⟩
  · intro k i z hi ⟨th, sz, ch, wd, e, h1, h2, h3⟩ hk
    have hw : M_width z = wd := congrArg (fun m => m.1.2.2.2.2.1) e
    obtain ⟨w, hw1, hw2⟩ := hk (M_set_width z (upd (M_width z) i 0)) ⟨th, sz, ch, upd wd i 0, by rw [mk_width, hw]; exact congrArg (fun m : MKK => ((m.1.1, m.1.2.1, m.1.2.2.1, m.1.2.2.2.1, upd wd i 0, m.1.2.2.2.2.2), m.2)) e, h1, h2, fun k hk => by
      by_cases q : k = i
      · subst q; exact pk_us
      · exact (pk_un q).trans (h3 k (by omega))⟩
    refine ⟨w, ?_, hw2⟩
    unfold X9_empty_B62 ltA
    rw [if_neg (show ¬ (36 : Int32) ≤ nI i from nlit (by decide) hi), chk_nI hi (by decide), nI_clamp (by omega), nI_1]
    exact hw1
  · obtain ⟨th, sz, ch, wd, e, h1, h2⟩ := h
    exact ⟨th, sz, ch, wd, e, h1, h2, fun k hk => absurd hk (Nat.not_lt_zero _)⟩
theorem empty_2 {N : Nat} (hFU : FU = N) (hN : 60000 < N) : ∀ (m : MKK) (z : MS), (∃ th sz ch wd, mkeep z = emT m th sz ch wd ∧ (∀ r, r < 6 → sz r = 8 ∧ ch r = 0)) → ∃ w, it X9_empty_B41 (fun _ _ => none) N z (nI 0) = some w ∧ EmptyOf m (mkeep w) := by
  intro m z h
  refine it_rule (bot := fun _ _ => none) 24 (fun i (z : MS) => ∃ th sz ch wd, mkeep z = emT m th sz ch wd ∧ (∀ k, k < i → th k = 0) ∧ (∀ r, r < 6 → sz r = 8 ∧ ch r = 0)) (fun k i z => ∃ w, k z (nI i) = some w ∧ EmptyOf m (mkeep w)) ?_ ?_ N 0 z (by omega) (by omega) ?_
  · intro k z hz
    obtain ⟨w, hw1, hw2⟩ := empty_3 hFU (by omega) m z hz
    exact ⟨w, by unfold X9_empty_B41; rw [if_pos (by decide), hFU]; exact hw1, hw2⟩
  · intro k i z hi ⟨th, sz, ch, wd, e, h1, h2⟩ hk
    have hw : M_things z = th := congrArg (fun m => m.1.2.1) e
    obtain ⟨w, hw1, hw2⟩ := hk (M_set_things z (upd (M_things z) i 0)) ⟨upd th i 0, sz, ch, wd, by rw [mk_things, hw]; exact congrArg (fun m : MKK => ((m.1.1, upd th i 0, m.1.2.2), m.2)) e, fun k hk => by
      by_cases q : k = i
      · subst q; exact pk_us
      · exact (pk_un q).trans (h1 k (by omega)), h2⟩
    refine ⟨w, ?_, hw2⟩
    unfold X9_empty_B41 ltA
    rw [if_neg (show ¬ (24 : Int32) ≤ nI i from nlit (by decide) hi), chk_nI hi (by decide), nI_clamp (by omega), nI_1]
    exact hw1
  · obtain ⟨th, sz, ch, wd, e, h1⟩ := h
    exact ⟨th, sz, ch, wd, e, fun k hk => absurd hk (Nat.not_lt_zero _), h1⟩
theorem empty_1 {N : Nat} (hFU : FU = N) (hN : 60000 < N) : ∀ (m : MKK) (z : MS), (∃ th sz ch wd, mkeep z = emT m th sz ch wd) → ∃ w, it X9_empty_B12 (fun _ _ => none) N z (nI 0) = some w ∧ EmptyOf m (mkeep w) := by
  intro m z h
  refine it_rule (bot := fun _ _ => none) 6 (fun i (z : MS) => ∃ th sz ch wd, mkeep z = emT m th sz ch wd ∧ (∀ r, r < i → sz r = 8 ∧ ch r = 0)) (fun k i z => ∃ w, k z (nI i) = some w ∧ EmptyOf m (mkeep w)) ?_ ?_ N 0 z (by omega) (by omega) ?_
  · intro k z hz
    obtain ⟨w, hw1, hw2⟩ := empty_2 hFU (by omega) m z hz
    exact ⟨w, by unfold X9_empty_B12; rw [if_pos (by decide), hFU]; exact hw1, hw2⟩
  · intro k i z hi ⟨th, sz, ch, wd, e, h1⟩ hk
    have hw : M_size z = sz := congrArg (fun m => m.1.2.2.1) e
    obtain ⟨z1, ez1⟩ : ∃ y, y = M_set_size z (upd (M_size z) i 8) := ⟨_, rfl⟩
    have e1 : mkeep z1 = emT m th (upd sz i 8) ch wd := by
      rw [ez1, mk_size, hw]; exact congrArg (fun m : MKK => ((m.1.1, m.1.2.1, upd sz i 8, m.1.2.2.2), m.2)) e
    have hc1 : M_chairs z1 = ch := congrArg (fun m => m.1.2.2.2.1) e1
    obtain ⟨w, hw1, hw2⟩ := hk (M_set_chairs z1 (upd (M_chairs z1) i 0)) ⟨th, upd sz i 8, upd ch i 0, wd, by rw [mk_chairs, hc1]; exact congrArg (fun m : MKK => ((m.1.1, m.1.2.1, m.1.2.2.1, upd ch i 0, m.1.2.2.2.2), m.2)) e1, fun k hk => by
      by_cases q : k = i
      · subst q; exact ⟨pk_us, pk_us⟩
      · exact ⟨(pk_un q).trans (h1 k (by omega)).1, (pk_un q).trans (h1 k (by omega)).2⟩⟩
    refine ⟨w, ?_, hw2⟩
    unfold X9_empty_B12 ltA
    rw [if_neg (show ¬ (6 : Int32) ≤ nI i from nlit (by decide) hi), chk_nI hi (by decide), nI_clamp (by omega), ← ez1]
    show chk (nI i) 6 (k (M_set_chairs z1 (upd (M_chairs z1) i 0)) (nI i + 1)) = some w
    rw [chk_nI hi (by decide), nI_1]
    exact hw1
  · obtain ⟨th, sz, ch, wd, e⟩ := h
    exact ⟨th, sz, ch, wd, e, fun k hk => absurd hk (Nat.not_lt_zero _)⟩
theorem empty_spec (z : MS) : ∃ w, f_X9_empty z = some w ∧ EmptyOf (mkeep z) (mkeep w) := by
  obtain ⟨N, hN, hFU⟩ := FU_ex
  unfold f_X9_empty
  rw [hFU, ltA_eq, ltA_eq]
  obtain ⟨z1, ez1⟩ : ∃ y, y = M_set_there z (0 : Int32) := ⟨_, rfl⟩
  have e1 := mk_there z 0
  rw [← ez1] at e1 ⊢
  obtain ⟨w, h1, h2⟩ := empty_1 hFU hN (mkeep z) (M_set_sights z1 0) ⟨M_things z, M_size z, M_chairs z, M_width z, by rw [mk_sights]; exact congrArg (fun m : MKK => ((m.1.1, m.1.2.1, m.1.2.2.1, m.1.2.2.2.1, m.1.2.2.2.2.1, m.1.2.2.2.2.2.1, m.1.2.2.2.2.2.2.1, m.1.2.2.2.2.2.2.2.1, m.1.2.2.2.2.2.2.2.2.1, m.1.2.2.2.2.2.2.2.2.2.1, m.1.2.2.2.2.2.2.2.2.2.2.1, (0 : Int32), m.1.2.2.2.2.2.2.2.2.2.2.2.2), m.2)) e1⟩
  exact ⟨w, h1, h2⟩
end
/-! 52.rooms -/
section
/-- nobody there, n rooms, all as at first -/
def a0 (n : Nat) : AS := (n, 0, 0, fun _ _ => 0, fun _ => 8, fun _ => 0, fun _ _ => 0, fun _ _ => 0, fun _ => 0, fun _ => 0, fun _ => -6, fun _ => 0, fun _ => 0, fun _ => 0)
theorem a0_is (n g : Nat) : a_is (a0 n) g = false := Nat.zero_testBit g
theorem Inv_a0 {n : Nat} (h1 : 2 ≤ n) (h2 : n ≤ 6) : Inv (a0 n) := by
  refine ⟨⟨h1, h2, (by decide : 0 < 256), (by decide : 0 ≤ 6)⟩, fun r _ => ⟨fun s _ => Nat.zero_le _, (by decide : 1 ≤ 8), (by decide : 8 ≤ 9), Nat.zero_le _⟩, fun r q _ _ => ⟨Nat.zero_le _, rfl, fun _ => rfl⟩, fun r _ => rfl, fun g _ _ => ⟨rfl, rfl, fun k _ => rfl⟩, fun g _ h => absurd h (by rw [a0_is]; decide), fun g _ _ => ⟨rfl, rfl⟩, fun g _ h => absurd h (by decide : ¬ 0 = 1), fun g _ h => absurd h (by decide : ¬ 0 = 3), fun r _ => ?_, fun s hs => absurd hs (Nat.not_lt_zero _)⟩
  have : a_in (a0 n) r = 0 := by
    unfold a_in cn8
    rw [List.countP_eq_zero]
    intro g _
    rw [a0_is]
    simp
  rw [this]; exact Nat.zero_le _
theorem clear_mf (f : Nat → Int32) : ∀ r, r < 6 → (∀ s, s < 4 → upd (upd (upd (upd (upd (upd (fillA 36 0 f) 4 8) 10 8) 16 8) 22 8) 28 8) 34 8 (r * 6 + s) = nI 0) ∧ upd (upd (upd (upd (upd (upd (fillA 36 0 f) 4 8) 10 8) 16 8) 22 8) 28 8) 34 8 (r * 6 + 4) = nI 8 ∧ upd (upd (upd (upd (upd (upd (fillA 36 0 f) 4 8) 10 8) 16 8) 22 8) 28 8) 34 8 (r * 6 + 5) = nI 0 := by
  intro r hr
  refine ⟨fun s hs => ?_, ?_, ?_⟩
  · rw [pk_un (by omega), pk_un (by omega), pk_un (by omega), pk_un (by omega), pk_un (by omega), pk_un (by omega)]
    unfold fillA; rw [if_pos (by omega)]; rfl
  · rcases (show r = 0 ∨ r = 1 ∨ r = 2 ∨ r = 3 ∨ r = 4 ∨ r = 5 by omega) with rfl | rfl | rfl | rfl | rfl | rfl <;> rfl
  · rw [pk_un (by omega), pk_un (by omega), pk_un (by omega), pk_un (by omega), pk_un (by omega), pk_un (by omega)]
    unfold fillA; rw [if_pos (by omega)]; rfl
theorem fill_at {α : Type} {n j : Nat} {v : α} {f : Nat → α} (h : j < n) : fillA n v f j = v := if_pos h
theorem clear_spec (h : HS) (n : Nat) : ∃ h', f_X1_clear h (nI n) = some h' ∧ Hc h' (a0 n) := by
  refine ⟨_, clear_eq h (nI n), rfl, rfl, rfl, clear_mf (H_measure h), fun r q hr hq => ?_, fun g hg => ⟨fill_at hg, fill_at hg, fill_at hg, fill_at hg⟩, fun g k hg hk => fill_at (by omega), fun s hs => absurd hs (Nat.not_lt_zero _)⟩
  exact fill_at (by omega)
theorem empty_Mc {m w : MKK} {n : Nat} (h : EmptyOf m w) (hr : m.1.1 = nI n) : Mc w.1 (a0 n) ∧ w.2 = m.2 := by
  obtain ⟨th, sz, ch, wd, rfl, h1, h2, h3⟩ := h
  refine ⟨⟨hr, rfl, rfl, fun r hr => ⟨fun s hs => h1 _ (by omega), (h2 r hr).1, (h2 r hr).2⟩, fun r q hr hq => h3 _ (by omega), fun g hg hi => absurd hi (by rw [a0_is]; decide), fun s hs => absurd hs (Nat.not_lt_zero _)⟩, rfl⟩
theorem init_q : ∃ q0 w0, f_X1_clear zH0 (3 : Int32) = some q0 ∧ f_X9_empty zM0 = some w0 ∧ Rel (q0, zP0, zD0, zY0, zT0, zO0, zS0, zU0, (fun _ => 0), (fun _ => 0), zH0, zH0) w0 := by
  obtain ⟨q0, hq, hH⟩ := clear_spec zH0 3
  obtain ⟨w0, hw, hE⟩ := empty_spec zM0
  obtain ⟨hM, hm⟩ := empty_Mc (n := 3) hE rfl
  refine ⟨q0, w0, hq, hw, ?_⟩
  have e : mkeep w0 = ((mkeep w0).1, (mkeep zM0).2) := by rw [← hm]
  unfold Rel
  rw [e]
  refine ⟨⟨a0 3, Inv_a0 (by decide) (by decide), hH, hM⟩, ⟨0, by decide, rfl, rfl, fun i hi => absurd hi (Nat.not_lt_zero _)⟩, ⟨rfl, Or.inl rfl, fun h => absurd h (by decide : ¬ (0 : Int32) = 1)⟩, ⟨rfl, Or.inl rfl, fun h => absurd h (by decide : ¬ (0 : Int32) = 1)⟩⟩
theorem sim_rooms : Sim_rooms Rel := by
  intro S z x h
  by_cases c1 : x < 2
  · refine ⟨(-2, K_now S), (-2, z), ?_, ?_, rfl, h⟩
    · unfold f_X8_rooms; rw [if_pos c1]
    · unfold f_X9_rooms; rw [in_0 (Or.inl c1), Option.bind_some, if_pos rfl]
  · by_cases c2 : x ≤ 6
    · obtain ⟨n, hn, rfl⟩ := nI_of (x := x) (fun q => c1 (Int32.lt_of_lt_of_le q (by decide)))
      have h2 : 2 ≤ n := by
        rcases Nat.lt_or_ge n 2 with q | q
        · exact absurd (nI_lt q (by decide)) c1
        · exact q
      have h6 : n ≤ 6 := (nI_leI hn (b := 6) (by decide)).mp c2
      obtain ⟨⟨a, hI, hH, hM⟩, hp, hi⟩ := h
      obtain ⟨q, hq, hH'⟩ := clear_spec (K_now S) n
      obtain ⟨z1, ez1⟩ : ∃ y, y = M_set_rooms z (nI n) := ⟨_, rfl⟩
      have k1 := mk_rooms z (nI n)
      rw [← ez1] at k1
      obtain ⟨w, hw, hE⟩ := empty_spec z1
      obtain ⟨hM', hm⟩ := empty_Mc (n := n) hE (congrArg (fun m => m.1.1) k1)
      have hm2 : (mkeep w).2 = (mkeep z).2 := hm.trans (congrArg (fun m => m.2) k1)
      refine ⟨(H_rooms (K_now S), q), (M_rooms z, w), ?_, ?_, hH.1.trans hM.1.symm, ?_⟩
      · unfold f_X8_rooms; rw [if_neg c1, if_pos c2, hq, Option.bind_some]
      · unfold f_X9_rooms; rw [in_1 c1 (Int32.not_lt.mpr c2), Option.bind_some, if_neg (by decide), ltA_eq, ← ez1, hw, Option.bind_some]
      · have e : mkeep w = ((mkeep w).1, (mkeep z).2) := by rw [← hm2]
        unfold Rel
        rw [e]
        exact ⟨⟨a0 n, Inv_a0 h2 h6, hH', hM'⟩, hp, hi⟩
    · refine ⟨(-2, K_now S), (-2, z), ?_, ?_, rfl, h⟩
      · unfold f_X8_rooms; rw [if_neg c1, if_neg c2]
      · unfold f_X9_rooms; rw [in_0 (Or.inr (Int32.not_le.mp c2)), Option.bind_some, if_pos rfl]
end
/-! 53.basic -/
section
set_option maxRecDepth 100000 in
theorem bit_dec : ∀ T : Fin 256, ∀ g : Fin 8, (((nI T.val >>> (nI g.val &&& 31)) &&& 1) = 1 ↔ T.val.testBit g.val = true) := by decide +kernel
theorem bit_1 {T g : Nat} (hT : T < 256) (hg : g < 8) : (((nI T >>> (nI g &&& 31)) &&& 1) = 1 ↔ T.testBit g = true) := bit_dec ⟨T, hT⟩ ⟨g, hg⟩
theorem has_1 {T g : Nat} (hT : T < 256) (hg : g < 8) (h : T.testBit g = true) : f_X9_has (nI T) (nI g) = some 1 := by
  unfold f_X9_has; rw [if_pos ((bit_1 hT hg).mpr h)]
theorem has_0 {T g : Nat} (hT : T < 256) (hg : g < 8) (h : T.testBit g = false) : f_X9_has (nI T) (nI g) = some 0 := by
  unfold f_X9_has; rw [if_neg (fun q => by rw [(bit_1 hT hg).mp q] at h; cases h)]
theorem has_b {T g : Nat} (hT : T < 256) (hg : g < 8) : f_X9_has (nI T) (nI g) = some (if T.testBit g then 1 else 0) := by
  cases h : T.testBit g
  · exact has_0 hT hg h
  · exact has_1 hT hg h
/-- a number is one of 0 to n less 1, or none of them -/
theorem num_cases (x : Int32) {n : Nat} (hn : n < 2 ^ 31) : (∃ j, j < n ∧ x = nI j) ∨ (x < 0 ∨ nI n ≤ x) := by
  by_cases h : x < 0
  · exact Or.inr (Or.inl h)
  · by_cases h2 : nI n ≤ x
    · exact Or.inr (Or.inr h2)
    · exact Or.inl (i_small hn h (Int32.not_le.mp h2))
/-- between 0 and n less 1, on both sides' ways -/
theorem in_nI {j n : Nat} (hj : j < n) (hn : n < 2 ^ 31) : f_X9_in (nI j) 0 (nI (n - 1)) = some 1 := in_1 (nI_pos (by omega)) (nI_nlt (by omega) (by omega))
theorem in_no {x : Int32} {n : Nat} (hn : n < 2 ^ 31) (h0 : 0 < n) (h : x < 0 ∨ nI n ≤ x) : f_X9_in x 0 (nI (n - 1)) = some 0 := by
  rcases h with h | h
  · exact in_0 (Or.inl h)
  · exact in_0 (Or.inr (Int32.lt_of_lt_of_le (nI_lt (by omega) hn) h))
section BS
variable {a : AS} {h : HS} {z : MS}
theorem m_rooms (hM : Mc (mcore z) a) : M_rooms z = nI (a_R a) := hM.1
theorem m_there (hM : Mc (mcore z) a) : M_there z = nI (a_T a) := hM.2.1
theorem rm_cases (hI : Inv a) (hH : Hc h a) (hM : Mc (mcore z) a) (x : Int32) : (∃ r, r < a_R a ∧ x = nI r ∧ f_X1_isRoom h x = some 1 ∧ f_X9_isRoom z x = some 1) ∨ ((x < 0 ∨ nI (a_R a) ≤ x) ∧ f_X1_isRoom h x = some 0 ∧ f_X9_isRoom z x = some 0) := by
  have h2 := hI.1.1
  have h6 := hI.1.2.1
  have e1 : (nI (a_R a) - 1 : Int32) = nI (a_R a - 1) := pk_sub (b := 1) (by omega)
  rcases num_cases x (n := a_R a) (by omega) with ⟨r, hr, rfl⟩ | hx
  · refine Or.inl ⟨r, hr, rfl, ?_, ?_⟩
    · unfold f_X1_isRoom; rw [if_neg (nI_pos (by omega)), hH.1, if_neg (nI_ge hr (by omega))]
    · unfold f_X9_isRoom; rw [m_rooms hM, e1, in_nI hr (by omega), Option.bind_some]; rfl
  · refine Or.inr ⟨hx, ?_, ?_⟩
    · unfold f_X1_isRoom
      by_cases c : x < 0
      · rw [if_pos c]
      · rw [if_neg c, hH.1, if_pos (hx.resolve_left c)]
    · unfold f_X9_isRoom; rw [m_rooms hM, e1, in_no (by omega) (by omega) hx, Option.bind_some]; rfl
theorem th_cases (hI : Inv a) (hH : Hc h a) (hM : Mc (mcore z) a) (x : Int32) : (∃ g, g < 8 ∧ x = nI g ∧ a_is a g = true ∧ f_X1_isThere h x = some 1 ∧ f_X9_isThere z x = some 1) ∨ (f_X1_isThere h x = some 0 ∧ f_X9_isThere z x = some 0) := by
  have hT := hI.1.2.2.1
  rcases num_cases x (n := 8) (by decide) with ⟨g, hg, rfl⟩ | hx
  · have b1 : f_X9_in (nI g) 0 7 = some 1 := in_nI (n := 8) hg (by decide)
    cases e : a_is a g
    · refine Or.inr ⟨?_, ?_⟩
      · unfold f_X1_isThere
        rw [if_neg (nI_pos (by omega)), if_neg (show ¬ (8 : Int32) ≤ nI g from nlit (by decide) hg), hH.2.1, if_neg (fun q => by have := (bit_1 hT hg).mp q; unfold a_is at e; rw [this] at e; cases e)]
      · unfold f_X9_isThere
        rw [b1, Option.bind_some, if_neg (by decide), m_there hM, has_0 hT hg e, Option.bind_some, if_pos rfl]
    · refine Or.inl ⟨g, hg, rfl, e, ?_, ?_⟩
      · unfold f_X1_isThere
        rw [if_neg (nI_pos (by omega)), if_neg (show ¬ (8 : Int32) ≤ nI g from nlit (by decide) hg), hH.2.1, if_pos ((bit_1 hT hg).mpr e)]
      · unfold f_X9_isThere
        rw [b1, Option.bind_some, if_neg (by decide), m_there hM, has_1 hT hg e, Option.bind_some, if_neg (by decide)]
  · refine Or.inr ⟨?_, ?_⟩
    · unfold f_X1_isThere
      by_cases c : x < 0
      · rw [if_pos c]
      · rw [if_neg c, if_pos (show (8 : Int32) ≤ x from hx.resolve_left c)]
    · unfold f_X9_isThere
      rw [show f_X9_in x 0 7 = some 0 from in_no (n := 8) (by decide) (by decide) hx, Option.bind_some, if_pos rfl]
end BS
end
/-! 54.likes -/
section
theorem mk_likes (z : MS) (f : Nat → Int32) : mkeep (M_set_likes z f) = ((M_rooms z, M_things z, M_size z, M_chairs z, M_width z, M_there z, f, M_place z, M_busy z, M_with z, M_left z, M_sights z, M_sight z), M_signs z, M_pad z, M_image z, M_isKept z) := rfl
theorem mk_sight (z : MS) (f : Nat → Int32) : mkeep (M_set_sight z f) = ((M_rooms z, M_things z, M_size z, M_chairs z, M_width z, M_there z, M_likes z, M_place z, M_busy z, M_with z, M_left z, M_sights z, f), M_signs z, M_pad z, M_image z, M_isKept z) := rfl
theorem ix5 (g k : Nat) : nI g * 5 + nI k = nI (g * 5 + k) := by rw [show (5 : Int32) = nI 5 from rfl, pk_mul, nI_add]
theorem ix5' (g k : Nat) : 5 * nI g + nI k = nI (5 * g + k) := by rw [show (5 : Int32) = nI 5 from rfl, pk_mul, nI_add]
theorem ix6 (g k : Nat) : nI g * 6 + nI k = nI (g * 6 + k) := by rw [show (6 : Int32) = nI 6 from rfl, pk_mul, nI_add]
theorem ix6' (g k : Nat) : 6 * nI g + nI k = nI (6 * g + k) := by rw [show (6 : Int32) = nI 6 from rfl, pk_mul, nI_add]
theorem ix4' (g k : Nat) : 4 * nI g + nI k = nI (4 * g + k) := by rw [show (4 : Int32) = nI 4 from rfl, pk_mul, nI_add]
/-- a state with other likes -/
def a_setLk (a : AS) (f : Nat → Nat → Int) : AS := (a_R a, a_T a, a_k a, a_th a, a_sz a, a_ch a, a_wd a, f, a_pl a, a_bs a, a_mt a, a_lf a, a_sg a, a_sr a)
theorem Rel.mk {S : KDS} {z : MS} {a : AS} (hI : Inv a) (hH : Hc (K_now S) a) (hM : Mc (mcore z) a) (h : (RelK (kkeep S) (mkeep z)) ∨ True) (hp : PadR (K_pad S) (M_signs z) (M_pad z)) (h0 : ImgR (K_kept S 0) (M_isKept z 0) (K_img0 S) (mimg (M_image z) 0)) (h1 : ImgR (K_kept S 1) (M_isKept z 1) (K_img1 S) (mimg (M_image z) 200)) : Rel S z := ⟨⟨a, hI, hH, hM⟩, hp, h0, h1⟩
theorem sim_likes : Sim_likes Rel := by
  intro S z x1 x2 x3 h
  obtain ⟨⟨a, hI, hH, hM⟩, h3⟩ := id h
  have hH : Hc (K_now S) a := hH
  have hM : Mc (mcore z) a := hM
  rcases th_cases hI hH hM x1 with ⟨g, hg, rfl, hg1, t1, t2⟩ | ⟨t1, t2⟩
  · rcases num_cases x2 (n := 5) (by decide) with ⟨k, hk, rfl⟩ | hx2
    · have b2 : f_X9_in (nI k) 0 4 = some 1 := in_nI (n := 5) hk (by decide)
      by_cases c3 : x3 < -3
      · refine ⟨(-2, K_now S), (-2, z), ?_, ?_, rfl, h⟩
        · unfold f_X8_likes; rw [t1, Option.bind_some, if_neg (by decide), if_neg (nI_pos (by omega)), if_neg (show ¬ (5 : Int32) ≤ nI k from nlit (by decide) hk), if_pos c3]
        · unfold f_X9_likes; rw [t2, Option.bind_some, if_neg (by decide), b2, Option.bind_some, if_neg (by decide), in_0 (Or.inl c3), Option.bind_some, if_pos rfl]
      · by_cases c4 : x3 ≤ 3
        · have hv : -3 ≤ x3.toInt ∧ x3.toInt ≤ 3 := by
            rw [Int32.not_lt, Int32.le_iff_toInt_le] at c3
            rw [Int32.le_iff_toInt_le] at c4
            exact ⟨c3, c4⟩
          have e1 : H_likes (K_now S) (g * 5 + k) = Int32.ofInt (a_lk a g k) := hH.2.2.2.2.2.2.1 g k hg hk
          have e2 : M_likes z (5 * g + k) = Int32.ofInt (a_lk a g k) := (hM.2.2.2.2.2.1 g hg hg1).2.2.2.2 k hk
          obtain ⟨z1, ez1⟩ : ∃ y, y = M_set_likes z (upd (M_likes z) (5 * g + k) x3) := ⟨_, rfl⟩
          have k1 := mk_likes z (upd (M_likes z) (5 * g + k) x3)
          rw [← ez1] at k1
          refine ⟨(Int32.ofInt (a_lk a g k) + 10, H_set_likes (K_now S) (upd (H_likes (K_now S)) (g * 5 + k) x3)), (Int32.ofInt (a_lk a g k) + 10, z1), ?_, ?_, rfl, ?_⟩
          · unfold f_X8_likes; rw [t1, Option.bind_some, if_neg (by decide), if_neg (nI_pos (by omega)), if_neg (show ¬ (5 : Int32) ≤ nI k from nlit (by decide) hk), if_neg c3, if_pos c4, ix5, chk_nI (by omega) (by decide), chk_nI (by omega) (by decide), nI_clamp (by omega), ltA_eq, e1]
          · unfold f_X9_likes; rw [t2, Option.bind_some, if_neg (by decide), b2, Option.bind_some, if_neg (by decide), in_1 c3 (Int32.not_lt.mpr c4), Option.bind_some, if_neg (by decide), ix5', chk_nI (by omega) (by decide), chk_nI (by omega) (by decide), nI_clamp (by omega), ltA_eq, ← ez1, e2]
          · obtain ⟨i1, i2, i3, i4, i5, i6, i7, i8, i9, i10, i11⟩ := hI
            obtain ⟨d1, d2, d3, d4, d5, d6, d7, d8⟩ := hH
            obtain ⟨m1, m2, m3, m4, m5, m6, m7⟩ := hM
            unfold Rel
            rw [k1]
            refine ⟨⟨a_setLk a (fun g' k' => if g' = g ∧ k' = k then x3.toInt else a_lk a g' k'), ⟨i1, i2, i3, i4, ?_, ?_, i7, i8, i9, i10, i11⟩, ⟨d1, d2, d3, d4, d5, d6, ?_, d8⟩, ⟨m1, m2, m3, m4, m5, ?_, m7⟩⟩, h3⟩
            · intro g' hg' hi'
              refine ⟨(i5 g' hg' hi').1, (i5 g' hg' hi').2.1, fun k' hk' => ?_⟩
              show (if g' = g ∧ k' = k then x3.toInt else a_lk a g' k') = 0
              rw [if_neg (fun q => by rw [q.1] at hi'; exact absurd (hg1.symm.trans hi') (by decide))]
              exact (i5 g' hg' hi').2.2 k' hk'
            · intro g' hg' hi'
              refine ⟨(i6 g' hg' hi').1, (i6 g' hg' hi').2.1, fun k' hk' => ?_⟩
              show -3 ≤ (if g' = g ∧ k' = k then x3.toInt else a_lk a g' k') ∧ (if g' = g ∧ k' = k then x3.toInt else a_lk a g' k') ≤ 3
              by_cases q : g' = g ∧ k' = k
              · rw [if_pos q]; exact hv
              · rw [if_neg q]; exact (i6 g' hg' hi').2.2 k' hk'
            · intro g' k' hg' hk'
              show upd (H_likes (K_now S)) (g * 5 + k) x3 (g' * 5 + k') = Int32.ofInt (if g' = g ∧ k' = k then x3.toInt else a_lk a g' k')
              by_cases q : g' = g ∧ k' = k
              · rw [if_pos q, q.1, q.2, pk_us, Int32.ofInt_toInt]
              · rw [if_neg q, pk_un (by omega)]; exact d7 g' k' hg' hk'
            · intro g' hg' hi'
              refine ⟨(m6 g' hg' hi').1, (m6 g' hg' hi').2.1, (m6 g' hg' hi').2.2.1, (m6 g' hg' hi').2.2.2.1, fun k' hk' => ?_⟩
              show upd (M_likes z) (5 * g + k) x3 (5 * g' + k') = Int32.ofInt (if g' = g ∧ k' = k then x3.toInt else a_lk a g' k')
              by_cases q : g' = g ∧ k' = k
              · rw [if_pos q, q.1, q.2, pk_us, Int32.ofInt_toInt]
              · rw [if_neg q, pk_un (by omega)]; exact (m6 g' hg' hi').2.2.2.2 k' hk'
        · refine ⟨(-2, K_now S), (-2, z), ?_, ?_, rfl, h⟩
          · unfold f_X8_likes; rw [t1, Option.bind_some, if_neg (by decide), if_neg (nI_pos (by omega)), if_neg (show ¬ (5 : Int32) ≤ nI k from nlit (by decide) hk), if_neg c3, if_neg c4]
          · unfold f_X9_likes; rw [t2, Option.bind_some, if_neg (by decide), b2, Option.bind_some, if_neg (by decide), in_0 (Or.inr (Int32.not_le.mp c4)), Option.bind_some, if_pos rfl]
    · have b2 : f_X9_in x2 0 4 = some 0 := in_no (n := 5) (by decide) (by decide) hx2
      refine ⟨(-2, K_now S), (-2, z), ?_, ?_, rfl, h⟩
      · unfold f_X8_likes
        rw [t1, Option.bind_some, if_neg (by decide)]
        by_cases c : x2 < 0
        · rw [if_pos c]
        · rw [if_neg c, if_pos (show (5 : Int32) ≤ x2 from hx2.resolve_left c)]
      · unfold f_X9_likes; rw [t2, Option.bind_some, if_neg (by decide), b2, Option.bind_some, if_pos rfl]
  · refine ⟨(-1, K_now S), (-1, z), ?_, ?_, rfl, h⟩
    · unfold f_X8_likes; rw [t1, Option.bind_some, if_pos rfl]
    · unfold f_X9_likes; rw [t2, Option.bind_some, if_pos rfl]
end
/-! 55.seen -/
section
/-- a state with other sights -/
def a_setSt (a : AS) (k : Nat) (f f2 : Nat → Nat) : AS := (a_R a, a_T a, k, a_th a, a_sz a, a_ch a, a_wd a, a_lk a, a_pl a, a_bs a, a_mt a, a_lf a, f, f2)
theorem sim_seen : Sim_seen Rel := by
  intro S z x1 x2 h
  obtain ⟨⟨a, hI, hH, hM⟩, h3⟩ := id h
  have hH : Hc (K_now S) a := hH
  have hM : Mc (mcore z) a := hM
  have hk6 := hI.1.2.2.2
  have es : H_sights (K_now S) = nI (a_k a) := hH.2.2.1
  have es2 : M_sights z = nI (a_k a) := hM.2.2.1
  rcases num_cases x1 (n := 8) (by decide) with ⟨g, hg, rfl⟩ | hx1
  · have b1 : f_X9_in (nI g) 0 7 = some 1 := in_nI (n := 8) hg (by decide)
    rcases rm_cases hI hH hM x2 with ⟨r, hr, rfl, t1, t2⟩ | ⟨hx2, t1, t2⟩
    · by_cases c : a_k a = 6
      · refine ⟨(-4, K_now S), (-4, z), ?_, ?_, rfl, h⟩
        · unfold f_X8_seen; rw [if_neg (nI_pos (by omega)), if_neg (show ¬ (8 : Int32) ≤ nI g from nlit (by decide) hg), t1, Option.bind_some, if_neg (by decide), es, c, if_neg (by decide)]
        · unfold f_X9_seen; rw [b1, Option.bind_some, if_neg (by decide), t2, Option.bind_some, if_neg (by decide), es2, c, if_pos (by decide)]
      · have hlt : a_k a < 6 := by omega
        obtain ⟨z1, ez1⟩ : ∃ y, y = M_set_sight z (upd (M_sight z) (2 * a_k a) (nI g)) := ⟨_, rfl⟩
        have k1 := mk_sight z (upd (M_sight z) (2 * a_k a) (nI g))
        rw [← ez1] at k1
        have s1 : M_sights z1 = nI (a_k a) := (congrArg (fun m => m.1.2.2.2.2.2.2.2.2.2.2.2.1) k1).trans es2
        have f1 : M_sight z1 = upd (M_sight z) (2 * a_k a) (nI g) := congrArg (fun m => m.1.2.2.2.2.2.2.2.2.2.2.2.2) k1
        obtain ⟨z2, ez2⟩ : ∃ y, y = M_set_sight z1 (upd (M_sight z1) (2 * a_k a + 1) (nI r)) := ⟨_, rfl⟩
        have k2 := mk_sight z1 (upd (M_sight z1) (2 * a_k a + 1) (nI r))
        rw [← ez2, f1] at k2
        have s2 : M_sights z2 = nI (a_k a) := (congrArg (fun m => m.1.2.2.2.2.2.2.2.2.2.2.2.1) k2).trans s1
        obtain ⟨z3, ez3⟩ : ∃ y, y = M_set_sights z2 (nI (a_k a) + 1) := ⟨_, rfl⟩
        have k3 := mk_sights z2 (nI (a_k a) + 1)
        rw [← ez3] at k3
        have s3 : M_sights z3 = nI (a_k a) + 1 := congrArg (fun m => m.1.2.2.2.2.2.2.2.2.2.2.2.1) k3
        have k3' : mkeep z3 = ((M_rooms z, M_things z, M_size z, M_chairs z, M_width z, M_there z, M_likes z, M_place z, M_busy z, M_with z, M_left z, nI (a_k a) + 1, upd (upd (M_sight z) (2 * a_k a) (nI g)) (2 * a_k a + 1) (nI r)), M_signs z, M_pad z, M_image z, M_isKept z) := by
          refine k3.trans ?_
          refine (congrArg (fun m : MKK => ((m.1.1, m.1.2.1, m.1.2.2.1, m.1.2.2.2.1, m.1.2.2.2.2.1, m.1.2.2.2.2.2.1, m.1.2.2.2.2.2.2.1, m.1.2.2.2.2.2.2.2.1, m.1.2.2.2.2.2.2.2.2.1, m.1.2.2.2.2.2.2.2.2.2.1, m.1.2.2.2.2.2.2.2.2.2.2.1, nI (a_k a) + 1, m.1.2.2.2.2.2.2.2.2.2.2.2.2), m.2)) k2).trans ?_
          exact congrArg (fun m : MKK => ((m.1.1, m.1.2.1, m.1.2.2.1, m.1.2.2.2.1, m.1.2.2.2.2.1, m.1.2.2.2.2.2.1, m.1.2.2.2.2.2.2.1, m.1.2.2.2.2.2.2.2.1, m.1.2.2.2.2.2.2.2.2.1, m.1.2.2.2.2.2.2.2.2.2.1, m.1.2.2.2.2.2.2.2.2.2.2.1, nI (a_k a) + 1, upd (upd (M_sight z) (2 * a_k a) (nI g)) (2 * a_k a + 1) (nI r)), m.2)) k1
        have i2 : (2 : Int32) * nI (a_k a) = nI (2 * a_k a) := by rw [show (2 : Int32) = nI 2 from rfl, pk_mul]
        refine ⟨(nI (a_k a) + 1, H_set_sights (H_set_sightRoom (H_set_sightGuest (K_now S) (upd (H_sightGuest (K_now S)) (a_k a) (nI g))) (upd (H_sightRoom (K_now S)) (a_k a) (nI r))) (nI (a_k a) + 1)), (nI (a_k a) + 1, z3), ?_, ?_, rfl, ?_⟩
        · unfold f_X8_seen; rw [if_neg (nI_pos (by omega)), if_neg (show ¬ (8 : Int32) ≤ nI g from nlit (by decide) hg), t1, Option.bind_some, if_neg (by decide), es, if_pos (show nI (a_k a) < (6 : Int32) from nI_lt hlt (by decide)), chk_nI hlt (by decide), nI_clamp (by omega), ltA_eq, chk_nI hlt (by decide), ltA_eq]
        · unfold f_X9_seen; rw [b1, Option.bind_some, if_neg (by decide), t2, Option.bind_some, if_neg (by decide), es2, if_neg (show ¬ nI (a_k a) = (6 : Int32) from fun q => c ((nI_eq (by omega) (b := 6) (by decide)).mp q)), i2, chk_nI (by omega) (by decide), nI_clamp (by omega), ltA_eq, ← ez1, s1, i2, nI_1, chk_nI (by omega) (by decide), nI_clamp (by omega), ltA_eq, ← ez2, s2, ltA_eq, ← ez3, s3]
        · obtain ⟨i1, i2, i3, i4, i5, i6, i7, i8, i9, i10, i11⟩ := hI
          obtain ⟨d1, d2, d3, d4, d5, d6, d7, d8⟩ := hH
          obtain ⟨m1, m2, m3, m4, m5, m6, m7⟩ := hM
          unfold Rel
          rw [k3']
          refine ⟨⟨a_setSt a (a_k a + 1) (fun s => if s = a_k a then g else a_sg a s) (fun s => if s = a_k a then r else a_sr a s), ⟨⟨i1.1, i1.2.1, i1.2.2.1, hlt⟩, i2, i3, i4, i5, i6, i7, i8, i9, i10, ?_⟩, ⟨d1, d2, nI_1 _, d4, d5, d6, d7, ?_⟩, ⟨m1, m2, nI_1 _, m4, m5, m6, ?_⟩⟩, h3⟩
          · intro s hs
            show (if s = a_k a then g else a_sg a s) < 8 ∧ (if s = a_k a then r else a_sr a s) < a_R a
            by_cases q : s = a_k a
            · rw [if_pos q, if_pos q]; exact ⟨hg, hr⟩
            · rw [if_neg q, if_neg q]; exact i11 s (by have : s < a_k a + 1 := hs; omega)
          · intro s hs
            show upd (H_sightGuest (K_now S)) (a_k a) (nI g) s = nI (if s = a_k a then g else a_sg a s) ∧ upd (H_sightRoom (K_now S)) (a_k a) (nI r) s = nI (if s = a_k a then r else a_sr a s)
            by_cases q : s = a_k a
            · rw [if_pos q, if_pos q, q, pk_us, pk_us]; exact ⟨rfl, rfl⟩
            · rw [if_neg q, if_neg q, pk_un q, pk_un q]; exact d8 s (by have : s < a_k a + 1 := hs; omega)
          · intro s hs
            show upd (upd (M_sight z) (2 * a_k a) (nI g)) (2 * a_k a + 1) (nI r) (2 * s) = nI (if s = a_k a then g else a_sg a s) ∧ upd (upd (M_sight z) (2 * a_k a) (nI g)) (2 * a_k a + 1) (nI r) (2 * s + 1) = nI (if s = a_k a then r else a_sr a s)
            by_cases q : s = a_k a
            · rw [if_pos q, if_pos q, q, pk_un (by omega), pk_us, pk_us]; exact ⟨rfl, rfl⟩
            · rw [if_neg q, if_neg q, pk_un (by omega), pk_un (by omega), pk_un (by omega), pk_un (by omega)]; exact m7 s (by have : s < a_k a + 1 := hs; omega)
    · refine ⟨(-1, K_now S), (-1, z), ?_, ?_, rfl, h⟩
      · unfold f_X8_seen; rw [if_neg (nI_pos (by omega)), if_neg (show ¬ (8 : Int32) ≤ nI g from nlit (by decide) hg), t1, Option.bind_some, if_pos rfl]
      · unfold f_X9_seen; rw [b1, Option.bind_some, if_neg (by decide), t2, Option.bind_some, if_pos rfl]
  · refine ⟨(-1, K_now S), (-1, z), ?_, ?_, rfl, h⟩
    · unfold f_X8_seen
      by_cases c : x1 < 0
      · rw [if_pos c]
      · rw [if_neg c, if_pos (show (8 : Int32) ≤ x1 from hx1.resolve_left c)]
    · unfold f_X9_seen; rw [show f_X9_in x1 0 7 = some 0 from in_no (n := 8) (by decide) (by decide) hx1, Option.bind_some, if_pos rfl]
end
/-! 56.asnow -/
section
/-- the reference's own present -/
abbrev MSC : Type := (Nat → Int32) × (Nat → Int32) × (Nat → Int32) × (Nat → Int32) × (Nat → Int32) × Int32 × (Nat → Int32)
def msc (z : MS) : MSC := (M_at z, M_busyNow z, M_withNow z, M_leftNow z, M_thingsNow z, M_loose z, M_through z)
theorem ms_at (z : MS) (f : Nat → Int32) : msc (M_set_at z f) = (f, M_busyNow z, M_withNow z, M_leftNow z, M_thingsNow z, M_loose z, M_through z) := rfl
theorem ms_busyNow (z : MS) (f : Nat → Int32) : msc (M_set_busyNow z f) = (M_at z, f, M_withNow z, M_leftNow z, M_thingsNow z, M_loose z, M_through z) := rfl
theorem ms_withNow (z : MS) (f : Nat → Int32) : msc (M_set_withNow z f) = (M_at z, M_busyNow z, f, M_leftNow z, M_thingsNow z, M_loose z, M_through z) := rfl
theorem ms_leftNow (z : MS) (f : Nat → Int32) : msc (M_set_leftNow z f) = (M_at z, M_busyNow z, M_withNow z, f, M_thingsNow z, M_loose z, M_through z) := rfl
theorem ms_thingsNow (z : MS) (f : Nat → Int32) : msc (M_set_thingsNow z f) = (M_at z, M_busyNow z, M_withNow z, M_leftNow z, f, M_loose z, M_through z) := rfl
theorem ms_loose (z : MS) (v : Int32) : msc (M_set_loose z v) = (M_at z, M_busyNow z, M_withNow z, M_leftNow z, M_thingsNow z, v, M_through z) := rfl
theorem ms_through (z : MS) (f : Nat → Int32) : msc (M_set_through z f) = (M_at z, M_busyNow z, M_withNow z, M_leftNow z, M_thingsNow z, M_loose z, f) := rfl
/-- what a set leaves, by its name: the lasting part and the present -/
theorem set_at {z z' : MS} {f : Nat → Int32} (h : z' = M_set_at z f) : mkeep z' = mkeep z ∧ msc z' = (f, (msc z).2) := by subst h; exact ⟨kp_at z f, ms_at z f⟩
theorem set_busyNow {z z' : MS} {f : Nat → Int32} (h : z' = M_set_busyNow z f) : mkeep z' = mkeep z ∧ msc z' = ((msc z).1, f, (msc z).2.2) := by subst h; exact ⟨kp_busyNow z f, ms_busyNow z f⟩
theorem set_withNow {z z' : MS} {f : Nat → Int32} (h : z' = M_set_withNow z f) : mkeep z' = mkeep z ∧ msc z' = ((msc z).1, (msc z).2.1, f, (msc z).2.2.2) := by subst h; exact ⟨kp_withNow z f, ms_withNow z f⟩
theorem set_leftNow {z z' : MS} {f : Nat → Int32} (h : z' = M_set_leftNow z f) : mkeep z' = mkeep z ∧ msc z' = ((msc z).1, (msc z).2.1, (msc z).2.2.1, f, (msc z).2.2.2.2) := by subst h; exact ⟨kp_leftNow z f, ms_leftNow z f⟩
theorem set_thingsNow {z z' : MS} {f : Nat → Int32} (h : z' = M_set_thingsNow z f) : mkeep z' = mkeep z ∧ msc z' = ((msc z).1, (msc z).2.1, (msc z).2.2.1, (msc z).2.2.2.1, f, (msc z).2.2.2.2.2) := by subst h; exact ⟨kp_thingsNow z f, ms_thingsNow z f⟩
theorem set_loose {z z' : MS} {v : Int32} (h : z' = M_set_loose z v) : mkeep z' = mkeep z ∧ msc z' = ((msc z).1, (msc z).2.1, (msc z).2.2.1, (msc z).2.2.2.1, (msc z).2.2.2.2.1, v, (msc z).2.2.2.2.2.2) := by subst h; exact ⟨kp_loose z v, ms_loose z v⟩
theorem set_through {z z' : MS} {f : Nat → Int32} (h : z' = M_set_through z f) : mkeep z' = mkeep z ∧ msc z' = ((msc z).1, (msc z).2.1, (msc z).2.2.1, (msc z).2.2.2.1, (msc z).2.2.2.2.1, (msc z).2.2.2.2.2.1, f) := by subst h; exact ⟨kp_through z f, ms_through z f⟩
def AsN (z0 z : MS) (i j : Nat) : Prop := mkeep z = mkeep z0 ∧ (∀ g, g < i → M_at z g = M_place z0 g ∧ M_busyNow z g = M_busy z0 g ∧ M_withNow z g = M_with z0 g ∧ M_leftNow z g = M_left z0 g) ∧ ∀ k, k < j → M_thingsNow z k = M_things z0 k
theorem asNow_2 {N : Nat} (hN : 60000 < N) (z0 z : MS) (h : AsN z0 z 8 0) : ∃ w, it X9_asNow_B64 (fun _ _ => none) N z (nI 0) = some w ∧ AsN z0 w 8 24 ∧ M_loose w = -6 := by
  refine it_rule (bot := fun _ _ => none) 24 (fun i z => AsN z0 z 8 i) (fun k i z => ∃ w, k z (nI i) = some w ∧ AsN z0 w 8 24 ∧ M_loose w = -6) ?_ ?_ N 0 z (by omega) (by omega) h
  · intro k z hz
    obtain ⟨z1, ez1⟩ : ∃ y, y = M_set_loose z (-6 : Int32) := ⟨_, rfl⟩
    obtain ⟨e1, e2⟩ := set_loose ez1
    refine ⟨z1, ?_, ⟨e1.trans hz.1, ?_, ?_⟩, congrArg (fun m => m.2.2.2.2.2.1) e2⟩
    · unfold X9_asNow_B64; rw [if_pos (by decide), ltA_eq, ← ez1]
    · intro g hg
      have q1 : M_at z1 = M_at z := congrArg (fun m => m.1) e2
      have q2 : M_busyNow z1 = M_busyNow z := congrArg (fun m => m.2.1) e2
      have q3 : M_withNow z1 = M_withNow z := congrArg (fun m => m.2.2.1) e2
      have q4 : M_leftNow z1 = M_leftNow z := congrArg (fun m => m.2.2.2.1) e2
      rw [q1, q2, q3, q4]; exact hz.2.1 g hg
    · intro k hk
      have q5 : M_thingsNow z1 = M_thingsNow z := congrArg (fun m => m.2.2.2.2.1) e2
      rw [q5]; exact hz.2.2 k hk
  · intro k i z hi hz hk
    have t0 : M_things z = M_things z0 := congrArg (fun m => m.1.2.1) hz.1
    obtain ⟨z1, ez1⟩ : ∃ y, y = M_set_thingsNow z (upd (M_thingsNow z) i (M_things z i)) := ⟨_, rfl⟩
    obtain ⟨e1, e2⟩ := set_thingsNow ez1
    obtain ⟨w, hw1, hw2⟩ := hk z1 ⟨e1.trans hz.1, fun g hg => by
      have q1 : M_at z1 = M_at z := congrArg (fun m => m.1) e2
      have q2 : M_busyNow z1 = M_busyNow z := congrArg (fun m => m.2.1) e2
      have q3 : M_withNow z1 = M_withNow z := congrArg (fun m => m.2.2.1) e2
      have q4 : M_leftNow z1 = M_leftNow z := congrArg (fun m => m.2.2.2.1) e2
      rw [q1, q2, q3, q4]; exact hz.2.1 g hg, fun j hj => by
      have q5 : M_thingsNow z1 = upd (M_thingsNow z) i (M_things z i) := congrArg (fun m => m.2.2.2.2.1) e2
      rw [q5]
      by_cases q : j = i
      · subst q; rw [pk_us, t0]
      · rw [pk_un q]; exact hz.2.2 j (by omega)⟩
    refine ⟨w, ?_, hw2⟩
    unfold X9_asNow_B64
    rw [if_neg (show ¬ (24 : Int32) ≤ nI i from nlit (by decide) hi), chk_nI hi (by decide), chk_nI hi (by decide), nI_clamp (by omega), ltA_eq, ← ez1, nI_1]
    exact hw1
theorem asNow_1 {N : Nat} (hFU : FU = N) (hN : 60000 < N) (z : MS) : ∃ w, it X9_asNow_B2 (fun _ _ => none) N z (nI 0) = some w ∧ AsN z w 8 24 ∧ M_loose w = -6 := by
  have z0 := z
  refine it_rule (bot := fun _ _ => none) 8 (fun i z' => AsN z z' i 0) (fun k i z' => ∃ w, k z' (nI i) = some w ∧ AsN z w 8 24 ∧ M_loose w = -6) ?_ ?_ N 0 z (by omega) (by omega) ⟨rfl, fun g hg => absurd hg (Nat.not_lt_zero _), fun k hk => absurd hk (Nat.not_lt_zero _)⟩
  · intro k z1 hz
    obtain ⟨w, hw1, hw2⟩ := asNow_2 hN z z1 hz
    exact ⟨w, by unfold X9_asNow_B2; rw [if_pos (by decide), hFU]; exact hw1, hw2⟩
  · intro k i y hi hy hk
    have p0 : M_place y = M_place z := congrArg (fun m => m.1.2.2.2.2.2.2.2.1) hy.1
    obtain ⟨y1, ey1⟩ : ∃ x, x = M_set_at y (upd (M_at y) i (M_place y i)) := ⟨_, rfl⟩
    obtain ⟨a1, b1⟩ := set_at ey1
    obtain ⟨y2, ey2⟩ : ∃ x, x = M_set_busyNow y1 (upd (M_busyNow y1) i (M_busy y1 i)) := ⟨_, rfl⟩
    obtain ⟨a2, b2⟩ := set_busyNow ey2
    obtain ⟨y3, ey3⟩ : ∃ x, x = M_set_withNow y2 (upd (M_withNow y2) i (M_with y2 i)) := ⟨_, rfl⟩
    obtain ⟨a3, b3⟩ := set_withNow ey3
    obtain ⟨y4, ey4⟩ : ∃ x, x = M_set_leftNow y3 (upd (M_leftNow y3) i (M_left y3 i)) := ⟨_, rfl⟩
    obtain ⟨a4, b4⟩ := set_leftNow ey4
    have k1 := a1.trans hy.1
    have k2 := a2.trans k1
    have k3 := a3.trans k2
    have k4 := a4.trans k3
    have c1 : M_busy y1 = M_busy z := congrArg (fun m => m.1.2.2.2.2.2.2.2.2.1) k1
    have c2 : M_with y2 = M_with z := congrArg (fun m => m.1.2.2.2.2.2.2.2.2.2.1) k2
    have c3 : M_left y3 = M_left z := congrArg (fun m => m.1.2.2.2.2.2.2.2.2.2.2.1) k3
    have b4' : msc y4 = (upd (M_at y) i (M_place z i), upd (M_busyNow y) i (M_busy z i), upd (M_withNow y) i (M_with z i), upd (M_leftNow y) i (M_left z i), M_thingsNow y, M_loose y, M_through y) := by
      have d1 : M_busyNow y1 = M_busyNow y := congrArg (fun m => m.2.1) b1
      have d2 : M_withNow y2 = M_withNow y1 := congrArg (fun m => m.2.2.1) b2
      have d2' : M_withNow y1 = M_withNow y := congrArg (fun m => m.2.2.1) b1
      have d3 : M_leftNow y3 = M_leftNow y2 := congrArg (fun m => m.2.2.2.1) b3
      have d3' : M_leftNow y2 = M_leftNow y1 := congrArg (fun m => m.2.2.2.1) b2
      have d3'' : M_leftNow y1 = M_leftNow y := congrArg (fun m => m.2.2.2.1) b1
      rw [b4, b3, b2, b1, c1, c2, c3, d1, d2, d2', d3, d3', d3'', p0]
      rfl
    obtain ⟨w, hw1, hw2⟩ := hk y4 ⟨k4, fun g hg => by
      have q1 : M_at y4 = upd (M_at y) i (M_place z i) := congrArg (fun m => m.1) b4'
      have q2 : M_busyNow y4 = upd (M_busyNow y) i (M_busy z i) := congrArg (fun m => m.2.1) b4'
      have q3 : M_withNow y4 = upd (M_withNow y) i (M_with z i) := congrArg (fun m => m.2.2.1) b4'
      have q4 : M_leftNow y4 = upd (M_leftNow y) i (M_left z i) := congrArg (fun m => m.2.2.2.1) b4'
      rw [q1, q2, q3, q4]
      by_cases q : g = i
      · subst q; rw [pk_us, pk_us, pk_us, pk_us]; exact ⟨rfl, rfl, rfl, rfl⟩
      · rw [pk_un q, pk_un q, pk_un q, pk_un q]; exact hy.2.1 g (by omega), fun k hk => absurd hk (Nat.not_lt_zero _)⟩
    refine ⟨w, ?_, hw2⟩
    unfold X9_asNow_B2
    rw [if_neg (show ¬ (8 : Int32) ≤ nI i from nlit (by decide) hi), chk_nI hi (by decide), chk_nI hi (by decide), nI_clamp (by omega), ltA_eq, ← ey1, chk_nI hi (by decide), chk_nI hi (by decide), ltA_eq, ← ey2, chk_nI hi (by decide), chk_nI hi (by decide), ltA_eq, ← ey3, chk_nI hi (by decide), chk_nI hi (by decide), ltA_eq, ← ey4, nI_1]
    exact hw1
/-- asNow(): the present is as it is; nothing that lasts changes -/
theorem asNow_spec (z : MS) : ∃ w, f_X9_asNow z = some w ∧ AsN z w 8 24 ∧ M_loose w = -6 := by
  obtain ⟨N, hN, hFU⟩ := FU_ex
  unfold f_X9_asNow
  rw [hFU]
  exact asNow_1 hFU hN z
end
/-! 57.state -/
section
/-- the reference's present, read as a lasting part -/
def mnow (w : MS) : MK := (M_rooms w, M_thingsNow w, M_size w, M_chairs w, M_width w, M_there w, M_likes w, M_at w, M_busyNow w, M_withNow w, M_leftNow w, M_sights w, M_sight w)
theorem asNow_Mc {z w : MS} {a : AS} (hM : Mc (mcore z) a) (h : AsN z w 8 24) : Mc (mnow w) a := by
  obtain ⟨m1, m2, m3, m4, m5, m6, m7⟩ := hM
  obtain ⟨k, h1, h2⟩ := h
  have e0 : M_rooms w = M_rooms z := congrArg (fun m => m.1.1) k
  have e2 : M_size w = M_size z := congrArg (fun m => m.1.2.2.1) k
  have e3 : M_chairs w = M_chairs z := congrArg (fun m => m.1.2.2.2.1) k
  have e4 : M_width w = M_width z := congrArg (fun m => m.1.2.2.2.2.1) k
  have e5 : M_there w = M_there z := congrArg (fun m => m.1.2.2.2.2.2.1) k
  have e6 : M_likes w = M_likes z := congrArg (fun m => m.1.2.2.2.2.2.2.1) k
  have e7 : M_sights w = M_sights z := congrArg (fun m => m.1.2.2.2.2.2.2.2.2.2.2.2.1) k
  have e8 : M_sight w = M_sight z := congrArg (fun m => m.1.2.2.2.2.2.2.2.2.2.2.2.2) k
  refine ⟨e0.trans m1, e5.trans m2, e7.trans m3, fun r hr => ⟨fun s hs => (h2 _ (by omega)).trans ((m4 r hr).1 s hs), ?_, ?_⟩, fun r q hr hq => ?_, fun g hg hi => ⟨?_, ?_, ?_, fun hb => ?_, fun k hk => ?_⟩, fun s hs => ?_⟩
  · show M_size w r = _; rw [e2]; exact (m4 r hr).2.1
  · show M_chairs w r = _; rw [e3]; exact (m4 r hr).2.2
  · show M_width w _ = _; rw [e4]; exact m5 r q hr hq
  · exact (h1 g hg).1.trans (m6 g hg hi).1
  · exact (h1 g hg).2.1.trans (m6 g hg hi).2.1
  · exact (h1 g hg).2.2.2.trans (m6 g hg hi).2.2.1
  · exact (h1 g hg).2.2.1.trans ((m6 g hg hi).2.2.2.1 hb)
  · show M_likes w _ = _; rw [e6]; exact (m6 g hg hi).2.2.2.2 k hk
  · show M_sight w _ = _ ∧ M_sight w _ = _; rw [e8]; exact m7 s hs
/-- what is told of a guest -/
def tellA (a : AS) (g t : Nat) : Int32 := if t = 0 then nI (a_pl a g) else if t = 1 then nI (a_bs a g) else if t = 2 then Int32.ofInt (a_mt a g) else nI (a_lf a g)
theorem tell_spec {h : HS} {a : AS} (hH : Hc h a) {g t : Nat} (hg : g < 8) (ht : t < 4) : f_X1_tellGuest h (nI g) (nI t) = some (tellA a g t) := by
  have e := hH.2.2.2.2.2.1 g hg
  unfold f_X1_tellGuest tellA
  rw [chk_nI hg (by decide), chk_nI hg (by decide), chk_nI hg (by decide), chk_nI hg (by decide), nI_clamp (by omega), e.1, e.2.1, e.2.2.1, e.2.2.2]
  rcases (show t = 0 ∨ t = 1 ∨ t = 2 ∨ t = 3 by omega) with rfl | rfl | rfl | rfl <;> rfl
theorem lf_0 {a : AS} (hI : Inv a) {g : Nat} (hg : g < 8) (hb : a_bs a g ≠ 1) (h3 : a_bs a g ≤ 3) : a_lf a g = 0 := by
  rcases (show a_bs a g = 0 ∨ a_bs a g = 2 ∨ a_bs a g = 3 by omega) with q | q | q
  · exact (hI.2.2.2.2.2.2.1 g hg (Or.inl q)).2
  · exact (hI.2.2.2.2.2.2.1 g hg (Or.inr q)).2
  · exact (hI.2.2.2.2.2.2.2.2.1 g hg q).1
theorem stateNow_spec {w : MS} {a : AS} (hI : Inv a) (hM : Mc (mnow w) a) {g t : Nat} (hg : g < 8) (hi : a_is a g = true) (ht : t < 4) : f_X9_stateNow w (nI g) (nI t) = some (tellA a g t) := by
  obtain ⟨e1, e2, e3, e4, -⟩ := hM.2.2.2.2.2.1 g hg hi
  have e1 : M_at w g = nI (a_pl a g) := e1
  have e2 : M_busyNow w g = nI (a_bs a g) := e2
  have e3 : M_leftNow w g = nI (a_lf a g) := e3
  have e4 : a_bs a g = 1 ∨ a_bs a g = 3 → M_withNow w g = Int32.ofInt (a_mt a g) := e4
  have b3 := (hI.2.2.2.2.2.1 g hg hi).2.1
  have J : ∀ s0 : Int32, (s0 = 0 → a_bs a g = 1 ∨ a_bs a g = 3) → (¬ s0 = 0 → a_bs a g = 0 ∨ a_bs a g = 2) → X9_stateNow_J24 w (nI g) (nI t) s0 = some (tellA a g t) := by
    intro s0 q0 q1
    unfold X9_stateNow_J24 tellA
    rw [chk_nI hg (by decide), chk_nI hg (by decide), chk_nI hg (by decide), chk_nI hg (by decide), chk_nI hg (by decide), nI_clamp (by omega), e1, e2, e3]
    rcases (show t = 0 ∨ t = 1 ∨ t = 2 ∨ t = 3 by omega) with rfl | rfl | rfl | rfl
    · rfl
    · rfl
    · show (if s0 = 0 then some (M_withNow w g) else some (-6)) = some (Int32.ofInt (a_mt a g))
      by_cases c : s0 = 0
      · rw [if_pos c, e4 (q0 c)]
      · rw [if_neg c, (hI.2.2.2.2.2.2.1 g hg (q1 c)).1]; rfl
    · show (if nI (a_bs a g) = 1 then some (nI (a_lf a g)) else some 0) = some (nI (a_lf a g))
      by_cases c : a_bs a g = 1
      · rw [c, if_pos (show nI 1 = (1 : Int32) from rfl)]
      · rw [if_neg (show ¬ nI (a_bs a g) = (1 : Int32) from fun q => c ((nI_eq (by omega) (b := 1) (by decide)).mp q)), lf_0 hI hg c b3]; rfl
  unfold f_X9_stateNow X9_stateNow_J19
  rw [chk_nI hg (by decide), chk_nI hg (by decide), nI_clamp (by omega), e2]
  by_cases c0 : a_bs a g = 0
  · rw [c0, if_pos (show nI 0 = (0 : Int32) from rfl)]; exact J 1 (fun q => absurd q (by decide)) (fun _ => Or.inl c0)
  · rw [if_neg (show ¬ nI (a_bs a g) = (0 : Int32) from fun q => c0 ((nI_eq (by omega) (b := 0) (by decide)).mp q))]
    by_cases c2 : a_bs a g = 2
    · rw [c2, if_pos (show nI 2 = (2 : Int32) from rfl)]; exact J 1 (fun q => absurd q (by decide)) (fun _ => Or.inr c2)
    · rw [if_neg (show ¬ nI (a_bs a g) = (2 : Int32) from fun q => c2 ((nI_eq (by omega) (b := 2) (by decide)).mp q))]
      exact J 0 (fun _ => by omega) (fun q => absurd rfl q)
theorem sim_state : Sim_state Rel := by
  intro S z x1 x2 h
  obtain ⟨⟨a, hI, hH, hM⟩, h3⟩ := id h
  have hH : Hc (K_now S) a := hH
  have hM : Mc (mcore z) a := hM
  rcases th_cases hI hH hM x1 with ⟨g, hg, rfl, hg1, t1, t2⟩ | ⟨t1, t2⟩
  · rcases num_cases x2 (n := 4) (by decide) with ⟨t, ht, rfl⟩ | hx2
    · obtain ⟨w, hw, hA, -⟩ := asNow_spec z
      refine ⟨tellA a g t, (tellA a g t, w), ?_, ?_, rfl, h.to rfl hA.1⟩
      · unfold f_X8_state; rw [t1, Option.bind_some, if_neg (by decide), tell_spec hH hg ht, Option.bind_some]
      · unfold f_X9_state; rw [t2, Option.bind_some, if_neg (by decide), show f_X9_in (nI t) 0 3 = some 1 from in_nI (n := 4) ht (by decide), Option.bind_some, if_neg (by decide), hw, Option.bind_some, stateNow_spec hI (asNow_Mc hM hA) hg hg1 ht, Option.bind_some]
    · refine ⟨-2, (-2, z), ?_, ?_, rfl, h⟩
      · unfold f_X8_state f_X1_tellGuest
        have n0 : ∀ j : Nat, j < 4 → ¬ x2 = nI j := fun j hj q => by
          rcases hx2 with c | c
          · rw [q] at c; exact nI_pos (by omega) c
          · rw [q] at c; exact nlit (by decide) hj c
        rw [t1, Option.bind_some, if_neg (by decide), if_neg (show ¬ x2 = (0 : Int32) from n0 0 (by decide)), if_neg (show ¬ x2 = (1 : Int32) from n0 1 (by decide)), if_neg (show ¬ x2 = (2 : Int32) from n0 2 (by decide)), if_neg (show ¬ x2 = (3 : Int32) from n0 3 (by decide)), Option.bind_some]
      · unfold f_X9_state; rw [t2, Option.bind_some, if_neg (by decide), show f_X9_in x2 0 3 = some 0 from in_no (n := 4) (by decide) (by decide) hx2, Option.bind_some, if_pos rfl]
  · refine ⟨-1, (-1, z), ?_, ?_, rfl, h⟩
    · unfold f_X8_state; rw [t1, Option.bind_some, if_pos rfl]
    · unfold f_X9_state; rw [t2, Option.bind_some, if_pos rfl]
end
/-! 58.count -/
section
/-- how many below i -/
def cnt (p : Nat → Bool) (i : Nat) : Nat := (List.range i).countP p
theorem cnt_0 (p : Nat → Bool) : cnt p 0 = 0 := rfl
theorem cnt_s (p : Nat → Bool) (i : Nat) : cnt p (i + 1) = cnt p i + (if p i then 1 else 0) := by
  unfold cnt; rw [List.range_succ, List.countP_append]; simp [List.countP_cons]
theorem cnt_le (p : Nat → Bool) (i : Nat) : cnt p i ≤ i := by
  have := List.countP_le_length (p := p) (l := List.range i)
  rwa [List.length_range] at this
theorem cn8_cnt (p : Nat → Bool) : cn8 p = cnt p 8 := rfl
theorem cnt_congr {p q : Nat → Bool} {i : Nat} (h : ∀ j, j < i → p j = q j) : cnt p i = cnt q i := by
  unfold cnt
  exact List.countP_congr (fun j hj => by rw [h j (List.mem_range.mp hj)])
/-- the bits of p below i -/
def msk (p : Nat → Bool) : Nat → Nat
  | 0 => 0
  | i + 1 => msk p i + (if p i then 2 ^ i else 0)
theorem msk_lt (p : Nat → Bool) : ∀ i, msk p i < 2 ^ i
  | 0 => Nat.zero_lt_one
  | i + 1 => by
    have := msk_lt p i
    unfold msk
    rw [Nat.pow_succ]
    split <;> omega
theorem msk_bit (p : Nat → Bool) : ∀ i j, j < i → (msk p i).testBit j = p j
  | 0, j, h => absurd h (Nat.not_lt_zero _)
  | i + 1, j, h => by
    have hlt := msk_lt p i
    unfold msk
    by_cases q : j = i
    · subst q
      cases e : p j
      · simp only [Bool.false_eq_true, if_false, Nat.add_zero]
        exact Nat.testBit_lt_two_pow hlt
      · simp only [if_true]
        rw [Nat.add_comm, Nat.testBit_two_pow_add_eq, Nat.testBit_lt_two_pow hlt]; rfl
    · have hj : j < i := by omega
      cases e : p i
      · simp only [Bool.false_eq_true, if_false, Nat.add_zero]; exact msk_bit p i j hj
      · simp only [if_true]
        rw [Nat.add_comm, Nat.testBit_two_pow_add_gt hj]; exact msk_bit p i j hj
set_option maxRecDepth 100000 in
theorem or_dec : ∀ i : Fin 8, ∀ m : Fin 128, m.val < 2 ^ i.val → nI m.val ||| ((1 : Int32) <<< (nI i.val &&& 31)) = nI (m.val + 2 ^ i.val) := by decide +kernel
set_option maxRecDepth 100000 in
theorem pop_dec : ∀ m : Fin 256, f_J6_bitCount_0f7a4 (nI m.val) = some (nI (cnt (fun j => m.val.testBit j) 8)) := by decide +kernel
set_option maxRecDepth 100000 in
theorem pop_but : ∀ m : Fin 256, ∀ g : Fin 8, f_J6_bitCount_0f7a4 (nI m.val &&& (((1 : Int32) <<< (nI g.val &&& 31)) ^^^ (-1 : Int32))) = some (nI (cnt (fun j => m.val.testBit j && !(j == g.val)) 8)) := by decide +kernel
theorem or_bit {i m : Nat} (hi : i < 8) (hm : m < 2 ^ i) : nI m ||| ((1 : Int32) <<< (nI i &&& 31)) = nI (m + 2 ^ i) := or_dec ⟨i, hi⟩ ⟨m, Nat.lt_of_lt_of_le hm (by
  have : 2 ^ i ≤ 2 ^ 7 := Nat.pow_le_pow_right (by decide) (by omega)
  exact this)⟩ hm
section CS
variable {a : AS} {h : HS} {z : MS}
theorem th_at (hI : Inv a) (hH : Hc h a) {g : Nat} (hg : g < 8) : f_X1_isThere h (nI g) = some (if a_is a g then 1 else 0) := by
  have hT := hI.1.2.2.1
  unfold f_X1_isThere
  rw [if_neg (nI_pos (by omega)), if_neg (show ¬ (8 : Int32) ≤ nI g from nlit (by decide) hg), hH.2.1]
  cases e : a_is a g
  · rw [if_neg (fun q => by have := (bit_1 hT hg).mp q; unfold a_is at e; rw [this] at e; cases e)]; rfl
  · rw [if_pos ((bit_1 hT hg).mpr e)]; rfl
/-- the guests of a room, as bits -/
theorem bitsIn_spec (hI : Inv a) (hH : Hc h a) {r : Nat} (hr : r < 2 ^ 31) : f_X1_bitsIn h (nI r) = some (nI (msk (fun g => a_is a g && a_pl a g == r) 8)) := by
  obtain ⟨N, hN, hFU⟩ := FU_ex
  unfold f_X1_bitsIn
  rw [hFU]
  refine it_rule (bot := fun _ _ _ _ => none) 8 (fun i (x : Int32) => x = nI (msk (fun g => a_is a g && a_pl a g == r) i)) (fun k i x => k h (nI r) x (nI i) = some (nI (msk (fun g => a_is a g && a_pl a g == r) 8))) ?_ ?_ N 0 0 (by omega) (by omega) rfl
  · intro k x hx
    unfold X1_bitsIn_B4
    rw [if_pos (by decide), hx]
  · intro k i x hi hx hk
    have hp := (hH.2.2.2.2.2.1 i hi).1
    have hpl : a_pl a i < 2 ^ 31 := by
      cases e : a_is a i
      · rw [(hI.2.2.2.2.1 i hi e).1]; decide
      · have := (hI.2.2.2.2.2.1 i hi e).1; have := hI.1.2.1; omega
    unfold X1_bitsIn_B4 X1_bitsIn_J34
    rw [if_neg (show ¬ (8 : Int32) ≤ nI i from nlit (by decide) hi), th_at hI hH hi, Option.bind_some, chk_nI hi (by decide), nI_clamp (by omega), hp, nI_1]
    cases e : a_is a i
    · simp only [Bool.false_eq_true, if_false, if_true]
      refine hk x ?_
      rw [hx]
      conv => rhs; unfold msk
      rw [e]; rfl
    · simp only [if_true]
      rw [if_neg (by decide)]
      by_cases q : a_pl a i = r
      · rw [if_pos (by rw [q])]
        refine hk _ ?_
        rw [hx, or_bit hi (msk_lt _ i)]
        conv => rhs; unfold msk
        rw [e, q]; simp
      · rw [if_neg (fun c => q ((nI_eq hpl hr).mp c))]
        refine hk x ?_
        rw [hx]
        conv => rhs; unfold msk
        rw [e]; simp [q]
theorem count_spec (hI : Inv a) (hH : Hc h a) {r : Nat} (hr : r < 2 ^ 31) : f_X1_count h (nI r) = some (nI (a_in a r)) := by
  unfold f_X1_count
  rw [bitsIn_spec hI hH hr, Option.bind_some, pop_dec ⟨_, msk_lt _ 8⟩, Option.bind_some]
  show some (nI (cnt _ 8)) = _
  rw [cnt_congr (q := fun g => a_is a g && a_pl a g == r) (fun j hj => msk_bit _ 8 j hj)]
  rfl
theorem others_spec (hI : Inv a) (hH : Hc h a) {g r : Nat} (hg : g < 8) (hr : r < 2 ^ 31) : f_X1_others h (nI g) (nI r) = some (nI (cnt (fun j => (a_is a j && a_pl a j == r) && !(j == g)) 8)) := by
  unfold f_X1_others
  rw [bitsIn_spec hI hH hr, Option.bind_some, pop_but ⟨_, msk_lt _ 8⟩ ⟨g, hg⟩, Option.bind_some]
  show some (nI (cnt _ 8)) = _
  rw [cnt_congr (q := fun j => (a_is a j && a_pl a j == r) && !(j == g)) (fun j hj => by rw [msk_bit _ 8 j hj])]
/-- the reference's count in a room, in its present -/
theorem countIn_spec (hI : Inv a) (hM : Mc (mnow z) a) {r : Nat} (hr : r < 2 ^ 31) (x : Int32) : f_X9_countIn z (nI r) x = some (nI (cnt (fun j => (a_is a j && a_pl a j == r) && !(decide (nI j = x))) 8)) := by
  obtain ⟨N, hN, hFU⟩ := FU_ex
  have hT := hI.1.2.2.1
  have et : M_there z = nI (a_T a) := hM.2.1
  unfold f_X9_countIn
  rw [hFU]
  refine it_rule (bot := fun _ _ _ _ _ => none) 8 (fun i (n : Int32) => n = nI (cnt (fun j => (a_is a j && a_pl a j == r) && !(decide (nI j = x))) i)) (fun k i n => k z (nI r) x n (nI i) = some (nI (cnt (fun j => (a_is a j && a_pl a j == r) && !(decide (nI j = x))) 8))) ?_ ?_ N 0 0 (by omega) (by omega) rfl
  · intro k n hn
    unfold X9_countIn_B5
    rw [if_pos (by decide), hn]
  · intro k i n hi hn hk
    unfold X9_countIn_B5 X9_countIn_J46 X9_countIn_J47
    rw [if_neg (show ¬ (8 : Int32) ≤ nI i from nlit (by decide) hi), et, has_b hT hi, Option.bind_some, chk_nI hi (by decide), nI_clamp (by omega), nI_1]
    cases e : (a_T a).testBit i
    · simp only [Bool.false_eq_true, if_false, if_true]
      refine hk _ ?_
      rw [hn, cnt_s]; unfold a_is; rw [e]; simp
    · simp only [if_true]
      have ei : a_is a i = true := e
      have hp : M_at z i = nI (a_pl a i) := (hM.2.2.2.2.2.1 i hi ei).1
      have hpl : a_pl a i < 2 ^ 31 := by have := (hI.2.2.2.2.2.1 i hi ei).1; have := hI.1.2.1; omega
      rw [if_neg (by decide), hp]
      by_cases q : nI i = x
      · rw [if_pos q]
        refine hk _ ?_
        rw [hn, cnt_s]; simp [q]
      · rw [if_neg q]
        by_cases q2 : a_pl a i = r
        · rw [if_pos (by rw [q2])]
          refine hk _ ?_
          rw [hn, cnt_s, ei]; simp [q, q2]; exact nI_1 _
        · rw [if_neg (fun c => q2 ((nI_eq hpl hr).mp c))]
          refine hk _ ?_
          rw [hn, cnt_s, ei]; simp [q2]
end CS
end
/-! 59.draw -/
section
/-- likes times things, of the first i sorts -/
def pt (f : Nat → Int32) (a : AS) (r : Nat) : Nat → Int32
  | 0 => 0
  | i + 1 => pt f a r i + f i * nI (a_th a r i)
/-- how many others are in a room -/
def oth (a : AS) (g r : Nat) : Nat := cnt (fun j => (a_is a j && a_pl a j == r) && !(j == g)) 8
/-- the DRAW of a room to a guest who likes so -/
def dr (f : Nat → Int32) (a : AS) (g r : Nat) : Int32 := pt f a r 4 + f 4 * nI (oth a g r)
def lkf (a : AS) (g : Nat) : Nat → Int32 := fun k => Int32.ofInt (a_lk a g k)
section DS
variable {a : AS} {h : HS} {z : MS}
theorem things_spec (hH : Hc h a) {g r : Nat} (hg : g < 8) (hr : r < 6) : f_X1_pullOfThings h (nI g) (nI r) = some (pt (lkf a g) a r 4) := by
  obtain ⟨N, hN, hFU⟩ := FU_ex
  unfold f_X1_pullOfThings
  rw [hFU]
  refine it_rule (bot := fun _ _ _ _ _ => none) 4 (fun i (x : Int32) => x = pt (lkf a g) a r i) (fun k i x => k h (nI g) (nI r) x (nI i) = some (pt (lkf a g) a r 4)) ?_ ?_ N 0 0 (by omega) (by omega) rfl
  · intro k x hx
    unfold X1_pullOfThings_B5
    rw [if_pos (by decide), hx]
  · intro k i x hi hx hk
    have e1 := hH.2.2.2.2.2.2.1 g i hg (by omega)
    have e2 := (hH.2.2.2.1 r hr).1 i hi
    unfold X1_pullOfThings_B5
    rw [if_neg (show ¬ (4 : Int32) ≤ nI i from nlit (by decide) hi), ix5, ix6, chk_nI (by omega) (by decide), chk_nI (by omega) (by decide), nI_clamp (by omega), nI_clamp (by omega), e1, e2, nI_1]
    exact hk _ (by rw [hx]; rfl)
theorem pull_spec (hI : Inv a) (hH : Hc h a) {g r : Nat} (hg : g < 8) (hr : r < 6) : f_X1_pull h (nI g) (nI r) = some (dr (lkf a g) a g r) := by
  have e1 := hH.2.2.2.2.2.2.1 g 4 hg (by omega)
  unfold f_X1_pull
  rw [things_spec hH hg hr, Option.bind_some, show (4 : Int32) = nI 4 from rfl, ix5, chk_nI (by omega) (by decide), others_spec hI hH hg (by omega), Option.bind_some, nI_clamp (by omega), e1]
  rfl
theorem drawOf_spec (hI : Inv a) (hM : Mc (mnow z) a) {g r : Nat} (hg : g < 8) (hi : a_is a g = true) (hr : r < 6) (x3 x4 : Int32) : f_X9_drawOf z (nI g) (nI r) x3 x4 = some (dr (fun k => if x3 = nI k then x4 else lkf a g k) a g r) := by
  obtain ⟨N, hN, hFU⟩ := FU_ex
  have hl : ∀ k, k < 5 → M_likes z (5 * g + k) = lkf a g k := (hM.2.2.2.2.2.1 g hg hi).2.2.2.2
  have hth : ∀ s, s < 4 → M_thingsNow z (4 * r + s) = nI (a_th a r s) := (hM.2.2.2.1 r hr).1
  have hc : f_X9_countIn z (nI r) (nI g) = some (nI (oth a g r)) := by
    rw [countIn_spec hI hM (by omega) (nI g)]
    unfold oth
    rw [cnt_congr (q := fun j => (a_is a j && a_pl a j == r) && !(j == g)) (fun j hj => by
      have : (decide (nI j = nI g)) = (j == g) := by
        rw [Bool.eq_iff_iff, decide_eq_true_eq, nI_eq (by omega) (by omega)]; simp
      rw [this])]
  have J : f_X9_drawOf z (nI g) (nI r) x3 x4 = X9_drawOf_J20 z (nI g) (nI r) x3 x4 ((fun k => if x3 = nI k then x4 else lkf a g k) 4) := by
    unfold f_X9_drawOf
    by_cases c : x3 = 4
    · rw [if_pos c]
      show _ = X9_drawOf_J20 z (nI g) (nI r) x3 x4 (if x3 = nI 4 then x4 else lkf a g 4)
      rw [if_pos (show x3 = nI 4 from c)]
    · rw [if_neg c, show (4 : Int32) = nI 4 from rfl, ix5', chk_nI (by omega) (by decide), nI_clamp (by omega), hl 4 (by decide)]
      show _ = X9_drawOf_J20 z (nI g) (nI r) x3 x4 (if x3 = nI 4 then x4 else lkf a g 4)
      rw [if_neg (show ¬ x3 = nI 4 from c)]
  rw [J]
  generalize hf : (fun k => if x3 = nI k then x4 else lkf a g k) = f
  unfold X9_drawOf_J20
  rw [hc, Option.bind_some, hFU]
  refine it_rule (bot := fun _ _ _ _ _ _ _ => none) 4 (fun i (x : Int32) => x = f 4 * nI (oth a g r) + pt f a r i) (fun k i x => k z (nI g) (nI r) x3 x4 x (nI i) = some (dr f a g r)) ?_ ?_ N 0 (f 4 * nI (oth a g r)) (by omega) (by omega) (by show _ = _ + 0; rw [Int32.add_zero])
  · intro k x hx
    unfold X9_drawOf_B32 dr
    rw [if_pos (by decide), hx, Int32.add_comm]
  · intro k i x hi hx hk
    have e : x + f i * nI (a_th a r i) = f 4 * nI (oth a g r) + pt f a r (i + 1) := by
      rw [hx]; show _ = _ + (pt f a r i + f i * nI (a_th a r i)); rw [Int32.add_assoc]
    have hfi : f i = if x3 = nI i then x4 else lkf a g i := by rw [← hf]
    unfold X9_drawOf_B32 X9_drawOf_J62
    rw [if_neg (show ¬ (4 : Int32) ≤ nI i from nlit (by decide) hi), ix4', ix5', chk_nI (by omega) (by decide), chk_nI (by omega) (by decide), chk_nI (by omega) (by decide), nI_clamp (by omega), nI_clamp (by omega), hth i hi, hl i (by omega), nI_1]
    by_cases c : x3 = nI i
    · rw [if_pos c]
      rw [if_pos c] at hfi
      rw [hfi] at e
      exact hk _ e
    · rw [if_neg c]
      rw [if_neg c] at hfi
      rw [← hfi]
      exact hk _ e
theorem none_lk (a : AS) (g : Nat) {r : Nat} : dr (fun k => if (-6 : Int32) = nI k then 0 else lkf a g k) a g r = dr (lkf a g) a g r := by
  have e : ∀ k, k < 5 → (if (-6 : Int32) = nI k then (0 : Int32) else lkf a g k) = lkf a g k := by
    intro k hk
    rw [if_neg]
    intro q
    have : ¬ nI k < 0 := nI_pos (by omega)
    rw [← q] at this
    exact this (by decide)
  unfold dr pt pt pt pt pt
  simp only []
  rw [e 0 (by decide), e 1 (by decide), e 2 (by decide), e 3 (by decide), e 4 (by decide)]
end DS
theorem sim_draw : Sim_draw Rel := by
  intro S z x1 x2 h
  obtain ⟨⟨a, hI, hH, hM⟩, h3⟩ := id h
  have hH : Hc (K_now S) a := hH
  have hM : Mc (mcore z) a := hM
  rcases th_cases hI hH hM x1 with ⟨g, hg, rfl, hg1, t1, t2⟩ | ⟨t1, t2⟩
  · rcases rm_cases hI hH hM x2 with ⟨r, hr, rfl, u1, u2⟩ | ⟨-, u1, u2⟩
    · obtain ⟨w, hw, hA, -⟩ := asNow_spec z
      have hr6 : r < 6 := by have := hI.1.2.1; omega
      refine ⟨dr (lkf a g) a g r + 1000, (dr (lkf a g) a g r + 1000, w), ?_, ?_, rfl, h.to rfl hA.1⟩
      · unfold f_X8_draw; rw [t1, Option.bind_some, if_neg (by decide), u1, Option.bind_some, if_neg (by decide), pull_spec hI hH hg hr6, Option.bind_some]
      · unfold f_X9_draw; rw [t2, Option.bind_some, if_neg (by decide), u2, Option.bind_some, if_neg (by decide), hw, Option.bind_some, drawOf_spec hI (asNow_Mc hM hA) hg hg1 hr6, Option.bind_some, none_lk]
    · refine ⟨-1, (-1, z), ?_, ?_, rfl, h⟩
      · unfold f_X8_draw; rw [t1, Option.bind_some, if_neg (by decide), u1, Option.bind_some, if_pos rfl]
      · unfold f_X9_draw; rw [t2, Option.bind_some, if_neg (by decide), u2, Option.bind_some, if_pos rfl]
  · refine ⟨-1, (-1, z), ?_, ?_, rfl, h⟩
    · unfold f_X8_draw; rw [t1, Option.bind_some, if_pos rfl]
    · unfold f_X9_draw; rw [t2, Option.bind_some, if_pos rfl]
/-- the best of the first i rooms, and its draw -/
def bst (d : Nat → Int32) (p : Nat) : Nat → Int32 × Int32
  | 0 => (nI p, d p)
  | i + 1 => if d i ≤ (bst d p i).2 then bst d p i else (nI i, d i)
theorem sim_best : Sim_best Rel := by
  intro S z x1 h
  obtain ⟨⟨a, hI, hH, hM⟩, h3⟩ := id h
  have hH : Hc (K_now S) a := hH
  have hM : Mc (mcore z) a := hM
  have hR6 := hI.1.2.1
  obtain ⟨N, hN, hFU⟩ := FU_ex
  rcases th_cases hI hH hM x1 with ⟨g, hg, rfl, hg1, t1, t2⟩ | ⟨t1, t2⟩
  · obtain ⟨w, hw, hA, -⟩ := asNow_spec z
    have hMw := asNow_Mc hM hA
    have hpl := (hI.2.2.2.2.2.1 g hg hg1).1
    have e1 : H_place (K_now S) g = nI (a_pl a g) := (hH.2.2.2.2.2.1 g hg).1
    have e2 : M_at w g = nI (a_pl a g) := (hMw.2.2.2.2.2.1 g hg hg1).1
    have er : M_rooms w = nI (a_R a) := hMw.1
    refine ⟨(bst (dr (lkf a g) a g) (a_pl a g) (a_R a)).1, ((bst (dr (lkf a g) a g) (a_pl a g) (a_R a)).1, w), ?_, ?_, rfl, h.to rfl hA.1⟩
    · unfold f_X8_best
      rw [t1, Option.bind_some, if_neg (by decide), chk_nI hg (by decide), nI_clamp (by omega), e1, pull_spec hI hH hg (by omega), Option.bind_some, hFU]
      refine it_rule (bot := fun _ _ _ _ _ => none) (a_R a) (fun i (x : Int32 × Int32) => x = bst (dr (lkf a g) a g) (a_pl a g) i) (fun k i x => k (K_now S) (nI g) x.1 x.2 (nI i) = some (bst (dr (lkf a g) a g) (a_pl a g) (a_R a)).1) ?_ ?_ N 0 (nI (a_pl a g), dr (lkf a g) a g (a_pl a g)) (by omega) (by omega) rfl
      · intro k x hx
        unfold X8_best_B36
        rw [hH.1, if_pos (nI_le (Nat.le_refl _) (by omega)), hx]
      · intro k i x hi hx hk
        unfold X8_best_B36 X8_best_J72
        rw [hH.1, if_neg (nI_ge hi (by omega)), pull_spec hI hH hg (by omega), Option.bind_some, nI_1]
        by_cases c : dr (lkf a g) a g i ≤ x.2
        · rw [if_pos c]
          refine hk x ?_
          rw [hx] at c ⊢
          show _ = if _ then _ else _
          rw [if_pos c]
        · rw [if_neg c]
          refine hk (nI i, dr (lkf a g) a g i) ?_
          rw [hx] at c
          show _ = if _ then _ else _
          rw [if_neg c]
    · unfold f_X9_best
      rw [t2, Option.bind_some, if_neg (by decide), hw, Option.bind_some, chk_nI hg (by decide), nI_clamp (by omega), e2, drawOf_spec hI hMw hg hg1 (by omega), Option.bind_some, none_lk, hFU]
      refine it_rule (bot := fun _ _ _ _ _ => none) (a_R a) (fun i (x : Int32 × Int32) => x = bst (dr (lkf a g) a g) (a_pl a g) i) (fun k i x => k w (nI g) x.1 x.2 (nI i) = some ((bst (dr (lkf a g) a g) (a_pl a g) (a_R a)).1, w)) ?_ ?_ N 0 (nI (a_pl a g), dr (lkf a g) a g (a_pl a g)) (by omega) (by omega) rfl
      · intro k x hx
        unfold X9_best_B34
        rw [er, if_pos (nI_le (Nat.le_refl _) (by omega)), hx]
      · intro k i x hi hx hk
        unfold X9_best_B34 X9_best_J67
        rw [er, if_neg (nI_ge hi (by omega)), drawOf_spec hI hMw hg hg1 (by omega), Option.bind_some, none_lk, nI_1]
        by_cases c : dr (lkf a g) a g i ≤ x.2
        · rw [if_pos c]
          refine hk x ?_
          rw [hx] at c ⊢
          show _ = if _ then _ else _
          rw [if_pos c]
        · rw [if_neg c]
          refine hk (nI i, dr (lkf a g) a g i) ?_
          rw [hx] at c
          show _ = if _ then _ else _
          rw [if_neg c]
  · refine ⟨-1, (-1, z), ?_, ?_, rfl, h⟩
    · unfold f_X8_best; rw [t1, Option.bind_some, if_pos rfl]
    · unfold f_X9_best; rw [t2, Option.bind_some, if_pos rfl]
end
