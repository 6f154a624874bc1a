/-! PART B: what both sides stand for. AS: one party's state as plain numbers. -/
abbrev AS : Type := Nat × Nat × Nat × (Nat → Nat → Nat) × (Nat → Nat) × (Nat → Nat) × (Nat → Nat → Nat) × (Nat → Nat → Int) × (Nat → Nat) × (Nat → Nat) × (Nat → Int) × (Nat → Nat) × (Nat → Nat) × (Nat → Nat)
/-- rooms -/
def a_R (a : AS) : Nat := a.1
/-- guests who are there, as bits -/
def a_T (a : AS) : Nat := a.2.1
/-- sights -/
def a_k (a : AS) : Nat := a.2.2.1
def a_th (a : AS) : Nat → Nat → Nat := a.2.2.2.1
def a_sz (a : AS) : Nat → Nat := a.2.2.2.2.1
def a_ch (a : AS) : Nat → Nat := a.2.2.2.2.2.1
def a_wd (a : AS) : Nat → Nat → Nat := a.2.2.2.2.2.2.1
def a_lk (a : AS) : Nat → Nat → Int := a.2.2.2.2.2.2.2.1
def a_pl (a : AS) : Nat → Nat := a.2.2.2.2.2.2.2.2.1
def a_bs (a : AS) : Nat → Nat := a.2.2.2.2.2.2.2.2.2.1
def a_mt (a : AS) : Nat → Int := a.2.2.2.2.2.2.2.2.2.2.1
def a_lf (a : AS) : Nat → Nat := a.2.2.2.2.2.2.2.2.2.2.2.1
def a_sg (a : AS) : Nat → Nat := a.2.2.2.2.2.2.2.2.2.2.2.2.1
def a_sr (a : AS) : Nat → Nat := a.2.2.2.2.2.2.2.2.2.2.2.2.2
/-- how many of the eight -/
def cn8 (p : Nat → Bool) : Nat := (List.range 8).countP p
/-- guest g is there -/
def a_is (a : AS) (g : Nat) : Bool := (a_T a).testBit g
/-- how many are in a room -/
def a_in (a : AS) (r : Nat) : Nat := cn8 (fun g => a_is a g && a_pl a g == r)
/-- what always holds -/
def Inv (a : AS) : Prop :=
  (2 ≤ a_R a ∧ a_R a ≤ 6 ∧ a_T a < 256 ∧ a_k a ≤ 6) ∧
  (∀ r, r < 6 → (∀ s, s < 4 → a_th a r s ≤ 9) ∧ 1 ≤ a_sz a r ∧ a_sz a r ≤ 9 ∧ a_ch a r ≤ 9) ∧
  (∀ r q, r < 6 → q < 6 → a_wd a r q ≤ 3 ∧ a_wd a r q = a_wd a q r ∧ (a_R a ≤ r → a_wd a r q = 0)) ∧ (∀ r, r < 6 → a_wd a r r = 0) ∧
  (∀ g, g < 8 → a_is a g = false → a_pl a g = 0 ∧ a_bs a g = 0 ∧ (∀ k, k < 5 → a_lk a g k = 0)) ∧
  (∀ g, g < 8 → a_is a g = true → a_pl a g < a_R a ∧ a_bs a g ≤ 3 ∧ (∀ k, k < 5 → -3 ≤ a_lk a g k ∧ a_lk a g k ≤ 3)) ∧
  (∀ g, g < 8 → (a_bs a g = 0 ∨ a_bs a g = 2) → a_mt a g = -6 ∧ a_lf a g = 0) ∧
  (∀ g, g < 8 → a_bs a g = 1 → ∃ j, j < 8 ∧ j ≠ g ∧ a_mt a g = (j : Int) ∧ a_is a j = true ∧ a_bs a j = 1 ∧ a_mt a j = (g : Int) ∧ a_lf a j = a_lf a g ∧ 1 ≤ a_lf a g ∧ a_lf a g ≤ 9) ∧
  (∀ g, g < 8 → a_bs a g = 3 → a_lf a g = 0 ∧ ∃ q, q < a_R a ∧ q ≠ a_pl a g ∧ a_mt a g = (q : Int) ∧ 1 ≤ a_wd a (a_pl a g) q) ∧
  (∀ r, r < 6 → a_in a r ≤ a_sz a r) ∧
  (∀ s, s < a_k a → a_sg a s < 8 ∧ a_sr a s < a_R a)
/-- a House holds a -/
def Hc (h : HS) (a : AS) : Prop :=
  H_rooms h = nI (a_R a) ∧ H_there h = nI (a_T a) ∧ H_sights h = nI (a_k a) ∧
  (∀ r, r < 6 → (∀ s, s < 4 → H_measure h (r * 6 + s) = nI (a_th a r s)) ∧ H_measure h (r * 6 + 4) = nI (a_sz a r) ∧ H_measure h (r * 6 + 5) = nI (a_ch a r)) ∧
  (∀ r q, r < 6 → q < 6 → H_width h (r * 6 + q) = nI (a_wd a r q)) ∧
  (∀ g, g < 8 → H_place h g = nI (a_pl a g) ∧ H_busy h g = nI (a_bs a g) ∧ H_mate h g = Int32.ofInt (a_mt a g) ∧ H_left h g = nI (a_lf a g)) ∧
  (∀ g k, g < 8 → k < 5 → H_likes h (g * 5 + k) = Int32.ofInt (a_lk a g k)) ∧
  (∀ s, s < a_k a → H_sightGuest h s = nI (a_sg a s) ∧ H_sightRoom h s = nI (a_sr a s))
/-- the reference's lasting part -/
abbrev MK : Type := Int32 × (Nat → Int32) × (Nat → Int32) × (Nat → Int32) × (Nat → Int32) × Int32 × (Nat → Int32) × (Nat → Int32) × (Nat → Int32) × (Nat → Int32) × (Nat → Int32) × Int32 × (Nat → Int32)
def mcore (z : MS) : MK := (M_rooms z, M_things z, M_size z, M_chairs z, M_width z, M_there z, M_likes z, M_place z, M_busy z, M_with z, M_left z, M_sights z, M_sight z)
/-- the reference's lasting part holds a -/
def Mc (m : MK) (a : AS) : Prop :=
  m.1 = nI (a_R a) ∧ m.2.2.2.2.2.1 = nI (a_T a) ∧ m.2.2.2.2.2.2.2.2.2.2.2.1 = nI (a_k a) ∧
  (∀ r, r < 6 → (∀ s, s < 4 → m.2.1 (4 * r + s) = nI (a_th a r s)) ∧ m.2.2.1 r = nI (a_sz a r) ∧ m.2.2.2.1 r = nI (a_ch a r)) ∧
  (∀ r q, r < 6 → q < 6 → m.2.2.2.2.1 (6 * r + q) = nI (a_wd a r q)) ∧
  (∀ g, g < 8 → a_is a g = true → m.2.2.2.2.2.2.2.1 g = nI (a_pl a g) ∧ m.2.2.2.2.2.2.2.2.1 g = nI (a_bs a g) ∧ m.2.2.2.2.2.2.2.2.2.2.1 g = nI (a_lf a g) ∧ (a_bs a g = 1 ∨ a_bs a g = 3 → m.2.2.2.2.2.2.2.2.2.1 g = Int32.ofInt (a_mt a g)) ∧ ∀ k, k < 5 → m.2.2.2.2.2.2.1 (5 * g + k) = Int32.ofInt (a_lk a g k)) ∧
  (∀ s, s < a_k a → m.2.2.2.2.2.2.2.2.2.2.2.2 (2 * s) = nI (a_sg a s) ∧ m.2.2.2.2.2.2.2.2.2.2.2.2 (2 * s + 1) = nI (a_sr a s))
/-- an image of the reference, read as its lasting part -/
def mimg (f : Nat → Int32) (o : Nat) : MK := (f (o + 156), (fun k => f (o + k)), (fun r => f (o + 144 + r)), (fun r => f (o + 150 + r)), (fun k => f (o + 24 + k)), f (o + 157), (fun k => f (o + 60 + k)), (fun g => f (o + 100 + g)), (fun g => f (o + 108 + g)), (fun g => f (o + 116 + g)), (fun g => f (o + 124 + g)), f (o + 158), (fun k => f (o + 132 + k)))
/-- the pads are alike -/
def PadR (pd : PS) (sn : Int32) (f : Nat → Int32) : Prop := ∃ n, n ≤ 60 ∧ P_used pd = nI n ∧ sn = nI n ∧ ∀ i, i < n → P_signs pd i = f i ∧ ∃ c, 33 ≤ c ∧ c ≤ 126 ∧ f i = nI c
/-- one image on both sides -/
def ImgR (k1 k2 : Int32) (h : HS) (m : MK) : Prop := k1 = k2 ∧ (k1 = 0 ∨ k1 = 1) ∧ (k1 = 1 → ∃ a, Inv a ∧ Hc h a ∧ Mc m a)
/-- all of the reference that lasts -/
abbrev MKK : Type := MK × Int32 × (Nat → Int32) × (Nat → Int32) × (Nat → Int32)
def mkeep (z : MS) : MKK := (mcore z, M_signs z, M_pad z, M_image z, M_isKept z)
/-- all of the class that lasts -/
abbrev KKK : Type := HS × PS × (Nat → Int32) × HS × HS
def kkeep (S : KDS) : KKK := (K_now S, K_pad S, K_kept S, K_img0 S, K_img1 S)
/-- all that both sides keep -/
def RelK (x : KKK) (m : MKK) : Prop :=
  (∃ a, Inv a ∧ Hc x.1 a ∧ Mc m.1 a) ∧ PadR x.2.1 m.2.1 m.2.2.1 ∧ ImgR (x.2.2.1 0) (m.2.2.2.2 0) x.2.2.2.1 (mimg m.2.2.2.1 0) ∧ ImgR (x.2.2.1 1) (m.2.2.2.2 1) x.2.2.2.2 (mimg m.2.2.2.1 200)
def Rel (S : KDS) (z : MS) : Prop := RelK (kkeep S) (mkeep z)
theorem Rel.to {S S' : KDS} {z z' : MS} (h : Rel S z) (e1 : kkeep S' = kkeep S) (e2 : mkeep z' = mkeep z) : Rel S' z' := by unfold Rel; rw [e1, e2]; exact h
theorem kp_at (z : MS) (v : Nat → Int32) : mkeep (M_set_at z v) = mkeep z := rfl
theorem kp_busyNow (z : MS) (v : Nat → Int32) : mkeep (M_set_busyNow z v) = mkeep z := rfl
theorem kp_withNow (z : MS) (v : Nat → Int32) : mkeep (M_set_withNow z v) = mkeep z := rfl
theorem kp_leftNow (z : MS) (v : Nat → Int32) : mkeep (M_set_leftNow z v) = mkeep z := rfl
theorem kp_thingsNow (z : MS) (v : Nat → Int32) : mkeep (M_set_thingsNow z v) = mkeep z := rfl
theorem kp_loose (z : MS) (v : Int32) : mkeep (M_set_loose z v) = mkeep z := rfl
theorem kp_through (z : MS) (v : Nat → Int32) : mkeep (M_set_through z v) = mkeep z := rfl
theorem kp_reason (z : MS) (v : Int32) : mkeep (M_set_reason z v) = mkeep z := rfl
theorem kp_events (z : MS) (v : Int32) : mkeep (M_set_events z v) = mkeep z := rfl
theorem kp_states (z : MS) (v : Nat → Int64) : mkeep (M_set_states z v) = mkeep z := rfl
theorem kp_dear (z : MS) (v : Nat → Int32) : mkeep (M_set_dear z v) = mkeep z := rfl
theorem kp_chances (z : MS) (v : Nat → Int64) : mkeep (M_set_chances z v) = mkeep z := rfl
theorem kp_then (z : MS) (v : Nat → Int64) : mkeep (M_set_then z v) = mkeep z := rfl
theorem kk_drift (S : KDS) (v : DS) : kkeep (K_set_drift S v) = kkeep S := rfl
theorem kk_play (S : KDS) (v : YS) : kkeep (K_set_play S v) = kkeep S := rfl
theorem kk_rest (S : KDS) (v : TS) : kkeep (K_set_rest S v) = kkeep S := rfl
theorem kk_route (S : KDS) (v : OS) : kkeep (K_set_route S v) = kkeep S := rfl
theorem kk_stagger (S : KDS) (v : SS) : kkeep (K_set_stagger S v) = kkeep S := rfl
theorem kk_draws (S : KDS) (v : US) : kkeep (K_set_draws S v) = kkeep S := rfl
theorem kk_ends (S : KDS) (v : Nat → Int64) : kkeep (K_set_ends S v) = kkeep S := rfl
/-- what a step of the kept part does -/
theorem mk_signs (z : MS) (v : Int32) : mkeep (M_set_signs z v) = (mcore z, v, M_pad z, M_image z, M_isKept z) := rfl
theorem mk_pad (z : MS) (f : Nat → Int32) : mkeep (M_set_pad z f) = (mcore z, M_signs z, f, M_image z, M_isKept z) := rfl
theorem mk_sights (z : MS) (v : Int32) : mkeep (M_set_sights z v) = ((M_rooms z, M_things z, M_size z, M_chairs z, M_width z, M_there z, M_likes z, M_place z, M_busy z, M_with z, M_left z, v, M_sight z), M_signs z, M_pad z, M_image z, M_isKept z) := rfl
/-- a loop with a counter that goes up to e: what holds ahead of each turn, what is to be shown of the rest -/
theorem it_rule {γ σ : Type} {B : γ → γ} {bot : γ} (e : Nat) (I : Nat → σ → Prop) (Q : γ → Nat → σ → Prop) (hex : ∀ k s, I e s → Q (B k) e s) (hst : ∀ k i s, i < e → I i s → (∀ s', I (i + 1) s' → Q k (i + 1) s') → Q (B k) i s) : ∀ n i s, e - i < n → i ≤ e → I i s → Q (it B bot n) i s := by
  intro n
  induction n with
  | zero => intro i s h; omega
  | succ n ih =>
    intro i s h hi hI
    show Q (B (it B bot n)) i s
    by_cases c : i = e
    · subst c; exact hex _ s hI
    · exact hst _ i s (by omega) hI (fun s' hs' => ih (i + 1) s' (by omega) (by omega) hs')
/-! first sims -/
theorem sim_wipe : Sim_wipe Rel := by
  intro S z h
  refine ⟨_, _, rfl, rfl, ?_, ?_⟩
  · obtain ⟨-, ⟨n, -, h1, h2, -⟩, -⟩ := h
    exact h1.trans h2.symm
  · obtain ⟨h1, ⟨n, hn, e1, e2, e3⟩, h3⟩ := h
    unfold Rel
    rw [mk_signs]
    exact ⟨h1, ⟨0, by omega, rfl, rfl, fun i hi => absurd hi (by omega)⟩, h3⟩
theorem clear_eq (h : HS) (n : Int32) : f_X1_clear h n = some (n, 0, 0, upd (upd (upd (upd (upd (upd (fillA 36 0 (H_measure h)) 4 8) 10 8) 16 8) 22 8) 28 8) 34 8, fillA 36 0 (H_width h), fillA 8 0 (H_place h), fillA 8 0 (H_busy h), fillA 8 (-6) (H_mate h), fillA 8 0 (H_left h), fillA 40 0 (H_likes h), H_sightGuest h, H_sightRoom h) := rfl
