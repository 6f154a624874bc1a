/-! rules for stepping: literals are nI's; tests decided; index tests dropped -/
theorem s_lit {k : Nat} : (no_index (OfNat.ofNat k) : Int32) = nI k := rfl
theorem s_lt_t {a b : Nat} (h : a < b) (hb : b < 2 ^ 31) : (nI a < nI b) = True := eq_true (nI_lt h hb)
theorem s_lt_f {a b : Nat} (h : b ≤ a) (hb : a < 2 ^ 31) : (nI a < nI b) = False := eq_false (nI_nlt h hb)
theorem s_le_t {a b : Nat} (h : a ≤ b) (hb : b < 2 ^ 31) : (nI a ≤ nI b) = True := eq_true (nI_le h hb)
theorem s_le_f {a b : Nat} (h : b < a) (hb : a < 2 ^ 31) : (nI a ≤ nI b) = False := eq_false (nI_ge h hb)
theorem s_eq_t {a b : Nat} (h : a = b) : (nI a = nI b) = True := eq_true (by rw [h])
theorem s_eq_f {a b : Nat} (h : a ≠ b) (ha : a < 2 ^ 31) (hb : b < 2 ^ 31) : (nI a = nI b) = False := eq_false (fun q => h ((nI_eq ha hb).mp q))
theorem s_chk {α : Type} {n N : Nat} {x : Option α} (h : n < N) (hN : N < 2 ^ 31) : chk (nI n) N x = x := chk_nI h hN
theorem s_clamp {n : Nat} (h : n < 2 ^ 31) : (nI n).toNatClampNeg = n := nI_clamp h
theorem s_mod (b : Bool) : ((if b = true then (1 : Int32) else 0) = 0) = (b = false) := by cases b <;> decide
theorem ltA_ex {α β : Type} {x : α} {k : α → Option β} {Q : β → Prop} (h : ∀ y, y = x → ∃ w, k y = some w ∧ Q w) : ∃ w, ltA x k = some w ∧ Q w := by rw [ltA_eq]; exact h x rfl
theorem bind_ex {α β : Type} {e : Option α} {k : α → Option β} {Q : β → Prop} {R : α → Prop} (h : ∃ v, e = some v ∧ R v) (h2 : ∀ v, R v → ∃ w, k v = some w ∧ Q w) : ∃ w, e.bind k = some w ∧ Q w := by
  obtain ⟨v, e1, e2⟩ := h
  rw [e1]; exact h2 v e2
/-- the rest of the reference's parts -/
def mrest (z : MS) : Int32 × Int32 × (Nat → Int64) × (Nat → Int32) × (Nat → Int64) × (Nat → Int64) := (M_reason z, M_events z, M_states z, M_dear z, M_chances z, M_then z)
section SX
variable {z z' : MS} {f : Nat → Int32} {v : Int32}
theorem sx_at (h : z' = M_set_at z f) : mkeep z' = mkeep z ∧ msc z' = (f, (msc z).2) ∧ mrest z' = mrest z := by subst h; exact ⟨kp_at z f, ms_at z f, rfl⟩
theorem sx_busyNow (h : z' = M_set_busyNow z f) : mkeep z' = mkeep z ∧ msc z' = ((msc z).1, f, (msc z).2.2) ∧ mrest z' = mrest z := by subst h; exact ⟨kp_busyNow z f, ms_busyNow z f, rfl⟩
theorem sx_withNow (h : z' = M_set_withNow z f) : mkeep z' = mkeep z ∧ msc z' = ((msc z).1, (msc z).2.1, f, (msc z).2.2.2) ∧ mrest z' = mrest z := by subst h; exact ⟨kp_withNow z f, ms_withNow z f, rfl⟩
theorem sx_leftNow (h : z' = M_set_leftNow z f) : mkeep z' = mkeep z ∧ msc z' = ((msc z).1, (msc z).2.1, (msc z).2.2.1, f, (msc z).2.2.2.2) ∧ mrest z' = mrest z := by subst h; exact ⟨kp_leftNow z f, ms_leftNow z f, rfl⟩
theorem sx_thingsNow (h : z' = M_set_thingsNow z f) : mkeep z' = mkeep z ∧ msc z' = ((msc z).1, (msc z).2.1, (msc z).2.2.1, (msc z).2.2.2.1, f, (msc z).2.2.2.2.2) ∧ mrest z' = mrest z := by subst h; exact ⟨kp_thingsNow z f, ms_thingsNow z f, rfl⟩
theorem sx_loose (h : z' = M_set_loose z v) : mkeep z' = mkeep z ∧ msc z' = ((msc z).1, (msc z).2.1, (msc z).2.2.1, (msc z).2.2.2.1, (msc z).2.2.2.2.1, v, (msc z).2.2.2.2.2.2) ∧ mrest z' = mrest z := by subst h; exact ⟨kp_loose z v, ms_loose z v, rfl⟩
theorem sx_through (h : z' = M_set_through z f) : mkeep z' = mkeep z ∧ msc z' = ((msc z).1, (msc z).2.1, (msc z).2.2.1, (msc z).2.2.2.1, (msc z).2.2.2.2.1, (msc z).2.2.2.2.2.1, f) ∧ mrest z' = mrest z := by subst h; exact ⟨kp_through z f, ms_through z f, rfl⟩
theorem sx_reason (h : z' = M_set_reason z v) : mkeep z' = mkeep z ∧ msc z' = msc z ∧ mrest z' = (v, (mrest z).2) := by subst h; exact ⟨rfl, rfl, rfl⟩
theorem sx_events (h : z' = M_set_events z v) : mkeep z' = mkeep z ∧ msc z' = msc z ∧ mrest z' = ((mrest z).1, v, (mrest z).2.2) := by subst h; exact ⟨rfl, rfl, rfl⟩
end SX
/-- two loops side by side -/
theorem it_rule2 {γ δ σ : Type} {B : γ → γ} {bot : γ} {C : δ → δ} {bot2 : δ} (e : Nat) (I : Nat → σ → Prop) (Q : γ → δ → Nat → σ → Prop) (hex : ∀ k k' s, I e s → Q (B k) (C k') e s) (hst : ∀ k k' i s, i < e → I i s → (∀ s', I (i + 1) s' → Q k k' (i + 1) s') → Q (B k) (C k') i s) : ∀ n i s, e - i < n → i ≤ e → I i s → Q (it B bot n) (it C bot2 n) i s := by
  intro n
  induction n with
  | zero => intro i s h; omega
  | succ n ih =>
    intro i s h hi hI
    show Q (B (it B bot n)) (C (it C bot2 n)) i s
    by_cases c : i = e
    · subst c; exact hex _ _ s hI
    · exact hst _ _ i s (by omega) hI (fun s' hs' => ih (i + 1) s' (by omega) (by omega) hs')
/-- a guest stands in the door between r and q -/
def stn (a : AS) (r q g : Nat) : Bool := a_bs a g == 3 && ((a_pl a g == r && a_mt a g == (q : Int)) || (a_pl a g == q && a_mt a g == (r : Int)))
def jam (a : AS) (r q : Nat) : Nat := cnt (stn a r q) 8
theorem mt_rng {a : AS} (hI : Inv a) {g : Nat} (hg : g < 8) : -6 ≤ a_mt a g ∧ a_mt a g < 8 := by
  have h3 := bs_lt hI hg
  have hR := hI.1.2.1
  rcases (show a_bs a g = 0 ∨ a_bs a g = 1 ∨ a_bs a g = 2 ∨ a_bs a g = 3 by omega) with q | q | q | q
  · rw [(hI.2.2.2.2.2.2.1 g hg (Or.inl q)).1]; decide
  · obtain ⟨j, h1, -, h2, -⟩ := hI.2.2.2.2.2.2.2.1 g hg q
    rw [h2]; omega
  · rw [(hI.2.2.2.2.2.2.1 g hg (Or.inr q)).1]; decide
  · obtain ⟨-, j, h1, -, h2, -⟩ := hI.2.2.2.2.2.2.2.2.1 g hg q
    rw [h2]; omega
theorem oI_toInt {x : Int} (h1 : -1000000 ≤ x) (h2 : x ≤ 1000000) : (Int32.ofInt x).toInt = x := by
  rw [Int32.toInt_ofInt]
  rw [Int.bmod_def, show (Int32.size : Nat) = 4294967296 from rfl]
  split <;> omega
theorem oI_nI {x : Int} {q : Nat} (h1 : -1000000 ≤ x) (h2 : x ≤ 1000000) (hq : q < 2 ^ 31) : (Int32.ofInt x = nI q) ↔ x = (q : Int) := by
  constructor
  · intro h
    have := congrArg Int32.toInt h
    rwa [oI_toInt h1 h2, nI_toInt hq] at this
  · intro h
    apply Int32.toInt_inj.mp
    rw [oI_toInt h1 h2, nI_toInt hq, h]
theorem oI_nat (q : Nat) : Int32.ofInt (q : Int) = nI q := rfl
