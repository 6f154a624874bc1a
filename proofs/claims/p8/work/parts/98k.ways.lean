/-! the ways to a room, as plain numbers: dA k r, the least excuses on a way of just k doors; gA, excuses first, then doors -/
def mnA (b : AS) (f : Nat → Nat) (r : Nat) : Nat → Nat
  | 0 => 1000000
  | n + 1 => if mnA b f r n ≤ (if 0 < a_wd b r n then a_in b n + f n else 1000000) then mnA b f r n else (if 0 < a_wd b r n then a_in b n + f n else 1000000)
def dA (b : AS) (g : Nat) : Nat → Nat → Nat
  | 0 => fun r => if r = g then 0 else 1000000
  | k + 1 => fun r => mnA b (dA b g k) r 6
def tlA (b : AS) (q : Nat) : Nat := 100 * a_in b q + 1
theorem mn_le (b : AS) (f : Nat → Nat) (r : Nat) : ∀ n, mnA b f r n ≤ 1000000
  | 0 => Nat.le_refl _
  | n + 1 => by
    have := mn_le b f r n
    unfold mnA
    split <;> (first | omega | (split <;> omega))
theorem mn_door {b : AS} {f : Nat → Nat} {r q : Nat} (hw : 0 < a_wd b r q) : ∀ n, q < n → mnA b f r n ≤ a_in b q + f q
  | 0, h => absurd h (Nat.not_lt_zero _)
  | n + 1, h => by
    unfold mnA
    by_cases e : q = n
    · subst e
      rw [if_pos hw]
      split <;> omega
    · have := mn_door hw n (by omega) (f := f)
      split <;> (first | omega | (split <;> omega))
theorem mn_att {b : AS} {f : Nat → Nat} {r : Nat} : ∀ n, mnA b f r n < 1000000 → ∃ q, q < n ∧ 0 < a_wd b r q ∧ mnA b f r n = a_in b q + f q
  | 0, h => absurd h (Nat.lt_irrefl _)
  | n + 1, h => by
    unfold mnA at h ⊢
    by_cases c : mnA b f r n ≤ (if 0 < a_wd b r n then a_in b n + f n else 1000000)
    · rw [if_pos c] at h ⊢
      obtain ⟨q, h1, h2, h3⟩ := mn_att n h
      exact ⟨q, by omega, h2, h3⟩
    · rw [if_neg c] at h ⊢
      by_cases d : 0 < a_wd b r n
      · rw [if_pos d] at h ⊢
        exact ⟨n, by omega, d, rfl⟩
      · rw [if_neg d] at h; omega
theorem dA_le (b : AS) (g : Nat) : ∀ k r, dA b g k r ≤ 1000000
  | 0, r => by
    show (if r = g then 0 else 1000000) ≤ 1000000
    split <;> omega
  | k + 1, r => mn_le b _ r 6
theorem in_8 (b : AS) (q : Nat) : a_in b q ≤ 8 := by unfold a_in; rw [cn8_cnt]; exact cnt_le _ 8
theorem dA_small (b : AS) (g : Nat) : ∀ k r, dA b g k r < 1000000 → dA b g k r ≤ 8 * k
  | 0, r, h => by
    by_cases c : r = g
    · rw [show dA b g 0 r = 0 from if_pos c]; omega
    · rw [show dA b g 0 r = 1000000 from if_neg c] at h; omega
  | k + 1, r, h => by
    obtain ⟨q, h1, h2, h3⟩ := mn_att 6 (show mnA b (dA b g k) r 6 < 1000000 from h)
    have h3 : dA b g (k + 1) r = a_in b q + dA b g k q := h3
    have h4 := in_8 b q
    have h5 := dA_small b g k q (by omega)
    omega
/-- the least weight of all ways -/
def Gw (b : AS) (g : Nat) (G : Nat → Nat) : Prop := ∀ p, G p ≤ 1000000 ∧ (∀ k, dA b g k p < 1000000 → G p ≤ 100 * dA b g k p + k) ∧ (G p = 1000000 ∨ ∃ k, dA b g k p < 1000000 ∧ G p = 100 * dA b g k p + k)
theorem least_ex (P : Nat → Prop) : ∀ n, P n → ∃ m, P m ∧ ∀ j, P j → m ≤ j := by
  intro n
  induction n using Nat.strongRecOn with
  | ind n ih =>
    intro h
    by_cases c : ∃ j, j < n ∧ P j
    · obtain ⟨j, h1, h2⟩ := c
      exact ih j h1 h2
    · exact ⟨n, h, fun j hj => Nat.not_lt.mp (fun q => c ⟨j, q, hj⟩)⟩
theorem Gw_ex (b : AS) (g : Nat) : ∃ G, Gw b g G := by
  have h : ∀ p, ∃ m, (m ≤ 1000000 ∧ (∀ k, dA b g k p < 1000000 → m ≤ 100 * dA b g k p + k) ∧ (m = 1000000 ∨ ∃ k, dA b g k p < 1000000 ∧ m = 100 * dA b g k p + k)) := by
    intro p
    obtain ⟨m, h1, h2⟩ := least_ex (fun m => m = 1000000 ∨ ∃ k, dA b g k p < 1000000 ∧ m = 100 * dA b g k p + k) 1000000 (Or.inl rfl)
    exact ⟨m, h2 _ (Or.inl rfl), fun k hk => h2 _ (Or.inr ⟨k, hk, rfl⟩), h1⟩
  exact ⟨fun p => Classical.choose (h p), fun p => Classical.choose_spec (h p)⟩
section GW
variable {b : AS} {g : Nat} {G : Nat → Nat}
theorem G_door (hG : Gw b g G) {p q : Nat} (hq : q < 6) (hw : 0 < a_wd b p q) : G p ≤ tlA b q + G q := by
  obtain ⟨p1, p2, p3⟩ := hG p
  obtain ⟨q1, q2, q3⟩ := hG q
  unfold tlA
  rcases q3 with e | ⟨k, k1, k2⟩
  · omega
  · have h1 : dA b g (k + 1) p ≤ a_in b q + dA b g k q := mn_door hw 6 hq
    by_cases c : dA b g (k + 1) p < 1000000
    · have := p2 (k + 1) c
      omega
    · omega
theorem G_goal (hG : Gw b g G) : G g = 0 := by
  have h0 : dA b g 0 g = 0 := if_pos rfl
  have := (hG g).2.1 0 (by rw [h0]; decide)
  omega
theorem G_par (hG : Gw b g G) {p : Nat} (hp : p ≠ g) (h : G p < 1000000) : ∃ q, q < 6 ∧ 0 < a_wd b p q ∧ G p = tlA b q + G q := by
  obtain ⟨p1, p2, p3⟩ := hG p
  rcases p3 with e | ⟨k, k1, k2⟩
  · omega
  · cases k with
    | zero =>
      have h0 : dA b g 0 p = 1000000 := if_neg hp
      omega
    | succ k =>
      obtain ⟨q, h1, h2, h3⟩ := mn_att 6 (show mnA b (dA b g k) p 6 < 1000000 from k1)
      have h3 : dA b g (k + 1) p = a_in b q + dA b g k q := h3
      refine ⟨q, h1, h2, ?_⟩
      have h4 := G_door hG h1 h2
      have h5 := (hG q).2.1 k (by omega)
      unfold tlA at h4 ⊢
      omega
theorem wd_R (hI : Inv b) {p q : Nat} (hp : p < 6) (hq : q < 6) (hw : 0 < a_wd b p q) : p < a_R b ∧ q < a_R b := by
  have h1 := hI.2.2.1 p q hp hq
  have h2 := hI.2.2.1 q p hq hp
  constructor
  · by_cases c : p < a_R b
    · exact c
    · have := h1.2.2 (by omega); omega
  · by_cases c : q < a_R b
    · exact c
    · have := h2.2.2 (by omega)
      rw [← h1.2.1] at this; omega
/-- one who is counted more -/
theorem cnt_more {p q : Nat → Bool} {n j : Nat} (hj : j < n) (h : ∀ i, i < n → p i = true → q i = true) (h1 : p j = false) (h2 : q j = true) : cnt p n + 1 ≤ cnt q n := by
  rw [cnt_but q j n hj, if_pos h2]
  have := cnt_mono (p := p) (q := fun i => q i && !(i == j)) n (fun i hi hp => by
    have e : i ≠ j := fun e => by rw [e, h1] at hp; cases hp
    simp [h i hi hp, e])
  omega
theorem cnt_lt {p : Nat → Bool} {n j : Nat} (hj : j < n) (h1 : p j = false) : cnt p n + 1 ≤ n := by
  have := cnt_more (p := p) (q := fun _ => true) hj (fun _ _ _ => rfl) h1 rfl
  have h2 := cnt_le (fun _ => true) n
  omega
/-- the least weight is that of a way with fewer doors than rooms -/
theorem G_short (hI : Inv b) (hG : Gw b g G) (hg : g < a_R b) : ∀ n p, G p = n → p < a_R b → n < 1000000 → ∃ k, k ≤ cnt (fun r => decide (G r < n)) (a_R b) ∧ dA b g k p < 1000000 ∧ n = 100 * dA b g k p + k := by
  intro n
  induction n using Nat.strongRecOn with
  | ind n ih =>
    intro p e hp hn
    have hR := hI.1.2.1
    by_cases c : p = g
    · have h0 : dA b g 0 p = 0 := if_pos c
      refine ⟨0, Nat.zero_le _, by rw [h0]; decide, ?_⟩
      rw [h0, ← e, c, G_goal hG]
    · obtain ⟨q, h1, h2, h3⟩ := G_par hG c (by rw [e]; exact hn)
      have hqR := (wd_R hI (by omega) h1 h2).2
      have ht : 1 ≤ tlA b q := by unfold tlA; omega
      obtain ⟨k, k1, k2, k3⟩ := ih (G q) (by omega) q rfl hqR (by omega)
      have h4 : dA b g (k + 1) p ≤ a_in b q + dA b g k q := mn_door h2 6 h1
      have h5 : cnt (fun r => decide (G r < G q)) (a_R b) + 1 ≤ cnt (fun r => decide (G r < n)) (a_R b) := cnt_more hqR (fun i _ hi => by
        have := of_decide_eq_true hi
        exact decide_eq_true (by omega)) (decide_eq_false (Nat.lt_irrefl _)) (decide_eq_true (by omega))
      have h6 : tlA b q = 100 * a_in b q + 1 := rfl
      have h7 : dA b g (k + 1) p < 1000000 := by omega
      have h8 := (hG p).2.1 (k + 1) h7
      exact ⟨k + 1, by omega, h7, by omega⟩
theorem G_k (hI : Inv b) (hG : Gw b g G) (hg : g < a_R b) {p : Nat} (hp : p < a_R b) (h : G p < 1000000) : ∃ k, k < a_R b ∧ dA b g k p < 1000000 ∧ G p = 100 * dA b g k p + k := by
  obtain ⟨k, k1, k2, k3⟩ := G_short hI hG hg (G p) p rfl hp h
  have := cnt_lt (p := fun r => decide (G r < G p)) hp (decide_eq_false (Nat.lt_irrefl _))
  exact ⟨k, by omega, k2, k3⟩
/-- who follows: by the class' measure, and by the reference's -/
def flC (b : AS) (G : Nat → Nat) (p q : Nat) : Prop := 0 < a_wd b p q ∧ tlA b q + G q = G p
theorem fl_ref (hI : Inv b) (hG : Gw b g G) (hg : g < a_R b) {p q j : Nat} (hp : p < a_R b) (hq : q < 6) (hj : j + 1 < a_R b) (hd : dA b g (j + 1) p < 1000000) (hGp : G p = 100 * dA b g (j + 1) p + (j + 1)) : (0 < a_wd b p q ∧ a_in b q + dA b g j q = dA b g (j + 1) p) ↔ flC b G p q := by
  have hR := hI.1.2.1
  have h6 : tlA b q = 100 * a_in b q + 1 := rfl
  constructor
  · rintro ⟨h1, h2⟩
    refine ⟨h1, ?_⟩
    have h3 := G_door hG hq h1
    have h4 := (hG q).2.1 j (by omega)
    omega
  · rintro ⟨h1, h2⟩
    refine ⟨h1, ?_⟩
    have hqR := (wd_R hI (by omega) hq h1).2
    have hb := (hG p).1
    have hlt : G q < 1000000 := by omega
    obtain ⟨k, k1, k2, k3⟩ := G_k hI hG hg hqR hlt
    have : k = j := by omega
    subst this
    omega
theorem fl_next (hI : Inv b) (hG : Gw b g G) (hg : g < a_R b) {p q j : Nat} (hp : p < a_R b) (hq : q < 6) (hj : j + 1 < a_R b) (hd : dA b g (j + 1) p < 1000000) (hGp : G p = 100 * dA b g (j + 1) p + (j + 1)) (h : flC b G p q) : q < a_R b ∧ dA b g j q < 1000000 ∧ G q = 100 * dA b g j q + j := by
  have hR := hI.1.2.1
  have h6 : tlA b q = 100 * a_in b q + 1 := rfl
  obtain ⟨h1, h2⟩ := (fl_ref hI hG hg hp hq hj hd hGp).mpr h
  have h3 := h.2
  exact ⟨(wd_R hI (by omega) hq h1).2, by omega, by omega⟩
theorem fl_first (hI : Inv b) (hG : Gw b g G) {p : Nat} (hp : p < a_R b) (h0 : G p ≠ 0) (h : G p < 1000000) : ∃ q, q < a_R b ∧ flC b G p q ∧ ∀ j, j < q → ¬ flC b G p j := by
  have hR := hI.1.2.1
  obtain ⟨q, h1, h2, h3⟩ := G_par hG (fun e => h0 (by rw [e]; exact G_goal hG)) h
  obtain ⟨m, m1, m2⟩ := least_ex (fun q => q < a_R b ∧ flC b G p q) q ⟨(wd_R hI (by omega) h1 h2).2, h2, h3.symm⟩
  exact ⟨m, m1.1, m1.2, fun j hj hc => by have := m2 j ⟨by omega, hc⟩; omega⟩
/-- the way, room by room -/
theorem way_ex (hI : Inv b) (hG : Gw b g G) (hg : g < a_R b) {r k : Nat} (hr : r < a_R b) (hk : k < a_R b) (hd : dA b g k r < 1000000) (hGr : G r = 100 * dA b g k r + k) : ∃ P : Nat → Nat, P 0 = r ∧ (∀ n, n ≤ k → P n < a_R b ∧ dA b g (k - n) (P n) < 1000000 ∧ G (P n) = 100 * dA b g (k - n) (P n) + (k - n)) ∧ ∀ n, n < k → flC b G (P n) (P (n + 1)) ∧ ∀ j, j < P (n + 1) → ¬ flC b G (P n) j := by
  have hR := hI.1.2.1
  have hf : ∀ p, ∃ q, p < a_R b ∧ G p ≠ 0 ∧ G p < 1000000 → q < a_R b ∧ flC b G p q ∧ ∀ j, j < q → ¬ flC b G p j := by
    intro p
    by_cases c : p < a_R b ∧ G p ≠ 0 ∧ G p < 1000000
    · obtain ⟨q, hq⟩ := fl_first hI hG c.1 c.2.1 c.2.2
      exact ⟨q, fun _ => hq⟩
    · exact ⟨0, fun h => absurd h c⟩
  obtain ⟨F, hF⟩ : ∃ F : Nat → Nat, ∀ p, p < a_R b ∧ G p ≠ 0 ∧ G p < 1000000 → F p < a_R b ∧ flC b G p (F p) ∧ ∀ j, j < F p → ¬ flC b G p j := ⟨fun p => Classical.choose (hf p), fun p => Classical.choose_spec (hf p)⟩
  have st : ∀ n, n ≤ k → (fun n => Nat.rec (motive := fun _ => Nat) r (fun _ p => F p) n) n < a_R b ∧ dA b g (k - n) ((fun n => Nat.rec (motive := fun _ => Nat) r (fun _ p => F p) n) n) < 1000000 ∧ G ((fun n => Nat.rec (motive := fun _ => Nat) r (fun _ p => F p) n) n) = 100 * dA b g (k - n) ((fun n => Nat.rec (motive := fun _ => Nat) r (fun _ p => F p) n) n) + (k - n) := by
    intro n
    induction n with
    | zero => intro _; exact ⟨hr, hd, hGr⟩
    | succ n ih =>
      intro hn
      obtain ⟨i1, i2, i3⟩ := ih (by omega)
      generalize e : (fun n => Nat.rec (motive := fun _ => Nat) r (fun _ p => F p) n) n = p at i1 i2 i3
      have e' : (fun n => Nat.rec (motive := fun _ => Nat) r (fun _ p => F p) n) (n + 1) = F p := by rw [← e]
      rw [e']
      obtain ⟨j, hj⟩ : ∃ j, j = k - (n + 1) := ⟨_, rfl⟩
      rw [← hj]
      rw [show k - n = j + 1 by omega] at i2 i3
      have hlt : G p < 1000000 := by
        have h8 := dA_small b g _ _ i2
        omega
      obtain ⟨f1, f2, f3⟩ := hF p ⟨i1, by omega, hlt⟩
      exact fl_next hI hG hg i1 (by omega) (by omega) i2 i3 f2
  refine ⟨fun n => Nat.rec (motive := fun _ => Nat) r (fun _ p => F p) n, rfl, st, ?_⟩
  intro n hn
  obtain ⟨i1, i2, i3⟩ := st n (by omega)
  have hlt : G ((fun n => Nat.rec (motive := fun _ => Nat) r (fun _ p => F p) n) n) < 1000000 := by
    have h8 := dA_small b g _ _ i2
    omega
  exact ⟨(hF _ ⟨i1, by omega, hlt⟩).2.1, (hF _ ⟨i1, by omega, hlt⟩).2.2⟩
end GW
