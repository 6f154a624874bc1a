/-- the class' state: all its parts -/
abbrev KDS : Type := HS × PS × DS × YS × TS × OS × SS × US × (Nat → Int32) × (Nat → Int64) × HS × HS
def K_now (x : KDS) : HS := x.1
def K_pad (x : KDS) : PS := x.2.1
def K_drift (x : KDS) : DS := x.2.2.1
def K_play (x : KDS) : YS := x.2.2.2.1
def K_rest (x : KDS) : TS := x.2.2.2.2.1
def K_route (x : KDS) : OS := x.2.2.2.2.2.1
def K_stagger (x : KDS) : SS := x.2.2.2.2.2.2.1
def K_draws (x : KDS) : US := x.2.2.2.2.2.2.2.1
def K_kept (x : KDS) : (Nat → Int32) := x.2.2.2.2.2.2.2.2.1
def K_ends (x : KDS) : (Nat → Int64) := x.2.2.2.2.2.2.2.2.2.1
def K_img0 (x : KDS) : HS := x.2.2.2.2.2.2.2.2.2.2.1
def K_img1 (x : KDS) : HS := x.2.2.2.2.2.2.2.2.2.2.2
def K_set_now (x : KDS) (v : HS) : KDS := (v, K_pad x, K_drift x, K_play x, K_rest x, K_route x, K_stagger x, K_draws x, K_kept x, K_ends x, K_img0 x, K_img1 x)
def K_set_pad (x : KDS) (v : PS) : KDS := (K_now x, v, K_drift x, K_play x, K_rest x, K_route x, K_stagger x, K_draws x, K_kept x, K_ends x, K_img0 x, K_img1 x)
def K_set_drift (x : KDS) (v : DS) : KDS := (K_now x, K_pad x, v, K_play x, K_rest x, K_route x, K_stagger x, K_draws x, K_kept x, K_ends x, K_img0 x, K_img1 x)
def K_set_play (x : KDS) (v : YS) : KDS := (K_now x, K_pad x, K_drift x, v, K_rest x, K_route x, K_stagger x, K_draws x, K_kept x, K_ends x, K_img0 x, K_img1 x)
def K_set_rest (x : KDS) (v : TS) : KDS := (K_now x, K_pad x, K_drift x, K_play x, v, K_route x, K_stagger x, K_draws x, K_kept x, K_ends x, K_img0 x, K_img1 x)
def K_set_route (x : KDS) (v : OS) : KDS := (K_now x, K_pad x, K_drift x, K_play x, K_rest x, v, K_stagger x, K_draws x, K_kept x, K_ends x, K_img0 x, K_img1 x)
def K_set_stagger (x : KDS) (v : SS) : KDS := (K_now x, K_pad x, K_drift x, K_play x, K_rest x, K_route x, v, K_draws x, K_kept x, K_ends x, K_img0 x, K_img1 x)
def K_set_draws (x : KDS) (v : US) : KDS := (K_now x, K_pad x, K_drift x, K_play x, K_rest x, K_route x, K_stagger x, v, K_kept x, K_ends x, K_img0 x, K_img1 x)
def K_set_kept (x : KDS) (v : (Nat → Int32)) : KDS := (K_now x, K_pad x, K_drift x, K_play x, K_rest x, K_route x, K_stagger x, K_draws x, v, K_ends x, K_img0 x, K_img1 x)
def K_set_ends (x : KDS) (v : (Nat → Int64)) : KDS := (K_now x, K_pad x, K_drift x, K_play x, K_rest x, K_route x, K_stagger x, K_draws x, K_kept x, v, K_img0 x, K_img1 x)
def K_set_img0 (x : KDS) (v : HS) : KDS := (K_now x, K_pad x, K_drift x, K_play x, K_rest x, K_route x, K_stagger x, K_draws x, K_kept x, K_ends x, v, K_img1 x)
def K_set_img1 (x : KDS) (v : HS) : KDS := (K_now x, K_pad x, K_drift x, K_play x, K_rest x, K_route x, K_stagger x, K_draws x, K_kept x, K_ends x, K_img0 x, v)
/-- rooms: both answer alike, and stand alike behind it -/
def SimN_rooms (R R' : KDS → MS → Prop) : Prop := ∀ (S : KDS) (z : MS) (x1 : Int32), R S z → ∃ q w, f_X8_rooms (K_now S) x1 = some q ∧ f_X9_rooms z x1 = some w ∧ q.1 = w.1 ∧ R' (K_set_now S q.2) w.2
def WSim_rooms (R R' : KDS → MS → Prop) : Prop := ∀ (S : KDS) (z : MS) (x1 : Int32), R S z → ∃ q w, f_X8_rooms (K_now S) x1 = some q ∧ f_X9_rooms z x1 = some w ∧ R' (K_set_now S q.2) w.2
theorem WSim_of_rooms {R R' : KDS → MS → Prop} (h : SimN_rooms R R') : WSim_rooms R R' := fun S z x1 hr => by obtain ⟨q, w, a, b, _, d⟩ := h S z x1 hr; exact ⟨q, w, a, b, d⟩
abbrev Sim_rooms (Rel : KDS → MS → Prop) : Prop := SimN_rooms Rel Rel
/-- room: both answer alike, and stand alike behind it -/
def SimN_room (R R' : KDS → MS → Prop) : Prop := ∀ (S : KDS) (z : MS) (x1 x2 x3 : Int32), R S z → ∃ q w, f_X8_room (K_now S) x1 x2 x3 = some q ∧ f_X9_room z x1 x2 x3 = some w ∧ q.1 = w.1 ∧ R' (K_set_now S q.2) w.2
def WSim_room (R R' : KDS → MS → Prop) : Prop := ∀ (S : KDS) (z : MS) (x1 x2 x3 : Int32), R S z → ∃ q w, f_X8_room (K_now S) x1 x2 x3 = some q ∧ f_X9_room z x1 x2 x3 = some w ∧ R' (K_set_now S q.2) w.2
theorem WSim_of_room {R R' : KDS → MS → Prop} (h : SimN_room R R') : WSim_room R R' := fun S z x1 x2 x3 hr => by obtain ⟨q, w, a, b, _, d⟩ := h S z x1 x2 x3 hr; exact ⟨q, w, a, b, d⟩
abbrev Sim_room (Rel : KDS → MS → Prop) : Prop := SimN_room Rel Rel
/-- door: both answer alike, and stand alike behind it -/
def SimN_door (R R' : KDS → MS → Prop) : Prop := ∀ (S : KDS) (z : MS) (x1 x2 x3 : Int32), R S z → ∃ q w, f_X8_door (K_now S) x1 x2 x3 = some q ∧ f_X9_door z x1 x2 x3 = some w ∧ q.1 = w.1 ∧ R' (K_set_now S q.2) w.2
def WSim_door (R R' : KDS → MS → Prop) : Prop := ∀ (S : KDS) (z : MS) (x1 x2 x3 : Int32), R S z → ∃ q w, f_X8_door (K_now S) x1 x2 x3 = some q ∧ f_X9_door z x1 x2 x3 = some w ∧ R' (K_set_now S q.2) w.2
theorem WSim_of_door {R R' : KDS → MS → Prop} (h : SimN_door R R') : WSim_door R R' := fun S z x1 x2 x3 hr => by obtain ⟨q, w, a, b, _, d⟩ := h S z x1 x2 x3 hr; exact ⟨q, w, a, b, d⟩
abbrev Sim_door (Rel : KDS → MS → Prop) : Prop := SimN_door Rel Rel
/-- guest: both answer alike, and stand alike behind it -/
def SimN_guest (R R' : KDS → MS → Prop) : Prop := ∀ (S : KDS) (z : MS) (x1 x2 : Int32), R S z → ∃ q w, f_X8_guest (K_now S) x1 x2 = some q ∧ f_X9_guest z x1 x2 = some w ∧ q.1 = w.1 ∧ R' (K_set_now S q.2) w.2
def WSim_guest (R R' : KDS → MS → Prop) : Prop := ∀ (S : KDS) (z : MS) (x1 x2 : Int32), R S z → ∃ q w, f_X8_guest (K_now S) x1 x2 = some q ∧ f_X9_guest z x1 x2 = some w ∧ R' (K_set_now S q.2) w.2
theorem WSim_of_guest {R R' : KDS → MS → Prop} (h : SimN_guest R R') : WSim_guest R R' := fun S z x1 x2 hr => by obtain ⟨q, w, a, b, _, d⟩ := h S z x1 x2 hr; exact ⟨q, w, a, b, d⟩
abbrev Sim_guest (Rel : KDS → MS → Prop) : Prop := SimN_guest Rel Rel
/-- likes: both answer alike, and stand alike behind it -/
def SimN_likes (R R' : KDS → MS → Prop) : Prop := ∀ (S : KDS) (z : MS) (x1 x2 x3 : Int32), R S z → ∃ q w, f_X8_likes (K_now S) x1 x2 x3 = some q ∧ f_X9_likes z x1 x2 x3 = some w ∧ q.1 = w.1 ∧ R' (K_set_now S q.2) w.2
def WSim_likes (R R' : KDS → MS → Prop) : Prop := ∀ (S : KDS) (z : MS) (x1 x2 x3 : Int32), R S z → ∃ q w, f_X8_likes (K_now S) x1 x2 x3 = some q ∧ f_X9_likes z x1 x2 x3 = some w ∧ R' (K_set_now S q.2) w.2
theorem WSim_of_likes {R R' : KDS → MS → Prop} (h : SimN_likes R R') : WSim_likes R R' := fun S z x1 x2 x3 hr => by obtain ⟨q, w, a, b, _, d⟩ := h S z x1 x2 x3 hr; exact ⟨q, w, a, b, d⟩
abbrev Sim_likes (Rel : KDS → MS → Prop) : Prop := SimN_likes Rel Rel
/-- leave: both answer alike, and stand alike behind it -/
def SimN_leave (R R' : KDS → MS → Prop) : Prop := ∀ (S : KDS) (z : MS) (x1 : Int32), R S z → ∃ q w, f_X8_leave (K_now S) x1 = some q ∧ f_X9_leave z x1 = some w ∧ q.1 = w.1 ∧ R' (K_set_now S q.2) w.2
def WSim_leave (R R' : KDS → MS → Prop) : Prop := ∀ (S : KDS) (z : MS) (x1 : Int32), R S z → ∃ q w, f_X8_leave (K_now S) x1 = some q ∧ f_X9_leave z x1 = some w ∧ R' (K_set_now S q.2) w.2
theorem WSim_of_leave {R R' : KDS → MS → Prop} (h : SimN_leave R R') : WSim_leave R R' := fun S z x1 hr => by obtain ⟨q, w, a, b, _, d⟩ := h S z x1 hr; exact ⟨q, w, a, b, d⟩
abbrev Sim_leave (Rel : KDS → MS → Prop) : Prop := SimN_leave Rel Rel
/-- say: both answer alike, and stand alike behind it -/
def SimN_say (R R' : KDS → MS → Prop) : Prop := ∀ (S : KDS) (z : MS) (x1 : Int32), R S z → ∃ q w, f_X8_say (K_pad S) x1 = some q ∧ f_X9_say z x1 = some w ∧ q.1 = w.1 ∧ R' (K_set_pad S q.2) w.2
def WSim_say (R R' : KDS → MS → Prop) : Prop := ∀ (S : KDS) (z : MS) (x1 : Int32), R S z → ∃ q w, f_X8_say (K_pad S) x1 = some q ∧ f_X9_say z x1 = some w ∧ R' (K_set_pad S q.2) w.2
theorem WSim_of_say {R R' : KDS → MS → Prop} (h : SimN_say R R') : WSim_say R R' := fun S z x1 hr => by obtain ⟨q, w, a, b, _, d⟩ := h S z x1 hr; exact ⟨q, w, a, b, d⟩
abbrev Sim_say (Rel : KDS → MS → Prop) : Prop := SimN_say Rel Rel
/-- wipe: both answer alike, and stand alike behind it -/
def SimN_wipe (R R' : KDS → MS → Prop) : Prop := ∀ (S : KDS) (z : MS), R S z → ∃ q w, f_X8_wipe (K_pad S) = some q ∧ f_X9_wipe z = some w ∧ q.1 = w.1 ∧ R' (K_set_pad S q.2) w.2
def WSim_wipe (R R' : KDS → MS → Prop) : Prop := ∀ (S : KDS) (z : MS), R S z → ∃ q w, f_X8_wipe (K_pad S) = some q ∧ f_X9_wipe z = some w ∧ R' (K_set_pad S q.2) w.2
theorem WSim_of_wipe {R R' : KDS → MS → Prop} (h : SimN_wipe R R') : WSim_wipe R R' := fun S z  hr => by obtain ⟨q, w, a, b, _, d⟩ := h S z  hr; exact ⟨q, w, a, b, d⟩
abbrev Sim_wipe (Rel : KDS → MS → Prop) : Prop := SimN_wipe Rel Rel
/-- fault: both answer alike, and stand alike behind it -/
def SimN_fault (R R' : KDS → MS → Prop) : Prop := ∀ (S : KDS) (z : MS), R S z → ∃ q w, f_X8_fault (K_now S) (K_pad S) = some q ∧ f_X9_fault z = some w ∧ q = w ∧ R' S z
def WSim_fault (R R' : KDS → MS → Prop) : Prop := ∀ (S : KDS) (z : MS), R S z → ∃ q w, f_X8_fault (K_now S) (K_pad S) = some q ∧ f_X9_fault z = some w ∧ R' S z
theorem WSim_of_fault {R R' : KDS → MS → Prop} (h : SimN_fault R R') : WSim_fault R R' := fun S z  hr => by obtain ⟨q, w, a, b, _, d⟩ := h S z  hr; exact ⟨q, w, a, b, d⟩
abbrev Sim_fault (Rel : KDS → MS → Prop) : Prop := SimN_fault Rel Rel
/-- judge: both answer alike, and stand alike behind it -/
def SimN_judge (R R' : KDS → MS → Prop) : Prop := ∀ (S : KDS) (z : MS) (x1 : Int32), R S z → ∃ q w, f_X8_judge (K_now S) (K_pad S) (K_drift S) (K_play S) x1 = some q ∧ f_X9_judge z x1 = some w ∧ q.1 = w.1 ∧ R' (K_set_play (K_set_drift S q.2.1) q.2.2) w.2
def WSim_judge (R R' : KDS → MS → Prop) : Prop := ∀ (S : KDS) (z : MS) (x1 : Int32), R S z → ∃ q w, f_X8_judge (K_now S) (K_pad S) (K_drift S) (K_play S) x1 = some q ∧ f_X9_judge z x1 = some w ∧ R' (K_set_play (K_set_drift S q.2.1) q.2.2) w.2
theorem WSim_of_judge {R R' : KDS → MS → Prop} (h : SimN_judge R R') : WSim_judge R R' := fun S z x1 hr => by obtain ⟨q, w, a, b, _, d⟩ := h S z x1 hr; exact ⟨q, w, a, b, d⟩
abbrev Sim_judge (Rel : KDS → MS → Prop) : Prop := SimN_judge Rel Rel
/-- done: both answer alike, and stand alike behind it -/
def SimN_done (R R' : KDS → MS → Prop) : Prop := ∀ (S : KDS) (z : MS), R S z → ∃ q w, f_X8_done (K_now S) (K_pad S) (K_drift S) (K_play S) = some q ∧ f_X9_done z = some w ∧ q.1 = w.1 ∧ R' (K_set_play (K_set_drift (K_set_pad (K_set_now S q.2.1) q.2.2.1) q.2.2.2.1) q.2.2.2.2) w.2
def WSim_done (R R' : KDS → MS → Prop) : Prop := ∀ (S : KDS) (z : MS), R S z → ∃ q w, f_X8_done (K_now S) (K_pad S) (K_drift S) (K_play S) = some q ∧ f_X9_done z = some w ∧ R' (K_set_play (K_set_drift (K_set_pad (K_set_now S q.2.1) q.2.2.1) q.2.2.2.1) q.2.2.2.2) w.2
theorem WSim_of_done {R R' : KDS → MS → Prop} (h : SimN_done R R') : WSim_done R R' := fun S z  hr => by obtain ⟨q, w, a, b, _, d⟩ := h S z  hr; exact ⟨q, w, a, b, d⟩
abbrev Sim_done (Rel : KDS → MS → Prop) : Prop := SimN_done Rel Rel
/-- state: both answer alike, and stand alike behind it -/
def SimN_state (R R' : KDS → MS → Prop) : Prop := ∀ (S : KDS) (z : MS) (x1 x2 : Int32), R S z → ∃ q w, f_X8_state (K_now S) x1 x2 = some q ∧ f_X9_state z x1 x2 = some w ∧ q = w.1 ∧ R' S w.2
def WSim_state (R R' : KDS → MS → Prop) : Prop := ∀ (S : KDS) (z : MS) (x1 x2 : Int32), R S z → ∃ q w, f_X8_state (K_now S) x1 x2 = some q ∧ f_X9_state z x1 x2 = some w ∧ R' S w.2
theorem WSim_of_state {R R' : KDS → MS → Prop} (h : SimN_state R R') : WSim_state R R' := fun S z x1 x2 hr => by obtain ⟨q, w, a, b, _, d⟩ := h S z x1 x2 hr; exact ⟨q, w, a, b, d⟩
abbrev Sim_state (Rel : KDS → MS → Prop) : Prop := SimN_state Rel Rel
/-- behind: both answer alike, and stand alike behind it -/
def SimN_behind (R R' : KDS → MS → Prop) : Prop := ∀ (S : KDS) (z : MS) (x1 x2 : Int32), R S z → ∃ q w, f_X8_behind (K_now S) (K_pad S) (K_drift S) (K_play S) x1 x2 = some q ∧ f_X9_behind z x1 x2 = some w ∧ q.1 = w.1 ∧ R' (K_set_play (K_set_drift S q.2.1) q.2.2) w.2
def WSim_behind (R R' : KDS → MS → Prop) : Prop := ∀ (S : KDS) (z : MS) (x1 x2 : Int32), R S z → ∃ q w, f_X8_behind (K_now S) (K_pad S) (K_drift S) (K_play S) x1 x2 = some q ∧ f_X9_behind z x1 x2 = some w ∧ R' (K_set_play (K_set_drift S q.2.1) q.2.2) w.2
theorem WSim_of_behind {R R' : KDS → MS → Prop} (h : SimN_behind R R') : WSim_behind R R' := fun S z x1 x2 hr => by obtain ⟨q, w, a, b, _, d⟩ := h S z x1 x2 hr; exact ⟨q, w, a, b, d⟩
abbrev Sim_behind (Rel : KDS → MS → Prop) : Prop := SimN_behind Rel Rel
/-- draw: both answer alike, and stand alike behind it -/
def SimN_draw (R R' : KDS → MS → Prop) : Prop := ∀ (S : KDS) (z : MS) (x1 x2 : Int32), R S z → ∃ q w, f_X8_draw (K_now S) x1 x2 = some q ∧ f_X9_draw z x1 x2 = some w ∧ q = w.1 ∧ R' S w.2
def WSim_draw (R R' : KDS → MS → Prop) : Prop := ∀ (S : KDS) (z : MS) (x1 x2 : Int32), R S z → ∃ q w, f_X8_draw (K_now S) x1 x2 = some q ∧ f_X9_draw z x1 x2 = some w ∧ R' S w.2
theorem WSim_of_draw {R R' : KDS → MS → Prop} (h : SimN_draw R R') : WSim_draw R R' := fun S z x1 x2 hr => by obtain ⟨q, w, a, b, _, d⟩ := h S z x1 x2 hr; exact ⟨q, w, a, b, d⟩
abbrev Sim_draw (Rel : KDS → MS → Prop) : Prop := SimN_draw Rel Rel
/-- goes: both answer alike, and stand alike behind it -/
def SimN_goes (R R' : KDS → MS → Prop) : Prop := ∀ (S : KDS) (z : MS) (x1 : Int32), R S z → ∃ q w, f_X8_goes (K_now S) (K_drift S) x1 = some q ∧ f_X9_goes z x1 = some w ∧ q.1 = w.1 ∧ R' (K_set_drift S q.2) w.2
def WSim_goes (R R' : KDS → MS → Prop) : Prop := ∀ (S : KDS) (z : MS) (x1 : Int32), R S z → ∃ q w, f_X8_goes (K_now S) (K_drift S) x1 = some q ∧ f_X9_goes z x1 = some w ∧ R' (K_set_drift S q.2) w.2
theorem WSim_of_goes {R R' : KDS → MS → Prop} (h : SimN_goes R R') : WSim_goes R R' := fun S z x1 hr => by obtain ⟨q, w, a, b, _, d⟩ := h S z x1 hr; exact ⟨q, w, a, b, d⟩
abbrev Sim_goes (Rel : KDS → MS → Prop) : Prop := SimN_goes Rel Rel
/-- after: both answer alike, and stand alike behind it -/
def SimN_after (R R' : KDS → MS → Prop) : Prop := ∀ (S : KDS) (z : MS) (x1 x2 : Int32), R S z → ∃ q w, f_X8_after (K_now S) (K_drift S) x1 x2 = some q ∧ f_X9_after z x1 x2 = some w ∧ q.1 = w.1 ∧ R' (K_set_drift S q.2) w.2
def WSim_after (R R' : KDS → MS → Prop) : Prop := ∀ (S : KDS) (z : MS) (x1 x2 : Int32), R S z → ∃ q w, f_X8_after (K_now S) (K_drift S) x1 x2 = some q ∧ f_X9_after z x1 x2 = some w ∧ R' (K_set_drift S q.2) w.2
theorem WSim_of_after {R R' : KDS → MS → Prop} (h : SimN_after R R') : WSim_after R R' := fun S z x1 x2 hr => by obtain ⟨q, w, a, b, _, d⟩ := h S z x1 x2 hr; exact ⟨q, w, a, b, d⟩
abbrev Sim_after (Rel : KDS → MS → Prop) : Prop := SimN_after Rel Rel
/-- crowd: both answer alike, and stand alike behind it -/
def SimN_crowd (R R' : KDS → MS → Prop) : Prop := ∀ (S : KDS) (z : MS) (x1 x2 : Int32), R S z → ∃ q w, f_X8_crowd (K_now S) (K_drift S) x1 x2 = some q ∧ f_X9_crowd z x1 x2 = some w ∧ q.1 = w.1 ∧ R' (K_set_drift S q.2) w.2
def WSim_crowd (R R' : KDS → MS → Prop) : Prop := ∀ (S : KDS) (z : MS) (x1 x2 : Int32), R S z → ∃ q w, f_X8_crowd (K_now S) (K_drift S) x1 x2 = some q ∧ f_X9_crowd z x1 x2 = some w ∧ R' (K_set_drift S q.2) w.2
theorem WSim_of_crowd {R R' : KDS → MS → Prop} (h : SimN_crowd R R') : WSim_crowd R R' := fun S z x1 x2 hr => by obtain ⟨q, w, a, b, _, d⟩ := h S z x1 x2 hr; exact ⟨q, w, a, b, d⟩
abbrev Sim_crowd (Rel : KDS → MS → Prop) : Prop := SimN_crowd Rel Rel
/-- still: both answer alike, and stand alike behind it -/
def SimN_still (R R' : KDS → MS → Prop) : Prop := ∀ (S : KDS) (z : MS), R S z → ∃ q w, f_X8_still (K_now S) (K_drift S) = some q ∧ f_X9_still z = some w ∧ q.1 = w.1 ∧ R' (K_set_drift S q.2) w.2
def WSim_still (R R' : KDS → MS → Prop) : Prop := ∀ (S : KDS) (z : MS), R S z → ∃ q w, f_X8_still (K_now S) (K_drift S) = some q ∧ f_X9_still z = some w ∧ R' (K_set_drift S q.2) w.2
theorem WSim_of_still {R R' : KDS → MS → Prop} (h : SimN_still R R') : WSim_still R R' := fun S z  hr => by obtain ⟨q, w, a, b, _, d⟩ := h S z  hr; exact ⟨q, w, a, b, d⟩
abbrev Sim_still (Rel : KDS → MS → Prop) : Prop := SimN_still Rel Rel
/-- round: both answer alike, and stand alike behind it -/
def SimN_round (R R' : KDS → MS → Prop) : Prop := ∀ (S : KDS) (z : MS), R S z → ∃ q w, f_X8_round (K_now S) (K_drift S) (K_ends S) = some q ∧ f_X9_round z = some w ∧ q.1 = w.1 ∧ R' (K_set_ends (K_set_drift S q.2.1) q.2.2) w.2
def WSim_round (R R' : KDS → MS → Prop) : Prop := ∀ (S : KDS) (z : MS), R S z → ∃ q w, f_X8_round (K_now S) (K_drift S) (K_ends S) = some q ∧ f_X9_round z = some w ∧ R' (K_set_ends (K_set_drift S q.2.1) q.2.2) w.2
theorem WSim_of_round {R R' : KDS → MS → Prop} (h : SimN_round R R') : WSim_round R R' := fun S z  hr => by obtain ⟨q, w, a, b, _, d⟩ := h S z  hr; exact ⟨q, w, a, b, d⟩
abbrev Sim_round (Rel : KDS → MS → Prop) : Prop := SimN_round Rel Rel
/-- throng: both answer alike, and stand alike behind it -/
def SimN_throng (R R' : KDS → MS → Prop) : Prop := ∀ (S : KDS) (z : MS) (x1 : Int32), R S z → ∃ q w, f_X8_throng (K_now S) (K_drift S) x1 = some q ∧ f_X9_throng z x1 = some w ∧ q.1 = w.1 ∧ R' (K_set_drift S q.2) w.2
def WSim_throng (R R' : KDS → MS → Prop) : Prop := ∀ (S : KDS) (z : MS) (x1 : Int32), R S z → ∃ q w, f_X8_throng (K_now S) (K_drift S) x1 = some q ∧ f_X9_throng z x1 = some w ∧ R' (K_set_drift S q.2) w.2
theorem WSim_of_throng {R R' : KDS → MS → Prop} (h : SimN_throng R R') : WSim_throng R R' := fun S z x1 hr => by obtain ⟨q, w, a, b, _, d⟩ := h S z x1 hr; exact ⟨q, w, a, b, d⟩
abbrev Sim_throng (Rel : KDS → MS → Prop) : Prop := SimN_throng Rel Rel
/-- carried: both answer alike, and stand alike behind it -/
def SimN_carried (R R' : KDS → MS → Prop) : Prop := ∀ (S : KDS) (z : MS) (x1 x2 : Int32), R S z → ∃ q w, f_X8_carried (K_now S) (K_drift S) x1 x2 = some q ∧ f_X9_carried z x1 x2 = some w ∧ q.1 = w.1 ∧ R' (K_set_drift S q.2) w.2
def WSim_carried (R R' : KDS → MS → Prop) : Prop := ∀ (S : KDS) (z : MS) (x1 x2 : Int32), R S z → ∃ q w, f_X8_carried (K_now S) (K_drift S) x1 x2 = some q ∧ f_X9_carried z x1 x2 = some w ∧ R' (K_set_drift S q.2) w.2
theorem WSim_of_carried {R R' : KDS → MS → Prop} (h : SimN_carried R R') : WSim_carried R R' := fun S z x1 x2 hr => by obtain ⟨q, w, a, b, _, d⟩ := h S z x1 x2 hr; exact ⟨q, w, a, b, d⟩
abbrev Sim_carried (Rel : KDS → MS → Prop) : Prop := SimN_carried Rel Rel
/-- hinges: both answer alike, and stand alike behind it -/
def SimN_hinges (R R' : KDS → MS → Prop) : Prop := ∀ (S : KDS) (z : MS) (x1 x2 : Int32), R S z → ∃ q w, f_X8_hinges (K_now S) (K_drift S) x1 x2 = some q ∧ f_X9_hinges z x1 x2 = some w ∧ q.1 = w.1 ∧ R' (K_set_drift S q.2) w.2
def WSim_hinges (R R' : KDS → MS → Prop) : Prop := ∀ (S : KDS) (z : MS) (x1 x2 : Int32), R S z → ∃ q w, f_X8_hinges (K_now S) (K_drift S) x1 x2 = some q ∧ f_X9_hinges z x1 x2 = some w ∧ R' (K_set_drift S q.2) w.2
theorem WSim_of_hinges {R R' : KDS → MS → Prop} (h : SimN_hinges R R') : WSim_hinges R R' := fun S z x1 x2 hr => by obtain ⟨q, w, a, b, _, d⟩ := h S z x1 x2 hr; exact ⟨q, w, a, b, d⟩
abbrev Sim_hinges (Rel : KDS → MS → Prop) : Prop := SimN_hinges Rel Rel
/-- best: both answer alike, and stand alike behind it -/
def SimN_best (R R' : KDS → MS → Prop) : Prop := ∀ (S : KDS) (z : MS) (x1 : Int32), R S z → ∃ q w, f_X8_best (K_now S) x1 = some q ∧ f_X9_best z x1 = some w ∧ q = w.1 ∧ R' S w.2
def WSim_best (R R' : KDS → MS → Prop) : Prop := ∀ (S : KDS) (z : MS) (x1 : Int32), R S z → ∃ q w, f_X8_best (K_now S) x1 = some q ∧ f_X9_best z x1 = some w ∧ R' S w.2
theorem WSim_of_best {R R' : KDS → MS → Prop} (h : SimN_best R R') : WSim_best R R' := fun S z x1 hr => by obtain ⟨q, w, a, b, _, d⟩ := h S z x1 hr; exact ⟨q, w, a, b, d⟩
abbrev Sim_best (Rel : KDS → MS → Prop) : Prop := SimN_best Rel Rel
/-- rests: both answer alike, and stand alike behind it -/
def SimN_rests (R R' : KDS → MS → Prop) : Prop := ∀ (S : KDS) (z : MS) (x1 x2 : Int32), R S z → ∃ q w, f_X8_rests (K_now S) (K_rest S) x1 x2 = some q ∧ f_X9_rests z x1 x2 = some w ∧ q.1 = w.1 ∧ R' (K_set_rest S q.2) w.2
def WSim_rests (R R' : KDS → MS → Prop) : Prop := ∀ (S : KDS) (z : MS) (x1 x2 : Int32), R S z → ∃ q w, f_X8_rests (K_now S) (K_rest S) x1 x2 = some q ∧ f_X9_rests z x1 x2 = some w ∧ R' (K_set_rest S q.2) w.2
theorem WSim_of_rests {R R' : KDS → MS → Prop} (h : SimN_rests R R') : WSim_rests R R' := fun S z x1 x2 hr => by obtain ⟨q, w, a, b, _, d⟩ := h S z x1 x2 hr; exact ⟨q, w, a, b, d⟩
abbrev Sim_rests (Rel : KDS → MS → Prop) : Prop := SimN_rests Rel Rel
/-- led: both answer alike, and stand alike behind it -/
def SimN_led (R R' : KDS → MS → Prop) : Prop := ∀ (S : KDS) (z : MS) (x1 x2 x3 x4 : Int32), R S z → ∃ q w, f_X8_led (K_now S) (K_drift S) x1 x2 x3 x4 = some q ∧ f_X9_led z x1 x2 x3 x4 = some w ∧ q.1 = w.1 ∧ R' (K_set_drift S q.2) w.2
def WSim_led (R R' : KDS → MS → Prop) : Prop := ∀ (S : KDS) (z : MS) (x1 x2 x3 x4 : Int32), R S z → ∃ q w, f_X8_led (K_now S) (K_drift S) x1 x2 x3 x4 = some q ∧ f_X9_led z x1 x2 x3 x4 = some w ∧ R' (K_set_drift S q.2) w.2
theorem WSim_of_led {R R' : KDS → MS → Prop} (h : SimN_led R R') : WSim_led R R' := fun S z x1 x2 x3 x4 hr => by obtain ⟨q, w, a, b, _, d⟩ := h S z x1 x2 x3 x4 hr; exact ⟨q, w, a, b, d⟩
abbrev Sim_led (Rel : KDS → MS → Prop) : Prop := SimN_led Rel Rel
/-- excuses: both answer alike, and stand alike behind it -/
def SimN_excuses (R R' : KDS → MS → Prop) : Prop := ∀ (S : KDS) (z : MS) (x1 x2 x3 : Int32), R S z → ∃ q w, f_X8_excuses (K_now S) (K_route S) x1 x2 x3 = some q ∧ f_X9_excuses z x1 x2 x3 = some w ∧ q.1 = w.1 ∧ R' (K_set_route S q.2) w.2
def WSim_excuses (R R' : KDS → MS → Prop) : Prop := ∀ (S : KDS) (z : MS) (x1 x2 x3 : Int32), R S z → ∃ q w, f_X8_excuses (K_now S) (K_route S) x1 x2 x3 = some q ∧ f_X9_excuses z x1 x2 x3 = some w ∧ R' (K_set_route S q.2) w.2
theorem WSim_of_excuses {R R' : KDS → MS → Prop} (h : SimN_excuses R R') : WSim_excuses R R' := fun S z x1 x2 x3 hr => by obtain ⟨q, w, a, b, _, d⟩ := h S z x1 x2 x3 hr; exact ⟨q, w, a, b, d⟩
abbrev Sim_excuses (Rel : KDS → MS → Prop) : Prop := SimN_excuses Rel Rel
/-- seen: both answer alike, and stand alike behind it -/
def SimN_seen (R R' : KDS → MS → Prop) : Prop := ∀ (S : KDS) (z : MS) (x1 x2 : Int32), R S z → ∃ q w, f_X8_seen (K_now S) x1 x2 = some q ∧ f_X9_seen z x1 x2 = some w ∧ q.1 = w.1 ∧ R' (K_set_now S q.2) w.2
def WSim_seen (R R' : KDS → MS → Prop) : Prop := ∀ (S : KDS) (z : MS) (x1 x2 : Int32), R S z → ∃ q w, f_X8_seen (K_now S) x1 x2 = some q ∧ f_X9_seen z x1 x2 = some w ∧ R' (K_set_now S q.2) w.2
theorem WSim_of_seen {R R' : KDS → MS → Prop} (h : SimN_seen R R') : WSim_seen R R' := fun S z x1 x2 hr => by obtain ⟨q, w, a, b, _, d⟩ := h S z x1 x2 hr; exact ⟨q, w, a, b, d⟩
abbrev Sim_seen (Rel : KDS → MS → Prop) : Prop := SimN_seen Rel Rel
/-- forget: both answer alike, and stand alike behind it -/
def SimN_forget (R R' : KDS → MS → Prop) : Prop := ∀ (S : KDS) (z : MS), R S z → ∃ q w, f_X8_forget (K_now S) = some q ∧ f_X9_forget z = some w ∧ q.1 = w.1 ∧ R' (K_set_now S q.2) w.2
def WSim_forget (R R' : KDS → MS → Prop) : Prop := ∀ (S : KDS) (z : MS), R S z → ∃ q w, f_X8_forget (K_now S) = some q ∧ f_X9_forget z = some w ∧ R' (K_set_now S q.2) w.2
theorem WSim_of_forget {R R' : KDS → MS → Prop} (h : SimN_forget R R') : WSim_forget R R' := fun S z  hr => by obtain ⟨q, w, a, b, _, d⟩ := h S z  hr; exact ⟨q, w, a, b, d⟩
abbrev Sim_forget (Rel : KDS → MS → Prop) : Prop := SimN_forget Rel Rel
/-- tastes: both answer alike, and stand alike behind it -/
def SimN_tastes (R R' : KDS → MS → Prop) : Prop := ∀ (S : KDS) (z : MS) (x1 x2 : Int32), R S z → ∃ q w, f_X8_tastes (K_now S) (K_drift S) x1 x2 = some q ∧ f_X9_tastes z x1 x2 = some w ∧ q.1 = w.1 ∧ R' (K_set_drift S q.2) w.2
def WSim_tastes (R R' : KDS → MS → Prop) : Prop := ∀ (S : KDS) (z : MS) (x1 x2 : Int32), R S z → ∃ q w, f_X8_tastes (K_now S) (K_drift S) x1 x2 = some q ∧ f_X9_tastes z x1 x2 = some w ∧ R' (K_set_drift S q.2) w.2
theorem WSim_of_tastes {R R' : KDS → MS → Prop} (h : SimN_tastes R R') : WSim_tastes R R' := fun S z x1 x2 hr => by obtain ⟨q, w, a, b, _, d⟩ := h S z x1 x2 hr; exact ⟨q, w, a, b, d⟩
abbrev Sim_tastes (Rel : KDS → MS → Prop) : Prop := SimN_tastes Rel Rel
/-- drunk: both answer alike, and stand alike behind it -/
def SimN_drunk (R R' : KDS → MS → Prop) : Prop := ∀ (S : KDS) (z : MS) (x1 x2 x3 x4 x5 : Int32), R S z → ∃ q w, f_X8_drunk (K_now S) (K_stagger S) x1 x2 x3 x4 x5 = some q ∧ f_X9_drunk z x1 x2 x3 x4 x5 = some w ∧ q.1 = w.1 ∧ R' (K_set_stagger S q.2) w.2
def WSim_drunk (R R' : KDS → MS → Prop) : Prop := ∀ (S : KDS) (z : MS) (x1 x2 x3 x4 x5 : Int32), R S z → ∃ q w, f_X8_drunk (K_now S) (K_stagger S) x1 x2 x3 x4 x5 = some q ∧ f_X9_drunk z x1 x2 x3 x4 x5 = some w ∧ R' (K_set_stagger S q.2) w.2
theorem WSim_of_drunk {R R' : KDS → MS → Prop} (h : SimN_drunk R R') : WSim_drunk R R' := fun S z x1 x2 x3 x4 x5 hr => by obtain ⟨q, w, a, b, _, d⟩ := h S z x1 x2 x3 x4 x5 hr; exact ⟨q, w, a, b, d⟩
abbrev Sim_drunk (Rel : KDS → MS → Prop) : Prop := SimN_drunk Rel Rel
/-- year: both answer alike, and stand alike behind it -/
def SimN_year (R R' : KDS → MS → Prop) : Prop := ∀ (S : KDS) (z : MS) (x1 x2 x3 : Int32), R S z → ∃ q w, f_X8_year (K_now S) (K_drift S) (K_draws S) x1 x2 x3 = some q ∧ f_X9_year z x1 x2 x3 = some w ∧ q.1 = w.1 ∧ R' (K_set_draws (K_set_drift S q.2.1) q.2.2) w.2
def WSim_year (R R' : KDS → MS → Prop) : Prop := ∀ (S : KDS) (z : MS) (x1 x2 x3 : Int32), R S z → ∃ q w, f_X8_year (K_now S) (K_drift S) (K_draws S) x1 x2 x3 = some q ∧ f_X9_year z x1 x2 x3 = some w ∧ R' (K_set_draws (K_set_drift S q.2.1) q.2.2) w.2
theorem WSim_of_year {R R' : KDS → MS → Prop} (h : SimN_year R R') : WSim_year R R' := fun S z x1 x2 x3 hr => by obtain ⟨q, w, a, b, _, d⟩ := h S z x1 x2 x3 hr; exact ⟨q, w, a, b, d⟩
abbrev Sim_year (Rel : KDS → MS → Prop) : Prop := SimN_year Rel Rel
/-- image: both answer alike, and stand alike behind it -/
def SimN_image (R R' : KDS → MS → Prop) : Prop := ∀ (S : KDS) (z : MS) (x1 : Int32), R S z → ∃ q w, f_X8_image (K_now S) (K_kept S) (K_img0 S) (K_img1 S) x1 = some q ∧ f_X9_image z x1 = some w ∧ q.1 = w.1 ∧ R' (K_set_img1 (K_set_img0 (K_set_kept S q.2.1) q.2.2.1) q.2.2.2) w.2
def WSim_image (R R' : KDS → MS → Prop) : Prop := ∀ (S : KDS) (z : MS) (x1 : Int32), R S z → ∃ q w, f_X8_image (K_now S) (K_kept S) (K_img0 S) (K_img1 S) x1 = some q ∧ f_X9_image z x1 = some w ∧ R' (K_set_img1 (K_set_img0 (K_set_kept S q.2.1) q.2.2.1) q.2.2.2) w.2
theorem WSim_of_image {R R' : KDS → MS → Prop} (h : SimN_image R R') : WSim_image R R' := fun S z x1 hr => by obtain ⟨q, w, a, b, _, d⟩ := h S z x1 hr; exact ⟨q, w, a, b, d⟩
abbrev Sim_image (Rel : KDS → MS → Prop) : Prop := SimN_image Rel Rel
/-- restore: both answer alike, and stand alike behind it -/
def SimN_restore (R R' : KDS → MS → Prop) : Prop := ∀ (S : KDS) (z : MS) (x1 : Int32), R S z → ∃ q w, f_X8_restore (K_now S) (K_kept S) (K_img0 S) (K_img1 S) x1 = some q ∧ f_X9_restore z x1 = some w ∧ q.1 = w.1 ∧ R' (K_set_now S q.2) w.2
def WSim_restore (R R' : KDS → MS → Prop) : Prop := ∀ (S : KDS) (z : MS) (x1 : Int32), R S z → ∃ q w, f_X8_restore (K_now S) (K_kept S) (K_img0 S) (K_img1 S) x1 = some q ∧ f_X9_restore z x1 = some w ∧ R' (K_set_now S q.2) w.2
theorem WSim_of_restore {R R' : KDS → MS → Prop} (h : SimN_restore R R') : WSim_restore R R' := fun S z x1 hr => by obtain ⟨q, w, a, b, _, d⟩ := h S z x1 hr; exact ⟨q, w, a, b, d⟩
abbrev Sim_restore (Rel : KDS → MS → Prop) : Prop := SimN_restore Rel Rel
/-- told: both answer alike, and stand alike behind it -/
def SimN_told (R R' : KDS → MS → Prop) : Prop := ∀ (S : KDS) (z : MS) (x1 : Int32), R S z → ∃ q w, f_X8_told (K_now S) (K_pad S) x1 = some q ∧ f_X9_told z x1 = some w ∧ q = w ∧ R' S z
def WSim_told (R R' : KDS → MS → Prop) : Prop := ∀ (S : KDS) (z : MS) (x1 : Int32), R S z → ∃ q w, f_X8_told (K_now S) (K_pad S) x1 = some q ∧ f_X9_told z x1 = some w ∧ R' S z
theorem WSim_of_told {R R' : KDS → MS → Prop} (h : SimN_told R R') : WSim_told R R' := fun S z x1 hr => by obtain ⟨q, w, a, b, _, d⟩ := h S z x1 hr; exact ⟨q, w, a, b, d⟩
abbrev Sim_told (Rel : KDS → MS → Prop) : Prop := SimN_told Rel Rel
