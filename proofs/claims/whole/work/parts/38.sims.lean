/-- the class' state: all its parts -/
abbrev KDS : Type := HS × PS × DS × YS × TS × OS × SS × US × (Nat → Int32) × (Nat → Int64) × HS × HS
def K_now (x : KDS) : HS := x.1
def K_pad (x : KDS) : PS := x.2.1
def K_drift (x : KDS) : DS := x.2.2.1
def K_play (x : KDS) : YS := x.2.2.2.1
def K_rest (x : KDS) : TS := x.2.2.2.2.1
def K_route (x : KDS) : OS := x.2.2.2.2.2.1
def K_stagger (x : KDS) : SS := x.2.2.2.2.2.2.1
def K_draws (x : KDS) : US := x.2.2.2.2.2.2.2.1
def K_kept (x : KDS) : (Nat → Int32) := x.2.2.2.2.2.2.2.2.1
def K_ends (x : KDS) : (Nat → Int64) := x.2.2.2.2.2.2.2.2.2.1
def K_img0 (x : KDS) : HS := x.2.2.2.2.2.2.2.2.2.2.1
def K_img1 (x : KDS) : HS := x.2.2.2.2.2.2.2.2.2.2.2
def K_set_now (x : KDS) (v : HS) : KDS := (v, K_pad x, K_drift x, K_play x, K_rest x, K_route x, K_stagger x, K_draws x, K_kept x, K_ends x, K_img0 x, K_img1 x)
def K_set_pad (x : KDS) (v : PS) : KDS := (K_now x, v, K_drift x, K_play x, K_rest x, K_route x, K_stagger x, K_draws x, K_kept x, K_ends x, K_img0 x, K_img1 x)
def K_set_drift (x : KDS) (v : DS) : KDS := (K_now x, K_pad x, v, K_play x, K_rest x, K_route x, K_stagger x, K_draws x, K_kept x, K_ends x, K_img0 x, K_img1 x)
def K_set_play (x : KDS) (v : YS) : KDS := (K_now x, K_pad x, K_drift x, v, K_rest x, K_route x, K_stagger x, K_draws x, K_kept x, K_ends x, K_img0 x, K_img1 x)
def K_set_rest (x : KDS) (v : TS) : KDS := (K_now x, K_pad x, K_drift x, K_play x, v, K_route x, K_stagger x, K_draws x, K_kept x, K_ends x, K_img0 x, K_img1 x)
def K_set_route (x : KDS) (v : OS) : KDS := (K_now x, K_pad x, K_drift x, K_play x, K_rest x, v, K_stagger x, K_draws x, K_kept x, K_ends x, K_img0 x, K_img1 x)
def K_set_stagger (x : KDS) (v : SS) : KDS := (K_now x, K_pad x, K_drift x, K_play x, K_rest x, K_route x, v, K_draws x, K_kept x, K_ends x, K_img0 x, K_img1 x)
def K_set_draws (x : KDS) (v : US) : KDS := (K_now x, K_pad x, K_drift x, K_play x, K_rest x, K_route x, K_stagger x, v, K_kept x, K_ends x, K_img0 x, K_img1 x)
def K_set_kept (x : KDS) (v : (Nat → Int32)) : KDS := (K_now x, K_pad x, K_drift x, K_play x, K_rest x, K_route x, K_stagger x, K_draws x, v, K_ends x, K_img0 x, K_img1 x)
def K_set_ends (x : KDS) (v : (Nat → Int64)) : KDS := (K_now x, K_pad x, K_drift x, K_play x, K_rest x, K_route x, K_stagger x, K_draws x, K_kept x, v, K_img0 x, K_img1 x)
def K_set_img0 (x : KDS) (v : HS) : KDS := (K_now x, K_pad x, K_drift x, K_play x, K_rest x, K_route x, K_stagger x, K_draws x, K_kept x, K_ends x, v, K_img1 x)
def K_set_img1 (x : KDS) (v : HS) : KDS := (K_now x, K_pad x, K_drift x, K_play x, K_rest x, K_route x, K_stagger x, K_draws x, K_kept x, K_ends x, K_img0 x, v)
/-- rooms: both answer alike, and stand alike behind it -/
def Sim_rooms (Rel : KDS → MS → Prop) : Prop := ∀ (S : KDS) (z : MS) (x1 : Int32), Rel S z → ∃ q w, f_X8_rooms (K_now S) x1 = some q ∧ f_X9_rooms z x1 = some w ∧ q.1 = w.1 ∧ Rel (K_set_now S q.2) w.2
/-- room: both answer alike, and stand alike behind it -/
def Sim_room (Rel : KDS → MS → Prop) : Prop := ∀ (S : KDS) (z : MS) (x1 x2 x3 : Int32), Rel S z → ∃ q w, f_X8_room (K_now S) x1 x2 x3 = some q ∧ f_X9_room z x1 x2 x3 = some w ∧ q.1 = w.1 ∧ Rel (K_set_now S q.2) w.2
/-- door: both answer alike, and stand alike behind it -/
def Sim_door (Rel : KDS → MS → Prop) : Prop := ∀ (S : KDS) (z : MS) (x1 x2 x3 : Int32), Rel S z → ∃ q w, f_X8_door (K_now S) x1 x2 x3 = some q ∧ f_X9_door z x1 x2 x3 = some w ∧ q.1 = w.1 ∧ Rel (K_set_now S q.2) w.2
/-- guest: both answer alike, and stand alike behind it -/
def Sim_guest (Rel : KDS → MS → Prop) : Prop := ∀ (S : KDS) (z : MS) (x1 x2 : Int32), Rel S z → ∃ q w, f_X8_guest (K_now S) x1 x2 = some q ∧ f_X9_guest z x1 x2 = some w ∧ q.1 = w.1 ∧ Rel (K_set_now S q.2) w.2
/-- likes: both answer alike, and stand alike behind it -/
def Sim_likes (Rel : KDS → MS → Prop) : Prop := ∀ (S : KDS) (z : MS) (x1 x2 x3 : Int32), Rel S z → ∃ q w, f_X8_likes (K_now S) x1 x2 x3 = some q ∧ f_X9_likes z x1 x2 x3 = some w ∧ q.1 = w.1 ∧ Rel (K_set_now S q.2) w.2
/-- leave: both answer alike, and stand alike behind it -/
def Sim_leave (Rel : KDS → MS → Prop) : Prop := ∀ (S : KDS) (z : MS) (x1 : Int32), Rel S z → ∃ q w, f_X8_leave (K_now S) x1 = some q ∧ f_X9_leave z x1 = some w ∧ q.1 = w.1 ∧ Rel (K_set_now S q.2) w.2
/-- say: both answer alike, and stand alike behind it -/
def Sim_say (Rel : KDS → MS → Prop) : Prop := ∀ (S : KDS) (z : MS) (x1 : Int32), Rel S z → ∃ q w, f_X8_say (K_pad S) x1 = some q ∧ f_X9_say z x1 = some w ∧ q.1 = w.1 ∧ Rel (K_set_pad S q.2) w.2
/-- wipe: both answer alike, and stand alike behind it -/
def Sim_wipe (Rel : KDS → MS → Prop) : Prop := ∀ (S : KDS) (z : MS), Rel S z → ∃ q w, f_X8_wipe (K_pad S) = some q ∧ f_X9_wipe z = some w ∧ q.1 = w.1 ∧ Rel (K_set_pad S q.2) w.2
/-- fault: both answer alike, and stand alike behind it -/
def Sim_fault (Rel : KDS → MS → Prop) : Prop := ∀ (S : KDS) (z : MS), Rel S z → ∃ q w, f_X8_fault (K_now S) (K_pad S) = some q ∧ f_X9_fault z = some w ∧ q = w ∧ Rel S z
/-- judge: both answer alike, and stand alike behind it -/
def Sim_judge (Rel : KDS → MS → Prop) : Prop := ∀ (S : KDS) (z : MS) (x1 : Int32), Rel S z → ∃ q w, f_X8_judge (K_now S) (K_pad S) (K_drift S) (K_play S) x1 = some q ∧ f_X9_judge z x1 = some w ∧ q.1 = w.1 ∧ Rel (K_set_play (K_set_drift S q.2.1) q.2.2) w.2
/-- done: both answer alike, and stand alike behind it -/
def Sim_done (Rel : KDS → MS → Prop) : Prop := ∀ (S : KDS) (z : MS), Rel S z → ∃ q w, f_X8_done (K_now S) (K_pad S) (K_drift S) (K_play S) = some q ∧ f_X9_done z = some w ∧ q.1 = w.1 ∧ Rel (K_set_play (K_set_drift (K_set_pad (K_set_now S q.2.1) q.2.2.1) q.2.2.2.1) q.2.2.2.2) w.2
/-- state: both answer alike, and stand alike behind it -/
def Sim_state (Rel : KDS → MS → Prop) : Prop := ∀ (S : KDS) (z : MS) (x1 x2 : Int32), Rel S z → ∃ q w, f_X8_state (K_now S) x1 x2 = some q ∧ f_X9_state z x1 x2 = some w ∧ q = w.1 ∧ Rel S w.2
/-- behind: both answer alike, and stand alike behind it -/
def Sim_behind (Rel : KDS → MS → Prop) : Prop := ∀ (S : KDS) (z : MS) (x1 x2 : Int32), Rel S z → ∃ q w, f_X8_behind (K_now S) (K_pad S) (K_drift S) (K_play S) x1 x2 = some q ∧ f_X9_behind z x1 x2 = some w ∧ q.1 = w.1 ∧ Rel (K_set_play (K_set_drift S q.2.1) q.2.2) w.2
/-- draw: both answer alike, and stand alike behind it -/
def Sim_draw (Rel : KDS → MS → Prop) : Prop := ∀ (S : KDS) (z : MS) (x1 x2 : Int32), Rel S z → ∃ q w, f_X8_draw (K_now S) x1 x2 = some q ∧ f_X9_draw z x1 x2 = some w ∧ q = w.1 ∧ Rel S w.2
/-- goes: both answer alike, and stand alike behind it -/
def Sim_goes (Rel : KDS → MS → Prop) : Prop := ∀ (S : KDS) (z : MS) (x1 : Int32), Rel S z → ∃ q w, f_X8_goes (K_now S) (K_drift S) x1 = some q ∧ f_X9_goes z x1 = some w ∧ q.1 = w.1 ∧ Rel (K_set_drift S q.2) w.2
/-- after: both answer alike, and stand alike behind it -/
def Sim_after (Rel : KDS → MS → Prop) : Prop := ∀ (S : KDS) (z : MS) (x1 x2 : Int32), Rel S z → ∃ q w, f_X8_after (K_now S) (K_drift S) x1 x2 = some q ∧ f_X9_after z x1 x2 = some w ∧ q.1 = w.1 ∧ Rel (K_set_drift S q.2) w.2
/-- crowd: both answer alike, and stand alike behind it -/
def Sim_crowd (Rel : KDS → MS → Prop) : Prop := ∀ (S : KDS) (z : MS) (x1 x2 : Int32), Rel S z → ∃ q w, f_X8_crowd (K_now S) (K_drift S) x1 x2 = some q ∧ f_X9_crowd z x1 x2 = some w ∧ q.1 = w.1 ∧ Rel (K_set_drift S q.2) w.2
/-- still: both answer alike, and stand alike behind it -/
def Sim_still (Rel : KDS → MS → Prop) : Prop := ∀ (S : KDS) (z : MS), Rel S z → ∃ q w, f_X8_still (K_now S) (K_drift S) = some q ∧ f_X9_still z = some w ∧ q.1 = w.1 ∧ Rel (K_set_drift S q.2) w.2
/-- round: both answer alike, and stand alike behind it -/
def Sim_round (Rel : KDS → MS → Prop) : Prop := ∀ (S : KDS) (z : MS), Rel S z → ∃ q w, f_X8_round (K_now S) (K_drift S) (K_ends S) = some q ∧ f_X9_round z = some w ∧ q.1 = w.1 ∧ Rel (K_set_ends (K_set_drift S q.2.1) q.2.2) w.2
/-- throng: both answer alike, and stand alike behind it -/
def Sim_throng (Rel : KDS → MS → Prop) : Prop := ∀ (S : KDS) (z : MS) (x1 : Int32), Rel S z → ∃ q w, f_X8_throng (K_now S) (K_drift S) x1 = some q ∧ f_X9_throng z x1 = some w ∧ q.1 = w.1 ∧ Rel (K_set_drift S q.2) w.2
/-- carried: both answer alike, and stand alike behind it -/
def Sim_carried (Rel : KDS → MS → Prop) : Prop := ∀ (S : KDS) (z : MS) (x1 x2 : Int32), Rel S z → ∃ q w, f_X8_carried (K_now S) (K_drift S) x1 x2 = some q ∧ f_X9_carried z x1 x2 = some w ∧ q.1 = w.1 ∧ Rel (K_set_drift S q.2) w.2
/-- hinges: both answer alike, and stand alike behind it -/
def Sim_hinges (Rel : KDS → MS → Prop) : Prop := ∀ (S : KDS) (z : MS) (x1 x2 : Int32), Rel S z → ∃ q w, f_X8_hinges (K_now S) (K_drift S) x1 x2 = some q ∧ f_X9_hinges z x1 x2 = some w ∧ q.1 = w.1 ∧ Rel (K_set_drift S q.2) w.2
/-- best: both answer alike, and stand alike behind it -/
def Sim_best (Rel : KDS → MS → Prop) : Prop := ∀ (S : KDS) (z : MS) (x1 : Int32), Rel S z → ∃ q w, f_X8_best (K_now S) x1 = some q ∧ f_X9_best z x1 = some w ∧ q = w.1 ∧ Rel S w.2
/-- rests: both answer alike, and stand alike behind it -/
def Sim_rests (Rel : KDS → MS → Prop) : Prop := ∀ (S : KDS) (z : MS) (x1 x2 : Int32), Rel S z → ∃ q w, f_X8_rests (K_now S) (K_rest S) x1 x2 = some q ∧ f_X9_rests z x1 x2 = some w ∧ q.1 = w.1 ∧ Rel (K_set_rest S q.2) w.2
/-- led: both answer alike, and stand alike behind it -/
def Sim_led (Rel : KDS → MS → Prop) : Prop := ∀ (S : KDS) (z : MS) (x1 x2 x3 x4 : Int32), Rel S z → ∃ q w, f_X8_led (K_now S) (K_drift S) x1 x2 x3 x4 = some q ∧ f_X9_led z x1 x2 x3 x4 = some w ∧ q.1 = w.1 ∧ Rel (K_set_drift S q.2) w.2
/-- excuses: both answer alike, and stand alike behind it -/
def Sim_excuses (Rel : KDS → MS → Prop) : Prop := ∀ (S : KDS) (z : MS) (x1 x2 x3 : Int32), Rel S z → ∃ q w, f_X8_excuses (K_now S) (K_route S) x1 x2 x3 = some q ∧ f_X9_excuses z x1 x2 x3 = some w ∧ q.1 = w.1 ∧ Rel (K_set_route S q.2) w.2
/-- seen: both answer alike, and stand alike behind it -/
def Sim_seen (Rel : KDS → MS → Prop) : Prop := ∀ (S : KDS) (z : MS) (x1 x2 : Int32), Rel S z → ∃ q w, f_X8_seen (K_now S) x1 x2 = some q ∧ f_X9_seen z x1 x2 = some w ∧ q.1 = w.1 ∧ Rel (K_set_now S q.2) w.2
/-- forget: both answer alike, and stand alike behind it -/
def Sim_forget (Rel : KDS → MS → Prop) : Prop := ∀ (S : KDS) (z : MS), Rel S z → ∃ q w, f_X8_forget (K_now S) = some q ∧ f_X9_forget z = some w ∧ q.1 = w.1 ∧ Rel (K_set_now S q.2) w.2
/-- tastes: both answer alike, and stand alike behind it -/
def Sim_tastes (Rel : KDS → MS → Prop) : Prop := ∀ (S : KDS) (z : MS) (x1 x2 : Int32), Rel S z → ∃ q w, f_X8_tastes (K_now S) (K_drift S) x1 x2 = some q ∧ f_X9_tastes z x1 x2 = some w ∧ q.1 = w.1 ∧ Rel (K_set_drift S q.2) w.2
/-- drunk: both answer alike, and stand alike behind it -/
def Sim_drunk (Rel : KDS → MS → Prop) : Prop := ∀ (S : KDS) (z : MS) (x1 x2 x3 x4 x5 : Int32), Rel S z → ∃ q w, f_X8_drunk (K_now S) (K_stagger S) x1 x2 x3 x4 x5 = some q ∧ f_X9_drunk z x1 x2 x3 x4 x5 = some w ∧ q.1 = w.1 ∧ Rel (K_set_stagger S q.2) w.2
/-- year: both answer alike, and stand alike behind it -/
def Sim_year (Rel : KDS → MS → Prop) : Prop := ∀ (S : KDS) (z : MS) (x1 x2 x3 : Int32), Rel S z → ∃ q w, f_X8_year (K_now S) (K_drift S) (K_draws S) x1 x2 x3 = some q ∧ f_X9_year z x1 x2 x3 = some w ∧ q.1 = w.1 ∧ Rel (K_set_draws (K_set_drift S q.2.1) q.2.2) w.2
/-- image: both answer alike, and stand alike behind it -/
def Sim_image (Rel : KDS → MS → Prop) : Prop := ∀ (S : KDS) (z : MS) (x1 : Int32), Rel S z → ∃ q w, f_X8_image (K_now S) (K_kept S) (K_img0 S) (K_img1 S) x1 = some q ∧ f_X9_image z x1 = some w ∧ q.1 = w.1 ∧ Rel (K_set_img1 (K_set_img0 (K_set_kept S q.2.1) q.2.2.1) q.2.2.2) w.2
/-- restore: both answer alike, and stand alike behind it -/
def Sim_restore (Rel : KDS → MS → Prop) : Prop := ∀ (S : KDS) (z : MS) (x1 : Int32), Rel S z → ∃ q w, f_X8_restore (K_now S) (K_kept S) (K_img0 S) (K_img1 S) x1 = some q ∧ f_X9_restore z x1 = some w ∧ q.1 = w.1 ∧ Rel (K_set_now S q.2) w.2
/-- told: both answer alike, and stand alike behind it -/
def Sim_told (Rel : KDS → MS → Prop) : Prop := ∀ (S : KDS) (z : MS) (x1 : Int32), Rel S z → ∃ q w, f_X8_told (K_now S) (K_pad S) x1 = some q ∧ f_X9_told z x1 = some w ∧ q = w ∧ Rel S z
