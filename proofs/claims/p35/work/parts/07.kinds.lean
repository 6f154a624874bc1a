abbrev HS : Type := Int32 × Int32 × Int32 × (Nat → Int32) × (Nat → Int32) × (Nat → Int32) × (Nat → Int32) × (Nat → Int32) × (Nat → Int32) × (Nat → Int32) × (Nat → Int32) × (Nat → Int32)
def H_rooms (x : HS) : Int32 := x.1
def H_there (x : HS) : Int32 := x.2.1
def H_sights (x : HS) : Int32 := x.2.2.1
def H_measure (x : HS) : (Nat → Int32) := x.2.2.2.1
def H_width (x : HS) : (Nat → Int32) := x.2.2.2.2.1
def H_place (x : HS) : (Nat → Int32) := x.2.2.2.2.2.1
def H_busy (x : HS) : (Nat → Int32) := x.2.2.2.2.2.2.1
def H_mate (x : HS) : (Nat → Int32) := x.2.2.2.2.2.2.2.1
def H_left (x : HS) : (Nat → Int32) := x.2.2.2.2.2.2.2.2.1
def H_likes (x : HS) : (Nat → Int32) := x.2.2.2.2.2.2.2.2.2.1
def H_sightGuest (x : HS) : (Nat → Int32) := x.2.2.2.2.2.2.2.2.2.2.1
def H_sightRoom (x : HS) : (Nat → Int32) := x.2.2.2.2.2.2.2.2.2.2.2
def H_set_rooms (x : HS) (v : Int32) : HS := (v, H_there x, H_sights x, H_measure x, H_width x, H_place x, H_busy x, H_mate x, H_left x, H_likes x, H_sightGuest x, H_sightRoom x)
def H_set_there (x : HS) (v : Int32) : HS := (H_rooms x, v, H_sights x, H_measure x, H_width x, H_place x, H_busy x, H_mate x, H_left x, H_likes x, H_sightGuest x, H_sightRoom x)
def H_set_sights (x : HS) (v : Int32) : HS := (H_rooms x, H_there x, v, H_measure x, H_width x, H_place x, H_busy x, H_mate x, H_left x, H_likes x, H_sightGuest x, H_sightRoom x)
def H_set_measure (x : HS) (v : (Nat → Int32)) : HS := (H_rooms x, H_there x, H_sights x, v, H_width x, H_place x, H_busy x, H_mate x, H_left x, H_likes x, H_sightGuest x, H_sightRoom x)
def H_set_width (x : HS) (v : (Nat → Int32)) : HS := (H_rooms x, H_there x, H_sights x, H_measure x, v, H_place x, H_busy x, H_mate x, H_left x, H_likes x, H_sightGuest x, H_sightRoom x)
def H_set_place (x : HS) (v : (Nat → Int32)) : HS := (H_rooms x, H_there x, H_sights x, H_measure x, H_width x, v, H_busy x, H_mate x, H_left x, H_likes x, H_sightGuest x, H_sightRoom x)
def H_set_busy (x : HS) (v : (Nat → Int32)) : HS := (H_rooms x, H_there x, H_sights x, H_measure x, H_width x, H_place x, v, H_mate x, H_left x, H_likes x, H_sightGuest x, H_sightRoom x)
def H_set_mate (x : HS) (v : (Nat → Int32)) : HS := (H_rooms x, H_there x, H_sights x, H_measure x, H_width x, H_place x, H_busy x, v, H_left x, H_likes x, H_sightGuest x, H_sightRoom x)
def H_set_left (x : HS) (v : (Nat → Int32)) : HS := (H_rooms x, H_there x, H_sights x, H_measure x, H_width x, H_place x, H_busy x, H_mate x, v, H_likes x, H_sightGuest x, H_sightRoom x)
def H_set_likes (x : HS) (v : (Nat → Int32)) : HS := (H_rooms x, H_there x, H_sights x, H_measure x, H_width x, H_place x, H_busy x, H_mate x, H_left x, v, H_sightGuest x, H_sightRoom x)
def H_set_sightGuest (x : HS) (v : (Nat → Int32)) : HS := (H_rooms x, H_there x, H_sights x, H_measure x, H_width x, H_place x, H_busy x, H_mate x, H_left x, H_likes x, v, H_sightRoom x)
def H_set_sightRoom (x : HS) (v : (Nat → Int32)) : HS := (H_rooms x, H_there x, H_sights x, H_measure x, H_width x, H_place x, H_busy x, H_mate x, H_left x, H_likes x, H_sightGuest x, v)
def sh (A : Nat → Nat) (k : Nat) : Nat → Nat := fun i => A (k + i)
def wH (cy : Nat → ClassId) (A : Nat → Nat) (x : HS) : va_W := [(A 0, .inr (1, [.int (H_rooms x), .int (H_there x), .int (H_sights x), .ref (A 1), .ref (A 2), .ref (A 3), .ref (A 4), .ref (A 5), .ref (A 6), .ref (A 7), .ref (A 8), .ref (A 9)])), (A 1, .inl (cy 0, 36, .inl (H_measure x))), (A 2, .inl (cy 0, 36, .inl (H_width x))), (A 3, .inl (cy 0, 8, .inl (H_place x))), (A 4, .inl (cy 0, 8, .inl (H_busy x))), (A 5, .inl (cy 0, 8, .inl (H_mate x))), (A 6, .inl (cy 0, 8, .inl (H_left x))), (A 7, .inl (cy 0, 40, .inl (H_likes x))), (A 8, .inl (cy 0, 6, .inl (H_sightGuest x))), (A 9, .inl (cy 0, 6, .inl (H_sightRoom x)))]
abbrev DS : Type := HS × (Nat → Int32) × (Nat → Int32) × (Nat → Int32) × (Nat → Int32)
def D_house (x : DS) : HS := x.1
def D_taste (x : DS) : (Nat → Int32) := x.2.1
def D_crowd (x : DS) : (Nat → Int32) := x.2.2.1
def D_wide (x : DS) : (Nat → Int32) := x.2.2.2.1
def D_gone (x : DS) : (Nat → Int32) := x.2.2.2.2
def D_set_house (x : DS) (v : HS) : DS := (v, D_taste x, D_crowd x, D_wide x, D_gone x)
def D_set_taste (x : DS) (v : (Nat → Int32)) : DS := (D_house x, v, D_crowd x, D_wide x, D_gone x)
def D_set_crowd (x : DS) (v : (Nat → Int32)) : DS := (D_house x, D_taste x, v, D_wide x, D_gone x)
def D_set_wide (x : DS) (v : (Nat → Int32)) : DS := (D_house x, D_taste x, D_crowd x, v, D_gone x)
def D_set_gone (x : DS) (v : (Nat → Int32)) : DS := (D_house x, D_taste x, D_crowd x, D_wide x, v)
def wD (cy : Nat → ClassId) (A : Nat → Nat) (x : DS) : va_W := [(A 0, .inr (0, [.ref (A 5), .ref (A 1), .ref (A 2), .ref (A 3), .ref (A 4)])), (A 1, .inl (cy 0, 48, .inl (D_taste x))), (A 2, .inl (cy 0, 6, .inl (D_crowd x))), (A 3, .inl (cy 0, 36, .inl (D_wide x))), (A 4, .inl (cy 0, 36, .inl (D_gone x)))] ++ wH cy (sh A 5) (D_house x)
def wDo (cy : Nat → ClassId) (A : Nat → Nat) (x : DS) : va_W := [(A 0, .inr (0, [.ref (A 5), .ref (A 1), .ref (A 2), .ref (A 3), .ref (A 4)])), (A 1, .inl (cy 0, 48, .inl (D_taste x))), (A 2, .inl (cy 0, 6, .inl (D_crowd x))), (A 3, .inl (cy 0, 36, .inl (D_wide x))), (A 4, .inl (cy 0, 36, .inl (D_gone x)))]
theorem wD_eq (cy : Nat → ClassId) (A : Nat → Nat) (x : DS) : wD cy A x = wDo cy A x ++ wH cy (sh A 5) (D_house x) := rfl
abbrev PS : Type := Int32 × (Nat → Int32)
def P_used (x : PS) : Int32 := x.1
def P_signs (x : PS) : (Nat → Int32) := x.2
def P_set_used (x : PS) (v : Int32) : PS := (v, P_signs x)
def P_set_signs (x : PS) (v : (Nat → Int32)) : PS := (P_used x, v)
def wP (cy : Nat → ClassId) (A : Nat → Nat) (x : PS) : va_W := [(A 0, .inr (2, [.int (P_used x), .ref (A 1)])), (A 1, .inl (cy 0, 60, .inl (P_signs x)))]
abbrev YS : Type := Int32 × Int32
def Y_events (x : YS) : Int32 := x.1
def Y_why (x : YS) : Int32 := x.2
def Y_set_events (x : YS) (v : Int32) : YS := (v, Y_why x)
def Y_set_why (x : YS) (v : Int32) : YS := (Y_events x, v)
def wY (cy : Nat → ClassId) (A : Nat → Nat) (x : YS) : va_W := [(A 0, .inr (3, [.int (Y_events x), .int (Y_why x)]))]
abbrev TS : Type := Int32 × Int32 × Int32 × Int32 × (Nat → Int32) × (Nat → Int32) × (Nat → Int32) × (Nat → Int32) × (Nat → Int32) × (Nat → Int32) × (Nat → Int32)
def T_ways (x : TS) : Int32 := x.1
def T_first (x : TS) : Int32 := x.2.1
def T_members (x : TS) : Int32 := x.2.2.1
def T_rooms (x : TS) : Int32 := x.2.2.2.1
def T_member (x : TS) : (Nat → Int32) := x.2.2.2.2.1
def T_company (x : TS) : (Nat → Int32) := x.2.2.2.2.2.1
def T_taste (x : TS) : (Nat → Int32) := x.2.2.2.2.2.2.1
def T_content (x : TS) : (Nat → Int32) := x.2.2.2.2.2.2.2.1
def T_size (x : TS) : (Nat → Int32) := x.2.2.2.2.2.2.2.2.1
def T_fixed (x : TS) : (Nat → Int32) := x.2.2.2.2.2.2.2.2.2.1
def T_share (x : TS) : (Nat → Int32) := x.2.2.2.2.2.2.2.2.2.2
def T_set_ways (x : TS) (v : Int32) : TS := (v, T_first x, T_members x, T_rooms x, T_member x, T_company x, T_taste x, T_content x, T_size x, T_fixed x, T_share x)
def T_set_first (x : TS) (v : Int32) : TS := (T_ways x, v, T_members x, T_rooms x, T_member x, T_company x, T_taste x, T_content x, T_size x, T_fixed x, T_share x)
def T_set_members (x : TS) (v : Int32) : TS := (T_ways x, T_first x, v, T_rooms x, T_member x, T_company x, T_taste x, T_content x, T_size x, T_fixed x, T_share x)
def T_set_rooms (x : TS) (v : Int32) : TS := (T_ways x, T_first x, T_members x, v, T_member x, T_company x, T_taste x, T_content x, T_size x, T_fixed x, T_share x)
def T_set_member (x : TS) (v : (Nat → Int32)) : TS := (T_ways x, T_first x, T_members x, T_rooms x, v, T_company x, T_taste x, T_content x, T_size x, T_fixed x, T_share x)
def T_set_company (x : TS) (v : (Nat → Int32)) : TS := (T_ways x, T_first x, T_members x, T_rooms x, T_member x, v, T_taste x, T_content x, T_size x, T_fixed x, T_share x)
def T_set_taste (x : TS) (v : (Nat → Int32)) : TS := (T_ways x, T_first x, T_members x, T_rooms x, T_member x, T_company x, v, T_content x, T_size x, T_fixed x, T_share x)
def T_set_content (x : TS) (v : (Nat → Int32)) : TS := (T_ways x, T_first x, T_members x, T_rooms x, T_member x, T_company x, T_taste x, v, T_size x, T_fixed x, T_share x)
def T_set_size (x : TS) (v : (Nat → Int32)) : TS := (T_ways x, T_first x, T_members x, T_rooms x, T_member x, T_company x, T_taste x, T_content x, v, T_fixed x, T_share x)
def T_set_fixed (x : TS) (v : (Nat → Int32)) : TS := (T_ways x, T_first x, T_members x, T_rooms x, T_member x, T_company x, T_taste x, T_content x, T_size x, v, T_share x)
def T_set_share (x : TS) (v : (Nat → Int32)) : TS := (T_ways x, T_first x, T_members x, T_rooms x, T_member x, T_company x, T_taste x, T_content x, T_size x, T_fixed x, v)
def wT (cy : Nat → ClassId) (A : Nat → Nat) (x : TS) : va_W := [(A 0, .inr (4, [.int (T_ways x), .int (T_first x), .int (T_members x), .int (T_rooms x), .ref (A 1), .ref (A 2), .ref (A 3), .ref (A 4), .ref (A 5), .ref (A 6), .ref (A 7)])), (A 1, .inl (cy 0, 6, .inl (T_member x))), (A 2, .inl (cy 0, 6, .inl (T_company x))), (A 3, .inl (cy 0, 36, .inl (T_taste x))), (A 4, .inl (cy 0, 6, .inl (T_content x))), (A 5, .inl (cy 0, 6, .inl (T_size x))), (A 6, .inl (cy 0, 6, .inl (T_fixed x))), (A 7, .inl (cy 0, 6, .inl (T_share x)))]
abbrev OS : Type := (Nat → Int32) × (Nat → Int32)
def O_toll (x : OS) : (Nat → Int32) := x.1
def O_far (x : OS) : (Nat → Int32) := x.2
def O_set_toll (x : OS) (v : (Nat → Int32)) : OS := (v, O_far x)
def O_set_far (x : OS) (v : (Nat → Int32)) : OS := (O_toll x, v)
def wO (cy : Nat → ClassId) (A : Nat → Nat) (x : OS) : va_W := [(A 0, .inr (5, [.ref (A 1), .ref (A 2)])), (A 1, .inl (cy 0, 6, .inl (O_toll x))), (A 2, .inl (cy 0, 6, .inl (O_far x)))]
abbrev SS : Type := Int64 × (Nat → Int64) × (Nat → Int64) × Bool
def S_whole (x : SS) : Int64 := x.1
def S_chance (x : SS) : (Nat → Int64) := x.2.1
def S_next (x : SS) : (Nat → Int64) := x.2.2.1
def S_sw (x : SS) : Bool := x.2.2.2
def S_set_whole (x : SS) (v : Int64) : SS := (v, S_chance x, S_next x, S_sw x)
def S_set_chance (x : SS) (v : (Nat → Int64)) : SS := (S_whole x, v, S_next x, S_sw x)
def S_set_next (x : SS) (v : (Nat → Int64)) : SS := (S_whole x, S_chance x, v, S_sw x)
def S_set_sw (x : SS) (v : Bool) : SS := (S_whole x, S_chance x, S_next x, v)
def sw1 (A : Nat → Nat) (b : Bool) : Nat := if b then A 2 else A 1
def sw2 (A : Nat → Nat) (b : Bool) : Nat := if b then A 1 else A 2
def wS (cy : Nat → ClassId) (A : Nat → Nat) (x : SS) : va_W := [(A 0, .inr (6, [.long (S_whole x), .ref (sw1 A (S_sw x)), .ref (sw2 A (S_sw x))])), (sw1 A (S_sw x), .inl (cy 1, 6, .inr (.inl (S_chance x)))), (sw2 A (S_sw x), .inl (cy 1, 6, .inr (.inl (S_next x))))]
abbrev US : Type := Int32 × Int32
def U_went (x : US) : Int32 := x.1
def U_talks (x : US) : Int32 := x.2
def U_set_went (x : US) (v : Int32) : US := (v, U_talks x)
def U_set_talks (x : US) (v : Int32) : US := (U_went x, v)
def wU (cy : Nat → ClassId) (A : Nat → Nat) (x : US) : va_W := [(A 0, .inr (7, [.int (U_went x), .int (U_talks x)]))]
abbrev MS : Type := Int32 × (Nat → Int32) × (Nat → Int32) × (Nat → Int32) × (Nat → Int32) × Int32 × (Nat → Int32) × (Nat → Int32) × (Nat → Int32) × (Nat → Int32) × (Nat → Int32) × Int32 × (Nat → Int32) × Int32 × (Nat → Int32) × (Nat → Int32) × (Nat → Int32) × (Nat → Int32) × (Nat → Int32) × (Nat → Int32) × Int32 × (Nat → Int32) × Int32 × Int32 × (Nat → Int64) × (Nat → Int32) × (Nat → Int64) × (Nat → Int64) × (Nat → Int32) × (Nat → Int32)
def M_rooms (x : MS) : Int32 := x.1
def M_things (x : MS) : (Nat → Int32) := x.2.1
def M_size (x : MS) : (Nat → Int32) := x.2.2.1
def M_chairs (x : MS) : (Nat → Int32) := x.2.2.2.1
def M_width (x : MS) : (Nat → Int32) := x.2.2.2.2.1
def M_there (x : MS) : Int32 := x.2.2.2.2.2.1
def M_likes (x : MS) : (Nat → Int32) := x.2.2.2.2.2.2.1
def M_place (x : MS) : (Nat → Int32) := x.2.2.2.2.2.2.2.1
def M_busy (x : MS) : (Nat → Int32) := x.2.2.2.2.2.2.2.2.1
def M_with (x : MS) : (Nat → Int32) := x.2.2.2.2.2.2.2.2.2.1
def M_left (x : MS) : (Nat → Int32) := x.2.2.2.2.2.2.2.2.2.2.1
def M_sights (x : MS) : Int32 := x.2.2.2.2.2.2.2.2.2.2.2.1
def M_sight (x : MS) : (Nat → Int32) := x.2.2.2.2.2.2.2.2.2.2.2.2.1
def M_signs (x : MS) : Int32 := x.2.2.2.2.2.2.2.2.2.2.2.2.2.1
def M_pad (x : MS) : (Nat → Int32) := x.2.2.2.2.2.2.2.2.2.2.2.2.2.2.1
def M_at (x : MS) : (Nat → Int32) := x.2.2.2.2.2.2.2.2.2.2.2.2.2.2.2.1
def M_busyNow (x : MS) : (Nat → Int32) := x.2.2.2.2.2.2.2.2.2.2.2.2.2.2.2.2.1
def M_withNow (x : MS) : (Nat → Int32) := x.2.2.2.2.2.2.2.2.2.2.2.2.2.2.2.2.2.1
def M_leftNow (x : MS) : (Nat → Int32) := x.2.2.2.2.2.2.2.2.2.2.2.2.2.2.2.2.2.2.1
def M_thingsNow (x : MS) : (Nat → Int32) := x.2.2.2.2.2.2.2.2.2.2.2.2.2.2.2.2.2.2.2.1
def M_loose (x : MS) : Int32 := x.2.2.2.2.2.2.2.2.2.2.2.2.2.2.2.2.2.2.2.2.1
def M_through (x : MS) : (Nat → Int32) := x.2.2.2.2.2.2.2.2.2.2.2.2.2.2.2.2.2.2.2.2.2.1
def M_reason (x : MS) : Int32 := x.2.2.2.2.2.2.2.2.2.2.2.2.2.2.2.2.2.2.2.2.2.2.1
def M_events (x : MS) : Int32 := x.2.2.2.2.2.2.2.2.2.2.2.2.2.2.2.2.2.2.2.2.2.2.2.1
def M_states (x : MS) : (Nat → Int64) := x.2.2.2.2.2.2.2.2.2.2.2.2.2.2.2.2.2.2.2.2.2.2.2.2.1
def M_dear (x : MS) : (Nat → Int32) := x.2.2.2.2.2.2.2.2.2.2.2.2.2.2.2.2.2.2.2.2.2.2.2.2.2.1
def M_chances (x : MS) : (Nat → Int64) := x.2.2.2.2.2.2.2.2.2.2.2.2.2.2.2.2.2.2.2.2.2.2.2.2.2.2.1
def M_then (x : MS) : (Nat → Int64) := x.2.2.2.2.2.2.2.2.2.2.2.2.2.2.2.2.2.2.2.2.2.2.2.2.2.2.2.1
def M_image (x : MS) : (Nat → Int32) := x.2.2.2.2.2.2.2.2.2.2.2.2.2.2.2.2.2.2.2.2.2.2.2.2.2.2.2.2.1
def M_isKept (x : MS) : (Nat → Int32) := x.2.2.2.2.2.2.2.2.2.2.2.2.2.2.2.2.2.2.2.2.2.2.2.2.2.2.2.2.2
def M_set_rooms (x : MS) (v : Int32) : MS := (v, M_things x, M_size x, M_chairs x, M_width x, M_there x, M_likes x, M_place x, M_busy x, M_with x, M_left x, M_sights x, M_sight x, M_signs x, M_pad x, M_at x, M_busyNow x, M_withNow x, M_leftNow x, M_thingsNow x, M_loose x, M_through x, M_reason x, M_events x, M_states x, M_dear x, M_chances x, M_then x, M_image x, M_isKept x)
def M_set_things (x : MS) (v : (Nat → Int32)) : MS := (M_rooms x, v, M_size x, M_chairs x, M_width x, M_there x, M_likes x, M_place x, M_busy x, M_with x, M_left x, M_sights x, M_sight x, M_signs x, M_pad x, M_at x, M_busyNow x, M_withNow x, M_leftNow x, M_thingsNow x, M_loose x, M_through x, M_reason x, M_events x, M_states x, M_dear x, M_chances x, M_then x, M_image x, M_isKept x)
def M_set_size (x : MS) (v : (Nat → Int32)) : MS := (M_rooms x, M_things x, v, M_chairs x, M_width x, M_there x, M_likes x, M_place x, M_busy x, M_with x, M_left x, M_sights x, M_sight x, M_signs x, M_pad x, M_at x, M_busyNow x, M_withNow x, M_leftNow x, M_thingsNow x, M_loose x, M_through x, M_reason x, M_events x, M_states x, M_dear x, M_chances x, M_then x, M_image x, M_isKept x)
def M_set_chairs (x : MS) (v : (Nat → Int32)) : MS := (M_rooms x, M_things x, M_size x, v, M_width x, M_there x, M_likes x, M_place x, M_busy x, M_with x, M_left x, M_sights x, M_sight x, M_signs x, M_pad x, M_at x, M_busyNow x, M_withNow x, M_leftNow x, M_thingsNow x, M_loose x, M_through x, M_reason x, M_events x, M_states x, M_dear x, M_chances x, M_then x, M_image x, M_isKept x)
def M_set_width (x : MS) (v : (Nat → Int32)) : MS := (M_rooms x, M_things x, M_size x, M_chairs x, v, M_there x, M_likes x, M_place x, M_busy x, M_with x, M_left x, M_sights x, M_sight x, M_signs x, M_pad x, M_at x, M_busyNow x, M_withNow x, M_leftNow x, M_thingsNow x, M_loose x, M_through x, M_reason x, M_events x, M_states x, M_dear x, M_chances x, M_then x, M_image x, M_isKept x)
def M_set_there (x : MS) (v : Int32) : MS := (M_rooms x, M_things x, M_size x, M_chairs x, M_width x, v, M_likes x, M_place x, M_busy x, M_with x, M_left x, M_sights x, M_sight x, M_signs x, M_pad x, M_at x, M_busyNow x, M_withNow x, M_leftNow x, M_thingsNow x, M_loose x, M_through x, M_reason x, M_events x, M_states x, M_dear x, M_chances x, M_then x, M_image x, M_isKept x)
def M_set_likes (x : MS) (v : (Nat → Int32)) : MS := (M_rooms x, M_things x, M_size x, M_chairs x, M_width x, M_there x, v, M_place x, M_busy x, M_with x, M_left x, M_sights x, M_sight x, M_signs x, M_pad x, M_at x, M_busyNow x, M_withNow x, M_leftNow x, M_thingsNow x, M_loose x, M_through x, M_reason x, M_events x, M_states x, M_dear x, M_chances x, M_then x, M_image x, M_isKept x)
def M_set_place (x : MS) (v : (Nat → Int32)) : MS := (M_rooms x, M_things x, M_size x, M_chairs x, M_width x, M_there x, M_likes x, v, M_busy x, M_with x, M_left x, M_sights x, M_sight x, M_signs x, M_pad x, M_at x, M_busyNow x, M_withNow x, M_leftNow x, M_thingsNow x, M_loose x, M_through x, M_reason x, M_events x, M_states x, M_dear x, M_chances x, M_then x, M_image x, M_isKept x)
def M_set_busy (x : MS) (v : (Nat → Int32)) : MS := (M_rooms x, M_things x, M_size x, M_chairs x, M_width x, M_there x, M_likes x, M_place x, v, M_with x, M_left x, M_sights x, M_sight x, M_signs x, M_pad x, M_at x, M_busyNow x, M_withNow x, M_leftNow x, M_thingsNow x, M_loose x, M_through x, M_reason x, M_events x, M_states x, M_dear x, M_chances x, M_then x, M_image x, M_isKept x)
def M_set_with (x : MS) (v : (Nat → Int32)) : MS := (M_rooms x, M_things x, M_size x, M_chairs x, M_width x, M_there x, M_likes x, M_place x, M_busy x, v, M_left x, M_sights x, M_sight x, M_signs x, M_pad x, M_at x, M_busyNow x, M_withNow x, M_leftNow x, M_thingsNow x, M_loose x, M_through x, M_reason x, M_events x, M_states x, M_dear x, M_chances x, M_then x, M_image x, M_isKept x)
def M_set_left (x : MS) (v : (Nat → Int32)) : MS := (M_rooms x, M_things x, M_size x, M_chairs x, M_width x, M_there x, M_likes x, M_place x, M_busy x, M_with x, v, M_sights x, M_sight x, M_signs x, M_pad x, M_at x, M_busyNow x, M_withNow x, M_leftNow x, M_thingsNow x, M_loose x, M_through x, M_reason x, M_events x, M_states x, M_dear x, M_chances x, M_then x, M_image x, M_isKept x)
def M_set_sights (x : MS) (v : Int32) : MS := (M_rooms x, M_things x, M_size x, M_chairs x, M_width x, M_there x, M_likes x, M_place x, M_busy x, M_with x, M_left x, v, M_sight x, M_signs x, M_pad x, M_at x, M_busyNow x, M_withNow x, M_leftNow x, M_thingsNow x, M_loose x, M_through x, M_reason x, M_events x, M_states x, M_dear x, M_chances x, M_then x, M_image x, M_isKept x)
def M_set_sight (x : MS) (v : (Nat → Int32)) : MS := (M_rooms x, M_things x, M_size x, M_chairs x, M_width x, M_there x, M_likes x, M_place x, M_busy x, M_with x, M_left x, M_sights x, v, M_signs x, M_pad x, M_at x, M_busyNow x, M_withNow x, M_leftNow x, M_thingsNow x, M_loose x, M_through x, M_reason x, M_events x, M_states x, M_dear x, M_chances x, M_then x, M_image x, M_isKept x)
def M_set_signs (x : MS) (v : Int32) : MS := (M_rooms x, M_things x, M_size x, M_chairs x, M_width x, M_there x, M_likes x, M_place x, M_busy x, M_with x, M_left x, M_sights x, M_sight x, v, M_pad x, M_at x, M_busyNow x, M_withNow x, M_leftNow x, M_thingsNow x, M_loose x, M_through x, M_reason x, M_events x, M_states x, M_dear x, M_chances x, M_then x, M_image x, M_isKept x)
def M_set_pad (x : MS) (v : (Nat → Int32)) : MS := (M_rooms x, M_things x, M_size x, M_chairs x, M_width x, M_there x, M_likes x, M_place x, M_busy x, M_with x, M_left x, M_sights x, M_sight x, M_signs x, v, M_at x, M_busyNow x, M_withNow x, M_leftNow x, M_thingsNow x, M_loose x, M_through x, M_reason x, M_events x, M_states x, M_dear x, M_chances x, M_then x, M_image x, M_isKept x)
def M_set_at (x : MS) (v : (Nat → Int32)) : MS := (M_rooms x, M_things x, M_size x, M_chairs x, M_width x, M_there x, M_likes x, M_place x, M_busy x, M_with x, M_left x, M_sights x, M_sight x, M_signs x, M_pad x, v, M_busyNow x, M_withNow x, M_leftNow x, M_thingsNow x, M_loose x, M_through x, M_reason x, M_events x, M_states x, M_dear x, M_chances x, M_then x, M_image x, M_isKept x)
def M_set_busyNow (x : MS) (v : (Nat → Int32)) : MS := (M_rooms x, M_things x, M_size x, M_chairs x, M_width x, M_there x, M_likes x, M_place x, M_busy x, M_with x, M_left x, M_sights x, M_sight x, M_signs x, M_pad x, M_at x, v, M_withNow x, M_leftNow x, M_thingsNow x, M_loose x, M_through x, M_reason x, M_events x, M_states x, M_dear x, M_chances x, M_then x, M_image x, M_isKept x)
def M_set_withNow (x : MS) (v : (Nat → Int32)) : MS := (M_rooms x, M_things x, M_size x, M_chairs x, M_width x, M_there x, M_likes x, M_place x, M_busy x, M_with x, M_left x, M_sights x, M_sight x, M_signs x, M_pad x, M_at x, M_busyNow x, v, M_leftNow x, M_thingsNow x, M_loose x, M_through x, M_reason x, M_events x, M_states x, M_dear x, M_chances x, M_then x, M_image x, M_isKept x)
def M_set_leftNow (x : MS) (v : (Nat → Int32)) : MS := (M_rooms x, M_things x, M_size x, M_chairs x, M_width x, M_there x, M_likes x, M_place x, M_busy x, M_with x, M_left x, M_sights x, M_sight x, M_signs x, M_pad x, M_at x, M_busyNow x, M_withNow x, v, M_thingsNow x, M_loose x, M_through x, M_reason x, M_events x, M_states x, M_dear x, M_chances x, M_then x, M_image x, M_isKept x)
def M_set_thingsNow (x : MS) (v : (Nat → Int32)) : MS := (M_rooms x, M_things x, M_size x, M_chairs x, M_width x, M_there x, M_likes x, M_place x, M_busy x, M_with x, M_left x, M_sights x, M_sight x, M_signs x, M_pad x, M_at x, M_busyNow x, M_withNow x, M_leftNow x, v, M_loose x, M_through x, M_reason x, M_events x, M_states x, M_dear x, M_chances x, M_then x, M_image x, M_isKept x)
def M_set_loose (x : MS) (v : Int32) : MS := (M_rooms x, M_things x, M_size x, M_chairs x, M_width x, M_there x, M_likes x, M_place x, M_busy x, M_with x, M_left x, M_sights x, M_sight x, M_signs x, M_pad x, M_at x, M_busyNow x, M_withNow x, M_leftNow x, M_thingsNow x, v, M_through x, M_reason x, M_events x, M_states x, M_dear x, M_chances x, M_then x, M_image x, M_isKept x)
def M_set_through (x : MS) (v : (Nat → Int32)) : MS := (M_rooms x, M_things x, M_size x, M_chairs x, M_width x, M_there x, M_likes x, M_place x, M_busy x, M_with x, M_left x, M_sights x, M_sight x, M_signs x, M_pad x, M_at x, M_busyNow x, M_withNow x, M_leftNow x, M_thingsNow x, M_loose x, v, M_reason x, M_events x, M_states x, M_dear x, M_chances x, M_then x, M_image x, M_isKept x)
def M_set_reason (x : MS) (v : Int32) : MS := (M_rooms x, M_things x, M_size x, M_chairs x, M_width x, M_there x, M_likes x, M_place x, M_busy x, M_with x, M_left x, M_sights x, M_sight x, M_signs x, M_pad x, M_at x, M_busyNow x, M_withNow x, M_leftNow x, M_thingsNow x, M_loose x, M_through x, v, M_events x, M_states x, M_dear x, M_chances x, M_then x, M_image x, M_isKept x)
def M_set_events (x : MS) (v : Int32) : MS := (M_rooms x, M_things x, M_size x, M_chairs x, M_width x, M_there x, M_likes x, M_place x, M_busy x, M_with x, M_left x, M_sights x, M_sight x, M_signs x, M_pad x, M_at x, M_busyNow x, M_withNow x, M_leftNow x, M_thingsNow x, M_loose x, M_through x, M_reason x, v, M_states x, M_dear x, M_chances x, M_then x, M_image x, M_isKept x)
def M_set_states (x : MS) (v : (Nat → Int64)) : MS := (M_rooms x, M_things x, M_size x, M_chairs x, M_width x, M_there x, M_likes x, M_place x, M_busy x, M_with x, M_left x, M_sights x, M_sight x, M_signs x, M_pad x, M_at x, M_busyNow x, M_withNow x, M_leftNow x, M_thingsNow x, M_loose x, M_through x, M_reason x, M_events x, v, M_dear x, M_chances x, M_then x, M_image x, M_isKept x)
def M_set_dear (x : MS) (v : (Nat → Int32)) : MS := (M_rooms x, M_things x, M_size x, M_chairs x, M_width x, M_there x, M_likes x, M_place x, M_busy x, M_with x, M_left x, M_sights x, M_sight x, M_signs x, M_pad x, M_at x, M_busyNow x, M_withNow x, M_leftNow x, M_thingsNow x, M_loose x, M_through x, M_reason x, M_events x, M_states x, v, M_chances x, M_then x, M_image x, M_isKept x)
def M_set_chances (x : MS) (v : (Nat → Int64)) : MS := (M_rooms x, M_things x, M_size x, M_chairs x, M_width x, M_there x, M_likes x, M_place x, M_busy x, M_with x, M_left x, M_sights x, M_sight x, M_signs x, M_pad x, M_at x, M_busyNow x, M_withNow x, M_leftNow x, M_thingsNow x, M_loose x, M_through x, M_reason x, M_events x, M_states x, M_dear x, v, M_then x, M_image x, M_isKept x)
def M_set_then (x : MS) (v : (Nat → Int64)) : MS := (M_rooms x, M_things x, M_size x, M_chairs x, M_width x, M_there x, M_likes x, M_place x, M_busy x, M_with x, M_left x, M_sights x, M_sight x, M_signs x, M_pad x, M_at x, M_busyNow x, M_withNow x, M_leftNow x, M_thingsNow x, M_loose x, M_through x, M_reason x, M_events x, M_states x, M_dear x, M_chances x, v, M_image x, M_isKept x)
def M_set_image (x : MS) (v : (Nat → Int32)) : MS := (M_rooms x, M_things x, M_size x, M_chairs x, M_width x, M_there x, M_likes x, M_place x, M_busy x, M_with x, M_left x, M_sights x, M_sight x, M_signs x, M_pad x, M_at x, M_busyNow x, M_withNow x, M_leftNow x, M_thingsNow x, M_loose x, M_through x, M_reason x, M_events x, M_states x, M_dear x, M_chances x, M_then x, v, M_isKept x)
def M_set_isKept (x : MS) (v : (Nat → Int32)) : MS := (M_rooms x, M_things x, M_size x, M_chairs x, M_width x, M_there x, M_likes x, M_place x, M_busy x, M_with x, M_left x, M_sights x, M_sight x, M_signs x, M_pad x, M_at x, M_busyNow x, M_withNow x, M_leftNow x, M_thingsNow x, M_loose x, M_through x, M_reason x, M_events x, M_states x, M_dear x, M_chances x, M_then x, M_image x, v)
def objM (A : Nat → Nat) (x : MS) : List Value := [.int (M_rooms x), .ref (A 1), .ref (A 2), .ref (A 3), .ref (A 4), .int (M_there x), .ref (A 5), .ref (A 6), .ref (A 7), .ref (A 8), .ref (A 9), .int (M_sights x), .ref (A 10), .int (M_signs x), .ref (A 11), .ref (A 12), .ref (A 13), .ref (A 14), .ref (A 15), .ref (A 16), .int (M_loose x), .ref (A 17), .int (M_reason x), .int (M_events x), .ref (A 18), .ref (A 19), .ref (A 20), .ref (A 21), .ref (A 22), .ref (A 23)]
def wM (cy : Nat → ClassId) (A : Nat → Nat) (x : MS) : va_W := [(A 0, .inr (9, objM A x)), (A 1, .inl (cy 0, 24, .inl (M_things x))), (A 2, .inl (cy 0, 6, .inl (M_size x))), (A 3, .inl (cy 0, 6, .inl (M_chairs x))), (A 4, .inl (cy 0, 36, .inl (M_width x))), (A 5, .inl (cy 0, 40, .inl (M_likes x))), (A 6, .inl (cy 0, 8, .inl (M_place x))), (A 7, .inl (cy 0, 8, .inl (M_busy x))), (A 8, .inl (cy 0, 8, .inl (M_with x))), (A 9, .inl (cy 0, 8, .inl (M_left x))), (A 10, .inl (cy 0, 12, .inl (M_sight x))), (A 11, .inl (cy 0, 60, .inl (M_pad x))), (A 12, .inl (cy 0, 8, .inl (M_at x))), (A 13, .inl (cy 0, 8, .inl (M_busyNow x))), (A 14, .inl (cy 0, 8, .inl (M_withNow x))), (A 15, .inl (cy 0, 8, .inl (M_leftNow x))), (A 16, .inl (cy 0, 24, .inl (M_thingsNow x))), (A 17, .inl (cy 0, 36, .inl (M_through x))), (A 18, .inl (cy 1, 200, .inr (.inl (M_states x)))), (A 19, .inl (cy 0, 36, .inl (M_dear x))), (A 20, .inl (cy 1, 6, .inr (.inl (M_chances x)))), (A 21, .inl (cy 1, 6, .inr (.inl (M_then x)))), (A 22, .inl (cy 0, 400, .inl (M_image x))), (A 23, .inl (cy 2, 2, .inl (M_isKept x)))]
theorem wM_s_rooms {cy : Nat → ClassId} {A : Nat → Nat} {z z' : MS} {v : Int32} (h : z' = M_set_rooms z v) : (wM cy A z).set 0 (A 0, .inr (9, (objM A z).set 0 (.int v))) = wM cy A z' := by subst h; rfl
theorem wM_s_things {cy : Nat → ClassId} {A : Nat → Nat} {z z' : MS} {f : (Nat → Int32)} (h : z' = M_set_things z f) : (wM cy A z).set 1 (A 1, .inl (cy 0, 24, .inl f)) = wM cy A z' := by subst h; rfl
theorem wM_s_size {cy : Nat → ClassId} {A : Nat → Nat} {z z' : MS} {f : (Nat → Int32)} (h : z' = M_set_size z f) : (wM cy A z).set 2 (A 2, .inl (cy 0, 6, .inl f)) = wM cy A z' := by subst h; rfl
theorem wM_s_chairs {cy : Nat → ClassId} {A : Nat → Nat} {z z' : MS} {f : (Nat → Int32)} (h : z' = M_set_chairs z f) : (wM cy A z).set 3 (A 3, .inl (cy 0, 6, .inl f)) = wM cy A z' := by subst h; rfl
theorem wM_s_width {cy : Nat → ClassId} {A : Nat → Nat} {z z' : MS} {f : (Nat → Int32)} (h : z' = M_set_width z f) : (wM cy A z).set 4 (A 4, .inl (cy 0, 36, .inl f)) = wM cy A z' := by subst h; rfl
theorem wM_s_there {cy : Nat → ClassId} {A : Nat → Nat} {z z' : MS} {v : Int32} (h : z' = M_set_there z v) : (wM cy A z).set 0 (A 0, .inr (9, (objM A z).set 5 (.int v))) = wM cy A z' := by subst h; rfl
theorem wM_s_likes {cy : Nat → ClassId} {A : Nat → Nat} {z z' : MS} {f : (Nat → Int32)} (h : z' = M_set_likes z f) : (wM cy A z).set 5 (A 5, .inl (cy 0, 40, .inl f)) = wM cy A z' := by subst h; rfl
theorem wM_s_place {cy : Nat → ClassId} {A : Nat → Nat} {z z' : MS} {f : (Nat → Int32)} (h : z' = M_set_place z f) : (wM cy A z).set 6 (A 6, .inl (cy 0, 8, .inl f)) = wM cy A z' := by subst h; rfl
theorem wM_s_busy {cy : Nat → ClassId} {A : Nat → Nat} {z z' : MS} {f : (Nat → Int32)} (h : z' = M_set_busy z f) : (wM cy A z).set 7 (A 7, .inl (cy 0, 8, .inl f)) = wM cy A z' := by subst h; rfl
theorem wM_s_with {cy : Nat → ClassId} {A : Nat → Nat} {z z' : MS} {f : (Nat → Int32)} (h : z' = M_set_with z f) : (wM cy A z).set 8 (A 8, .inl (cy 0, 8, .inl f)) = wM cy A z' := by subst h; rfl
theorem wM_s_left {cy : Nat → ClassId} {A : Nat → Nat} {z z' : MS} {f : (Nat → Int32)} (h : z' = M_set_left z f) : (wM cy A z).set 9 (A 9, .inl (cy 0, 8, .inl f)) = wM cy A z' := by subst h; rfl
theorem wM_s_sights {cy : Nat → ClassId} {A : Nat → Nat} {z z' : MS} {v : Int32} (h : z' = M_set_sights z v) : (wM cy A z).set 0 (A 0, .inr (9, (objM A z).set 11 (.int v))) = wM cy A z' := by subst h; rfl
theorem wM_s_sight {cy : Nat → ClassId} {A : Nat → Nat} {z z' : MS} {f : (Nat → Int32)} (h : z' = M_set_sight z f) : (wM cy A z).set 10 (A 10, .inl (cy 0, 12, .inl f)) = wM cy A z' := by subst h; rfl
theorem wM_s_signs {cy : Nat → ClassId} {A : Nat → Nat} {z z' : MS} {v : Int32} (h : z' = M_set_signs z v) : (wM cy A z).set 0 (A 0, .inr (9, (objM A z).set 13 (.int v))) = wM cy A z' := by subst h; rfl
theorem wM_s_pad {cy : Nat → ClassId} {A : Nat → Nat} {z z' : MS} {f : (Nat → Int32)} (h : z' = M_set_pad z f) : (wM cy A z).set 11 (A 11, .inl (cy 0, 60, .inl f)) = wM cy A z' := by subst h; rfl
theorem wM_s_at {cy : Nat → ClassId} {A : Nat → Nat} {z z' : MS} {f : (Nat → Int32)} (h : z' = M_set_at z f) : (wM cy A z).set 12 (A 12, .inl (cy 0, 8, .inl f)) = wM cy A z' := by subst h; rfl
theorem wM_s_busyNow {cy : Nat → ClassId} {A : Nat → Nat} {z z' : MS} {f : (Nat → Int32)} (h : z' = M_set_busyNow z f) : (wM cy A z).set 13 (A 13, .inl (cy 0, 8, .inl f)) = wM cy A z' := by subst h; rfl
theorem wM_s_withNow {cy : Nat → ClassId} {A : Nat → Nat} {z z' : MS} {f : (Nat → Int32)} (h : z' = M_set_withNow z f) : (wM cy A z).set 14 (A 14, .inl (cy 0, 8, .inl f)) = wM cy A z' := by subst h; rfl
theorem wM_s_leftNow {cy : Nat → ClassId} {A : Nat → Nat} {z z' : MS} {f : (Nat → Int32)} (h : z' = M_set_leftNow z f) : (wM cy A z).set 15 (A 15, .inl (cy 0, 8, .inl f)) = wM cy A z' := by subst h; rfl
theorem wM_s_thingsNow {cy : Nat → ClassId} {A : Nat → Nat} {z z' : MS} {f : (Nat → Int32)} (h : z' = M_set_thingsNow z f) : (wM cy A z).set 16 (A 16, .inl (cy 0, 24, .inl f)) = wM cy A z' := by subst h; rfl
theorem wM_s_loose {cy : Nat → ClassId} {A : Nat → Nat} {z z' : MS} {v : Int32} (h : z' = M_set_loose z v) : (wM cy A z).set 0 (A 0, .inr (9, (objM A z).set 20 (.int v))) = wM cy A z' := by subst h; rfl
theorem wM_s_through {cy : Nat → ClassId} {A : Nat → Nat} {z z' : MS} {f : (Nat → Int32)} (h : z' = M_set_through z f) : (wM cy A z).set 17 (A 17, .inl (cy 0, 36, .inl f)) = wM cy A z' := by subst h; rfl
theorem wM_s_reason {cy : Nat → ClassId} {A : Nat → Nat} {z z' : MS} {v : Int32} (h : z' = M_set_reason z v) : (wM cy A z).set 0 (A 0, .inr (9, (objM A z).set 22 (.int v))) = wM cy A z' := by subst h; rfl
theorem wM_s_events {cy : Nat → ClassId} {A : Nat → Nat} {z z' : MS} {v : Int32} (h : z' = M_set_events z v) : (wM cy A z).set 0 (A 0, .inr (9, (objM A z).set 23 (.int v))) = wM cy A z' := by subst h; rfl
theorem wM_s_states {cy : Nat → ClassId} {A : Nat → Nat} {z z' : MS} {f : (Nat → Int64)} (h : z' = M_set_states z f) : (wM cy A z).set 18 (A 18, .inl (cy 1, 200, .inr (.inl f))) = wM cy A z' := by subst h; rfl
theorem wM_s_dear {cy : Nat → ClassId} {A : Nat → Nat} {z z' : MS} {f : (Nat → Int32)} (h : z' = M_set_dear z f) : (wM cy A z).set 19 (A 19, .inl (cy 0, 36, .inl f)) = wM cy A z' := by subst h; rfl
theorem wM_s_chances {cy : Nat → ClassId} {A : Nat → Nat} {z z' : MS} {f : (Nat → Int64)} (h : z' = M_set_chances z f) : (wM cy A z).set 20 (A 20, .inl (cy 1, 6, .inr (.inl f))) = wM cy A z' := by subst h; rfl
theorem wM_s_then {cy : Nat → ClassId} {A : Nat → Nat} {z z' : MS} {f : (Nat → Int64)} (h : z' = M_set_then z f) : (wM cy A z).set 21 (A 21, .inl (cy 1, 6, .inr (.inl f))) = wM cy A z' := by subst h; rfl
theorem wM_s_image {cy : Nat → ClassId} {A : Nat → Nat} {z z' : MS} {f : (Nat → Int32)} (h : z' = M_set_image z f) : (wM cy A z).set 22 (A 22, .inl (cy 0, 400, .inl f)) = wM cy A z' := by subst h; rfl
theorem wM_s_isKept {cy : Nat → ClassId} {A : Nat → Nat} {z z' : MS} {f : (Nat → Int32)} (h : z' = M_set_isKept z f) : (wM cy A z).set 23 (A 23, .inl (cy 2, 2, .inl f)) = wM cy A z' := by subst h; rfl
theorem wS_swap (cy : Nat → ClassId) (A : Nat → Nat) (w : Int64) (ch nx : Nat → Int64) (b : Bool) : [(A 0, .inr (6, [.long w, .ref (sw2 A b), .ref (sw1 A b)])), (sw2 A b, .inl (cy 1, 6, .inr (.inl nx))), (sw1 A b, .inl (cy 1, 6, .inr (.inl ch)))] = wS cy A (w, nx, ch, !b) := by cases b <;> rfl
def kdo (A : Nat → Nat) : Nat × va_E := (A 0, .inr (8, [.ref (A 10), .ref (A 1), .ref (A 2), .ref (A 40), .ref (A 50), .ref (A 70), .ref (A 80), .ref (A 90), .ref (A 100), .ref (A 110), .ref (A 3)]))
