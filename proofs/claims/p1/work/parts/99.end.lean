def RelP : Nat → KDS → MS → Prop
  | 0 => Rz0
  | _ + 1 => Rz1
theorem whole_start {p : Program} {e : Env} {s : State} {m : MethodId} {below : List Frame} {meth : Method} {c : Code} (l : Launch) {b L : Nat} {xs : Nat → Int32} (hL : L ≤ 6) (C0 : lw_At p s m meth c b L xs) : W p l e room_1 s m #[Value.ref b] below meth c s.heap [] 0 0 (lw_Z below #[Value.ref b] s) (entryFrame m ([Value.ref b] : List Value).toArray 4) := by
  refine whole_of (b := b) (L := L) RelP (fun i S z _ _ => trivial) (fun i hi => ?h_rooms) (fun i hi => ?h_room) (fun i hi => ?h_door) (fun i hi => ?h_guest) (fun i hi => ?h_likes) (fun i hi => ?h_leave) (fun i hi => ?h_say) (fun i hi => ?h_wipe) (fun i hi => ?h_fault) (fun i hi => ?h_judge) (fun i hi => ?h_done) (fun i hi => ?h_state) (fun i hi => ?h_behind) (fun i hi => ?h_draw) (fun i hi => ?h_goes) (fun i hi => ?h_after) (fun i hi => ?h_crowd) (fun i hi => ?h_still) (fun i hi => ?h_round) (fun i hi => ?h_throng) (fun i hi => ?h_carried) (fun i hi => ?h_hinges) (fun i hi => ?h_best) (fun i hi => ?h_rests) (fun i hi => ?h_led) (fun i hi => ?h_excuses) (fun i hi => ?h_seen) (fun i hi => ?h_forget) (fun i hi => ?h_tastes) (fun i hi => ?h_drunk) (fun i hi => ?h_year) (fun i hi => ?h_image) (fun i hi => ?h_restore) (fun i hi => ?h_told) q0c q0_eq w0c w0_eq ⟨rfl, rfl⟩ l (Nat.le_trans hL (by decide)) C0
  case h_rooms =>
    obtain rfl : i = 0 := by omega
    exact p1_rooms
  case h_room =>
    obtain rfl : i = 0 := by omega
    exact p1_room
  case h_door =>
    obtain rfl : i = 0 := by omega
    exact p1_door
  case h_guest =>
    obtain rfl : i = 0 := by omega
    exact p1_guest
  case h_likes =>
    obtain rfl : i = 0 := by omega
    exact p1_likes
  case h_leave =>
    obtain rfl : i = 0 := by omega
    exact p1_leave
  case h_say =>
    obtain rfl : i = 0 := by omega
    exact p1_say
  case h_wipe =>
    obtain rfl : i = 0 := by omega
    exact p1_wipe
  case h_fault =>
    obtain rfl : i = 0 := by omega
    exact p1_fault
  case h_judge =>
    obtain rfl : i = 0 := by omega
    exact p1_judge
  case h_done =>
    obtain rfl : i = 0 := by omega
    exact p1_done
  case h_state =>
    obtain rfl : i = 0 := by omega
    exact p1_state
  case h_behind =>
    obtain rfl : i = 0 := by omega
    exact p1_behind
  case h_draw =>
    obtain rfl : i = 0 := by omega
    exact p1_draw
  case h_goes =>
    obtain rfl : i = 0 := by omega
    exact p1_goes
  case h_after =>
    obtain rfl : i = 0 := by omega
    exact p1_after
  case h_crowd =>
    obtain rfl : i = 0 := by omega
    exact p1_crowd
  case h_still =>
    obtain rfl : i = 0 := by omega
    exact p1_still
  case h_round =>
    obtain rfl : i = 0 := by omega
    exact p1_round
  case h_throng =>
    obtain rfl : i = 0 := by omega
    exact p1_throng
  case h_carried =>
    obtain rfl : i = 0 := by omega
    exact p1_carried
  case h_hinges =>
    obtain rfl : i = 0 := by omega
    exact p1_hinges
  case h_best =>
    obtain rfl : i = 0 := by omega
    exact p1_best
  case h_rests =>
    obtain rfl : i = 0 := by omega
    exact p1_rests
  case h_led =>
    obtain rfl : i = 0 := by omega
    exact p1_led
  case h_excuses =>
    obtain rfl : i = 0 := by omega
    exact p1_excuses
  case h_seen =>
    obtain rfl : i = 0 := by omega
    exact p1_seen
  case h_forget =>
    obtain rfl : i = 0 := by omega
    exact p1_forget
  case h_tastes =>
    obtain rfl : i = 0 := by omega
    exact p1_tastes
  case h_drunk =>
    obtain rfl : i = 0 := by omega
    exact p1_drunk
  case h_year =>
    obtain rfl : i = 0 := by omega
    exact p1_year
  case h_image =>
    obtain rfl : i = 0 := by omega
    exact p1_image
  case h_restore =>
    obtain rfl : i = 0 := by omega
    exact p1_restore
  case h_told =>
    obtain rfl : i = 0 := by omega
    exact p1_told
-- ===== YOUR PART ENDS =====
set_option maxHeartbeats 4000000 in
theorem lw_walk (l : Launch) (b : Addr) (xs : List Int32) : MetFree l x (headSpec (Jvm.Cond.code x code maxLocals ret :: tables_1) room_1) (lw_P b xs) (fun _ _ _ _ _ => True) lw_Q := by
  refine MetFree.of_bodyS (code := code) (maxLocals := maxLocals) (ret := ret) (by decide) ?_ ?_
  · intro args s m h hn
    obtain ⟨meth, c, h1, h2, h3, h4, h5, h6, -, -⟩ := Cond.code_spec hn (atoms_spec (ws := Jvm.Cond.code x code maxLocals ret :: tables_1) h _ List.mem_cons_self)
    exact ⟨meth, c, h1, h2, h3, h4, h5, h6⟩
  · intro p e s m args below meth c s₁ B hml0 hP _
    obtain ⟨rfl, hx, hbd, hgv⟩ := hP
    obtain ⟨scr, harrAt, hlist, hof, hsmall⟩ := hx
    obtain ⟨hcb, hkn, -, -⟩ := State.arrayAt?_spec harrAt
    have hown : s.vm.findClass R_law = some m.cls := findClass_of_methodNamed B.named
    have hts0 : ∀ c ∈ (Jvm.Cond.code x code maxLocals ret :: tables_1), c.before #[Value.ref b] s = true := atoms_spec (ws := Jvm.Cond.code x code maxLocals ret :: tables_1) B.pre
    have hts : ∀ w ∈ lw_tbl, w.before #[Value.ref b] s = true := k2_hts_sels lw_privs (fun w hw => hts0 w (List.mem_cons_of_mem _ hw)) lw_privs_ok
    have hml : c.maxLocals = 4 := B.maxLocals_eq (hts0 _ List.mem_cons_self)
    have X₀ : Stand p l e room_1 s m #[Value.ref b] below meth c s₁ [] 0 0 := Stand.of_body B
    have hh0 : s₁.heap = s.heap := by rw [B.state]; rfl
    have hsz : scr.slots.size = xs.length := by rw [← Array.length_toList, hlist, List.length_map]
    have hval : ∀ j : Nat, j < xs.length → scr.slots[j]? = some (.int (xs.getD j 0)) := fun j hj => by
      rw [← Array.getElem?_toList, hlist]
      simp [hj]
    have hbl : b < s.heap.size := (Array.getElem?_eq_some_iff.mp hcb).1
    have hX : va_X b xs.length (fun j => xs.getD j 0) s s.heap := ⟨scr, hcb, hof, hkn, hsz, hval⟩
    have K : W p l e room_1 s m #[Value.ref b] below meth c s₁.heap [] 0 0 (lw_Z below #[Value.ref b] s) (entryFrame m ([Value.ref b] : List Value).toArray 4) := by
      rw [hh0]
      exact whole_start l hbd ⟨B.exec, B.bytes, B.returns, hml, hown, hts, hX, hbl, B.notSynchronized, hgv⟩
    obtain ⟨t, a1, o, b1, b2, b3⟩ := K s₁ rfl X₀
    exact ⟨t, o, a1, b1, b2, b3⟩
theorem lw_pre_spec {args : Array Value} {s : State} (h : (Jvm.Cond.and given_1 narrow_1).before args s = true) (hr : rest_1_c.before args s = true) : ∃ (b : Addr) (xs : List Int32), lw_P b xs args s := by
  have hs := flat_of_before _ h
  have hq := flat_of_before _ hr
  have hc : (Cond.count 1).before args s = true := hs _ (by decide +kernel)
  have harr : (Cond.arrayOf (.arg 0) .int).before args s = true := hs _ (by decide +kernel)
  have hle : (Cond.le (.length (.arg 0)) (.int 6)).before args s = true := hs _ (by decide +kernel)
  have hlen : (Cond.isInt (.length (.arg 0))).before args s = true := hq _ (by decide +kernel)
  have hall : (Cond.all (.arg 0) (.isInt (.elem (.arg 0) (.index 0)))).before args s = true := hq _ (by decide +kernel)
  obtain ⟨b, xs, hb, hx⟩ := State.ints_of_pre rfl harr hlen hall
  have hsm : xs.length < 2 ^ 31 := hx.choose_spec.2.2.2
  have hev : (Term.length (.arg 0)).eval args s none [] s = some (.int xs.length.toInt32) := hx.length_eval hb
  have hv := Cond.le_ints hev (show (Term.int 6).eval args s none [] s = some (.int 6) from rfl)
  have hd : xs.length.toInt32 ≤ 6 := by
    simpa [Cond.before, Cond.holds, hv] using hle
  have hN : xs.length ≤ 6 := (Int32.ofNat_le_ofNat hsm (by decide)).mp (show Int32.ofNat xs.length ≤ Int32.ofNat 6 from hd)
  exact ⟨b, xs, Cond.one_arg hc (show args[0]? = some (.ref b) from hb), hx, hN, h⟩
theorem lw_comes (l : Launch) : Comes l x (Jvm.Cond.code x code maxLocals ret :: tables_1) room_1 (fun tb e args s => Calls_1 tb e args s ∧ rest_1 tb e args s ∧ Pre_1 tb e args s)
    (fun _ _ args s o t => lw_Q args s o t) := by
  intro p e ha hc hk s m args below hf hfit hheap happ hpre
  obtain ⟨b, xs, hP⟩ := lw_pre_spec hpre.2.2 hpre.2.1
  obtain ⟨k, o, h1, h2, h3, hQ⟩ := lw_walk l b xs p e ha hc hk s m args below hf ((Spec.applies_iff_loose hf).mp happ).1 hP trivial
  exact ⟨k, o, h1, h2, h3, hQ⟩
theorem lw_frame {s t : State} {o : Outcome} {args : Array Value} (h : Framed s o t [] 600000 7302250) :
    Framed s o t (fieldLocs frame_1_writes args s ++ arrayLocs frame_1_arrays args s ++ staticLocs frame_1_statics s) 600000 7302250 := h
theorem lw_limb (L : Cond) (hL : ∀ (args : Array Value) (s t : State), L.after args s (.returned (some (.int 1))) t = true) :
    ArmFor flags0 classFile x code maxLocals ret World_1 tables_1 room_1 Calls_1 rest_1 Pre_1
      (fun tb e a s o t => postC L tb e a s o t ∧ Framed s o t (fieldLocs frame_1_writes a s ++ arrayLocs frame_1_arrays a s ++ staticLocs frame_1_statics s) 600000 7302250) := by
  intro l _ _ _ p e ha hc hk s m args below hf hfit hheap happ hpre
  obtain ⟨k, o, h1, h2, h3, rfl, hF⟩ := lw_comes l p e ha hc hk s m args below hf hfit hheap happ hpre
  exact ⟨k, _, h1, h2, h3, hL args s _, lw_frame hF⟩
theorem i_vc : Claimed_1_1 ∧ Claimed_1_2 := ⟨lw_limb limb_1_1 (fun args s t => by simp [limb_1_1, Cond.after, Cond.holds, Cond.value]), lw_limb limb_1_2 (fun args s t => Cond.after_iff.mpr (by
  first | (rw [show limb_1_2 = Cond.eq .result (.int 1) from rfl, Cond.eq_ints (x := 1) (y := 1) rfl rfl]; simp; done) | (simp [limb_1_2, Cond.value, Term.eval]; done)))⟩
