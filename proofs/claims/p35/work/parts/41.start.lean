def R_law : String := "KitchenDriftLaw"
def lw_P (b : Addr) (xs : List Int32) (args : Array Value) (s : State) : Prop := args = #[.ref b] ∧ s.IntsAt b xs ∧ xs.length ≤ 384 ∧ (Jvm.Cond.and given_1 narrow_1).before args s = true
def lw_Q (_ : Array Value) (s : State) (o : Outcome) (t : State) : Prop := o = .returned (some (.int 1)) ∧ Framed s o t [] 600000 7302250
def lw_Z (below : List Frame) (a : Array Value) (s : State) : State → Prop := fun t => ∃ o, t.status = .running ∧ Ended t below o ∧ lw_Q a s o t
/-- the law's own end, with 1 on the stack, nothing written that was there before, its room as the claim has it -/
theorem lw_ret {p : Program} {l : Launch} {e : Env} {s : State} {m : MethodId} {below : List Frame} {meth : Method} {c : Code} {b : Nat} (hx : p.tables.exec = Jvm.exec) (hb : c.code = code) (hr : meth.sig.returnType = ret) (hlocks : meth.locks = false) {pc : Nat} {H : Heap} {ls : Array Slot} (hdg : decode code pc = .ok (.ireturn, 1)) : W p l e room_1 s m #[Value.ref b] below meth c H [] 600000 7302250 (lw_Z below #[Value.ref b] s) (F0 m pc ls [.int 1]) := by
  intro T hT X
  obtain ⟨fs, hret, hrun, hended, hW, hframe⟩ := X.leave (v := some (.int 1)) (hlocks := hlocks) (fun h => by rw [hr] at h; cases h)
  have hmeth' : T.vm.method? m = some meth := X.method'
  refine ⟨T.setFrames fs, ?_, .returned (some (.int 1)), hrun, hended, rfl, ⟨_, rfl⟩, hW, hframe⟩
  jvm_step X.here [X.here.top, hx, hb, hdg, hmeth', hr, ret, narrow_b1]
  (try refine ⟨rfl, ?_⟩); (try refine ⟨rfl, ?_⟩)
  first | (intro acts; rw [hret _ acts rfl rfl rfl]) | rw [hret _ _ rfl rfl rfl]
  exact Steps.refl _
/-- what holds at the law's entry: the machine, the code, the tables' words (any of lw_tbl by 'hts w (by decide +kernel)'), the script of L ints xs at the cell b, what the Statement gives of the start (any of its parts by flat_of_before) -/
def lw_At (p : Program) (s : State) (m : MethodId) (meth : Method) (c : Code) (b L : Nat) (xs : Nat → Int32) : Prop :=
  p.tables.exec = Jvm.exec ∧ c.code = code ∧ meth.sig.returnType = ret ∧ c.maxLocals = 4 ∧ s.vm.findClass R_law = some m.cls ∧ (∀ w ∈ lw_tbl, w.before #[Value.ref b] s = true) ∧ va_X b L xs s s.heap ∧ b < s.heap.size ∧ meth.locks = false ∧ (Jvm.Cond.and given_1 narrow_1).before #[Value.ref b] s = true

section R9d
variable {K : Kx} {cc : ByteArray} {nL : Nat} {own : String} {l : Launch} {R : Room} {E : va_G} {cy : Nat → ClassId} {pc : Nat} {lv : List (Nat × Value)} {rest : List Value} {y : MethodName} {cc' : ByteArray} {nL' fr lo mc ms idx b : Nat} {S : Type} {post : S → Prop} {W' : S → va_W}
theorem r_callNIL (hc : Cq K cc nL own l R E cy) (c1 c2 : Nat) (ws0 : va_W) (e : va_E) (hM : Cn l y cc' nL' fr lo mc ms E cy [.ref b] [(b, e)] post W') (hk : KI y cc' nL') (hm : Cond.methodLink own idx y ∈ tb) (hroom : (rest.map fun v => v.category).sum ≤ 8) (hrm : fr + 1 ≤ R.frames ∧ 8 + (nL' + 11) + lo ≤ R.locals) (h1 : c1 + mc ≤ R.cells) (h2 : c2 + ms ≤ R.slots) (hd : decode cc pc = .ok (.invokespecial idx, 3)) (nx : ∀ u : S, post u → V (Kcs K (c1 + mc, c2 + ms)) (ws0 ++ W' u) (pc + 3) lv rest) : V (Kcs K (c1, c2)) (ws0 ++ [(b, e)]) pc lv (.ref b :: rest) := by
  refine r_callNI hc c1 c2 hM hk hm [ws0.length] (List.range ws0.length) (by simp) (by simp [va_nd]) (by simp; omega) (va_nd_nodup List.nodup_range) (by simp; omega) hroom hrm h1 h2 hd (fun u hu => ?_)
  rw [fm_of (map_last ws0 [(b, e)])]
  exact nx u hu
end R9d

theorem nws_lw : ∀ q ∈ nws, Cond.methodLinkNest q.1 q.2.1 q.2.2.1 q.2.2.2 ∈ lw_tbl := List.forall_mem_cons.mpr ⟨(List.mem_append_right _ (List.mem_append_left _ (List.mem_of_getElem? (i := 25) rfl))), List.forall_mem_cons.mpr ⟨(List.mem_append_right _ (List.mem_append_left _ (List.mem_of_getElem? (i := 92) rfl))), List.forall_mem_cons.mpr ⟨(List.mem_append_right _ (List.mem_append_left _ (List.mem_of_getElem? (i := 108) rfl))), List.forall_mem_cons.mpr ⟨(List.mem_append_right _ (List.mem_append_left _ (List.mem_of_getElem? (i := 113) rfl))), List.forall_mem_cons.mpr ⟨(List.mem_append_right _ (List.mem_append_left _ (List.mem_of_getElem? (i := 135) rfl))), List.forall_mem_cons.mpr ⟨(List.mem_append_right _ (List.mem_append_left _ (List.mem_of_getElem? (i := 150) rfl))), List.forall_mem_cons.mpr ⟨(List.mem_append_right _ (List.mem_append_left _ (List.mem_of_getElem? (i := 191) rfl))), List.forall_mem_cons.mpr ⟨(List.mem_append_right _ (List.mem_append_left _ (List.mem_of_getElem? (i := 204) rfl))), List.forall_mem_cons.mpr ⟨(List.mem_append_right _ (List.mem_append_left _ (List.mem_of_getElem? (i := 221) rfl))), List.forall_mem_cons.mpr ⟨(List.mem_append_right _ (List.mem_append_right _ (List.mem_append_right _ (List.mem_append_left _ (List.mem_of_getElem? (i := 158) rfl))))), fun _ h => absurd h List.not_mem_nil⟩⟩⟩⟩⟩⟩⟩⟩⟩⟩
set_option maxHeartbeats 8000000 in
set_option maxRecDepth 100000 in
/-- THE LAW from its entry, out of a relation that both sides keep -/
theorem whole_of {b L : Nat} (Rel : Nat → KDS → MS → Prop) (hsk : ∀ i S z, i + 6 ≤ L → Rel i S z → Rel (i + 6) S z) (h_rooms : ∀ i, i + 6 ≤ L → WSim_rooms (Rel i) (Rel (i + 6))) (h_room : ∀ i, i + 6 ≤ L → WSim_room (Rel i) (Rel (i + 6))) (h_door : ∀ i, i + 6 ≤ L → WSim_door (Rel i) (Rel (i + 6))) (h_guest : ∀ i, i + 6 ≤ L → WSim_guest (Rel i) (Rel (i + 6))) (h_likes : ∀ i, i + 6 ≤ L → WSim_likes (Rel i) (Rel (i + 6))) (h_leave : ∀ i, i + 6 ≤ L → WSim_leave (Rel i) (Rel (i + 6))) (h_say : ∀ i, i + 6 ≤ L → WSim_say (Rel i) (Rel (i + 6))) (h_wipe : ∀ i, i + 6 ≤ L → WSim_wipe (Rel i) (Rel (i + 6))) (h_fault : ∀ i, i + 6 ≤ L → WSim_fault (Rel i) (Rel (i + 6))) (h_judge : ∀ i, i + 6 ≤ L → WSim_judge (Rel i) (Rel (i + 6))) (h_done : ∀ i, i + 6 ≤ L → WSim_done (Rel i) (Rel (i + 6))) (h_state : ∀ i, i + 6 ≤ L → WSim_state (Rel i) (Rel (i + 6))) (h_behind : ∀ i, i + 6 ≤ L → WSim_behind (Rel i) (Rel (i + 6))) (h_draw : ∀ i, i + 6 ≤ L → WSim_draw (Rel i) (Rel (i + 6))) (h_goes : ∀ i, i + 6 ≤ L → WSim_goes (Rel i) (Rel (i + 6))) (h_after : ∀ i, i + 6 ≤ L → WSim_after (Rel i) (Rel (i + 6))) (h_crowd : ∀ i, i + 6 ≤ L → WSim_crowd (Rel i) (Rel (i + 6))) (h_still : ∀ i, i + 6 ≤ L → WSim_still (Rel i) (Rel (i + 6))) (h_round : ∀ i, i + 6 ≤ L → WSim_round (Rel i) (Rel (i + 6))) (h_throng : ∀ i, i + 6 ≤ L → WSim_throng (Rel i) (Rel (i + 6))) (h_carried : ∀ i, i + 6 ≤ L → WSim_carried (Rel i) (Rel (i + 6))) (h_hinges : ∀ i, i + 6 ≤ L → WSim_hinges (Rel i) (Rel (i + 6))) (h_best : ∀ i, i + 6 ≤ L → WSim_best (Rel i) (Rel (i + 6))) (h_rests : ∀ i, i + 6 ≤ L → WSim_rests (Rel i) (Rel (i + 6))) (h_led : ∀ i, i + 6 ≤ L → WSim_led (Rel i) (Rel (i + 6))) (h_excuses : ∀ i, i + 6 ≤ L → WSim_excuses (Rel i) (Rel (i + 6))) (h_seen : ∀ i, i + 6 ≤ L → WSim_seen (Rel i) (Rel (i + 6))) (h_forget : ∀ i, i + 6 ≤ L → WSim_forget (Rel i) (Rel (i + 6))) (h_tastes : ∀ i, i + 6 ≤ L → WSim_tastes (Rel i) (Rel (i + 6))) (h_drunk : ∀ i, i + 6 ≤ L → WSim_drunk (Rel i) (Rel (i + 6))) (h_year : ∀ i, i + 6 ≤ L → WSim_year (Rel i) (Rel (i + 6))) (h_image : ∀ i, i + 6 ≤ L → WSim_image (Rel i) (Rel (i + 6))) (h_restore : ∀ i, i + 6 ≤ L → WSim_restore (Rel i) (Rel (i + 6))) (h_told : ∀ i, i + 6 ≤ L → SimN_told (Rel i) (Rel (i + 6))) (q0 : HS) (hq0 : f_X1_clear zH0 (3 : Int32) = some q0) (w0 : MS) (hw0 : f_X9_empty zM0 = some w0) (h0 : Rel 0 (q0, zP0, zD0, zY0, zT0, zO0, zS0, zU0, (fun _ => 0), (fun _ => 0), zH0, zH0) w0)
    {p : Program} {e : Env} {s : State} {m : MethodId} {below : List Frame} {meth : Method} {c : Code} (l : Launch) {xs : Nat → Int32} (hL : L ≤ 384) (C0 : lw_At p s m meth c b L xs) : W p l e room_1 s m #[Value.ref b] below meth c s.heap [] 0 0 (lw_Z below #[Value.ref b] s) (entryFrame m ([Value.ref b] : List Value).toArray 4) := by
  obtain ⟨hx, hb, hr, hml, hown, hts, hX, hbl, hlocks, hgv⟩ := id C0
  have htb : ∀ w ∈ tb, w.before #[Value.ref b] s = true := fun w h => hts w (tb_lw w h)
  have hbA : ¬ (fun q : Nat => s.heap.size ≤ q) b := Nat.not_le.mpr hbl
  obtain ⟨c0, iS0, hKn0⟩ := u_known (C := RX0) (T := TX0) (N := 5) (n := 5) htb iw_X0 (htb _ mw_161)
  obtain ⟨c1, iS1, hKn1⟩ := u_known (C := RX1) (T := TX1) (N := 12) (n := 12) htb iw_X1 (htb _ mw_78)
  obtain ⟨c2, iS2, hKn2⟩ := u_known (C := RX2) (T := TX2) (N := 2) (n := 2) htb iw_X2 (htb _ mw_145)
  obtain ⟨c3, iS3, hKn3⟩ := u_known (C := RX3) (T := TX3) (N := 2) (n := 2) htb iw_X3 (htb _ mw_188)
  obtain ⟨c4, iS4, hKn4⟩ := u_known (C := RX4) (T := TX4) (N := 11) (n := 11) htb iw_X4 (htb _ mw_203)
  obtain ⟨c5, iS5, hKn5⟩ := u_known (C := RX5) (T := TX5) (N := 2) (n := 2) htb iw_X5 (htb _ mw_244)
  obtain ⟨c6, iS6, hKn6⟩ := u_known (C := RX6) (T := TX6) (N := 3) (n := 3) htb iw_X6 (htb _ mw_257)
  obtain ⟨c7, iS7, hKn7⟩ := u_known (C := RX7) (T := TX7) (N := 2) (n := 2) htb iw_X7 (htb _ mw_274)
  obtain ⟨c8, iS8, hKn8⟩ := u_known (C := RX8) (T := TX8) (N := 11) (n := 11) htb iw_X8 (htb _ mw_70)
  obtain ⟨c9, iS9, hKn9⟩ := u_known (C := RX9) (T := TX9) (N := 30) (n := 30) htb iw_X9 (htb _ mw_851)
  obtain ⟨E, hKc⟩ : ∃ E : va_G, ∀ (k : Nat) (q : vw_C), vwCl[k]? = some q → u_Kn s q.1 q.2.1 q.2.2 (E.1 k) (E.2 k) := by
    refine ⟨(fun k => match k with | 0 => c0 | 1 => c1 | 2 => c2 | 3 => c3 | 4 => c4 | 5 => c5 | 6 => c6 | 7 => c7 | 8 => c8 | _ => c9, fun k => match k with | 0 => iS0 | 1 => iS1 | 2 => iS2 | 3 => iS3 | 4 => iS4 | 5 => iS5 | 6 => iS6 | 7 => iS7 | 8 => iS8 | _ => iS9), ?_⟩
    intro k q hq
    match k, hq with
    | 0, hq => cases hq; exact hKn0
    | 1, hq => cases hq; exact hKn1
    | 2, hq => cases hq; exact hKn2
    | 3, hq => cases hq; exact hKn3
    | 4, hq => cases hq; exact hKn4
    | 5, hq => cases hq; exact hKn5
    | 6, hq => cases hq; exact hKn6
    | 7, hq => cases hq; exact hKn7
    | 8, hq => cases hq; exact hKn8
    | 9, hq => cases hq; exact hKn9
    | k + 10, hq => simp [vwCl] at hq
  obtain ⟨a_int, k_int, p_int, f1_int, f2_int, f3_int⟩ := Cond.arrayClass_spec (htb _ aw_int)
  obtain ⟨a_long, k_long, p_long, f1_long, f2_long, f3_long⟩ := Cond.arrayClass_spec (htb _ aw_long)
  obtain ⟨a_boolean, k_boolean, p_boolean, f1_boolean, f2_boolean, f3_boolean⟩ := Cond.arrayClass_spec (htb _ aw_boolean)
  have hAO : va_AO "KitchenDrift$House" s := va_AO.of (hts (.arrayOver (.object "KitchenDrift$House")) (List.mem_append_right _ (List.mem_append_left _ (List.mem_of_getElem? (i := 89) rfl))))
  obtain ⟨pR, aR, kR, g1, g2, g3, g4, g5⟩ := Cond.arrayOver_spec hAO
  obtain ⟨cy, hcy0, hcy1, hcy2, hcy3⟩ : ∃ cy : Nat → ClassId, cy 0 = a_int ∧ cy 1 = a_long ∧ cy 2 = a_boolean ∧ cy 3 = aR := ⟨fun k => match k with | 0 => a_int | 1 => a_long | 2 => a_boolean | _ => aR, rfl, rfl, rfl, rfl⟩
  have hK : va_K E vwCl (TY cy) s := by
    refine ⟨hKc, fun k q hk => ?_⟩
    match k, hk with
    | 0, hk => cases hk; rw [hcy0]; exact ⟨fun n z => ⟨fun k h => (by cases h), k_int, f2_int, p_int, f3_int⟩, f1_int⟩
    | 1, hk => cases hk; rw [hcy1]; exact ⟨fun n z => ⟨fun k h => (by cases h), k_long, f2_long, p_long, f3_long⟩, f1_long⟩
    | 2, hk => cases hk; rw [hcy2]; exact ⟨fun n z => ⟨fun k h => (by cases h), k_boolean, f2_boolean, p_boolean, f3_boolean⟩, f1_boolean⟩
    | 3, hk => cases hk; rw [hcy3]; exact ⟨fun n z => ⟨fun k h => (by cases h), kR, g3, pR, g4⟩, kR, pR, g3, g4, g1, g5⟩
    | k + 4, hk => simp [TY] at hk
  have hNw : Nw s := by
    refine ⟨fun q hq => ?_, hAO⟩
    have hq' : Cond.methodLinkNest q.1 q.2.1 q.2.2.1 q.2.2.2 ∈ lw_tbl := nws_lw q hq
    exact va_Nw.of rfl (hts _ hq')
  have hc : Cq (p, l, e, room_1, s, m, #[Value.ref b], below, meth, c, cL_law, 4, RL, E, cy, (fun q : Nat => s.heap.size ≤ q), lw_Z below #[Value.ref b] s, (0, 0)) cL_law 4 RL l room_1 E cy :=
    ⟨⟨hx, hb, hml, hown, htb, hK, fun _ h => h, Nat.zero_le _, Nat.zero_le _, hNw⟩, rfl, rfl, rfl, rfl, rfl, rfl, rfl⟩
  have hXK : ∀ x, Kscr (Kcs (p, l, e, room_1, s, m, #[Value.ref b], below, meth, c, cL_law, 4, RL, E, cy, (fun q : Nat => s.heap.size ≤ q), lw_Z below #[Value.ref b] s, (0, 0)) x) b L xs := fun x => ⟨hX, hbl, hbA⟩
  have hend : ∀ ws pc lv, decode cL_law pc = .ok (.ireturn, 1) → V (Kcs (p, l, e, room_1, s, m, #[Value.ref b], below, meth, c, cL_law, 4, RL, E, cy, (fun q : Nat => s.heap.size ≤ q), lw_Z below #[Value.ref b] s, (0, 0)) (91, 2084)) ws pc lv [.int 1] := by
    intro ws pc lv hd H locs ls hP hD hS hl
    refine va_forget (fun q hq => hS.2.2 q hq) ?_
    refine W.widen (k := 600000) (n := 7302250) (by show 91 ≤ 600000; decide) (by show 2084 ≤ 7302250; decide) ?_
    exact lw_ret hx hb hr hlocks hd
  have start : V (Kcs (p, l, e, room_1, s, m, #[Value.ref b], below, meth, c, cL_law, 4, RL, E, cy, (fun q : Nat => s.heap.size ≤ q), lw_Z below #[Value.ref b] s, (0, 0)) (0, 0)) [] 0 [(0, .ref b)] [] := by
    generalize (p, l, e, room_1, s, m, #[Value.ref b], below, meth, c, cL_law, 4, RL, E, cy, (fun q : Nat => s.heap.size ≤ q), lw_Z below #[Value.ref b] s, (0, 0)) = K at hc hXK hend
    refine r_new (ws := []) (ci := 8) hc 0 0 iw_X8 tyX8 tyX8_ok rfl [.null, .null, .null, .null, .null, .null, .null, .null, .null, .null, .null] nf_X8 (by decide) (by decide) mw_69 mw_70 mw_55 dL_law_0 (fun a1 => ?_)
    refine r_dup (hc.cs (1, 11) (by decide) (by decide)) dL_law_3 rfl ?_
    refine r_callNI hc 1 11 (n_X8_init q0 hq0 a1) ki_X8_init mw_71 [0] [] rfl rfl rfl rfl rfl (Nat.le_of_ble_eq_true rfl) ⟨by decide, by decide⟩ (by decide) (by decide) dL_law_4 (fun A hA => ?_)
    obtain rfl : A 0 = a1 := hA
    refine V.eqw (ws' := wK cy A q0 zP0 zD0 zY0 zT0 zO0 zS0 zU0 (fun _ => 0) (fun _ => 0) zH0 zH0) rfl ?_
    refine r_astore_n (hc.cs (67, 1096) (by decide) (by decide)) [(1, .ref (A 0)), (0, .ref b)] dL_law_7 (by decide) rfl ?_
    refine r_new (ci := 9) hc 67 1096 iw_X9 tyX9 tyX9_ok rfl [.int 0, .null, .null, .null, .null, .int 0, .null, .null, .null, .null, .null, .int 0, .null, .int 0, .null, .null, .null, .null, .null, .null, .int 0, .null, .int 0, .int 0, .null, .null, .null, .null, .null, .null] nf_X9 (by decide) (by decide) mw_850 mw_851 mw_65 dL_law_8 (fun a2 => ?_)
    refine r_dup (hc.cs (68, 1126) (by decide) (by decide)) dL_law_11 rfl ?_
    refine r_callNIL hc 68 1126 _ _ (n_X9_init w0 hw0 a2) ki_X9_init mw_852 (Nat.le_of_ble_eq_true rfl) ⟨by decide, by decide⟩ (by decide) (by decide) dL_law_12 (fun B hB => ?_)
    obtain rfl : B 0 = a2 := hB
    refine r_astore_n (hc.cs (91, 2084) (by decide) (by decide)) [(2, .ref (B 0)), (1, .ref (A 0)), (0, .ref b)] dL_law_15 (by decide) rfl ?_
    refine r_iconst (hc.cs (91, 2084) (by decide) (by decide)) (nI 0) dL_law_16 rfl ?_
    refine r_istore_n (hc.cs (91, 2084) (by decide) (by decide)) [(3, .int (nI 0)), (2, .ref (B 0)), (1, .ref (A 0)), (0, .ref b)] dL_law_17 (by decide) rfl ?_
    exact V.sub [0, 3, 2, 1] rfl (law_loop (A := A) (B := B) hL (hc.cs (91, 2084) (by decide) (by decide)) (hXK _) rfl hend Rel hsk h_rooms h_room h_door h_guest h_likes h_leave h_say h_wipe h_fault h_judge h_done h_state h_behind h_draw h_goes h_after h_crowd h_still h_round h_throng h_carried h_hinges h_best h_rests h_led h_excuses h_seen h_forget h_tastes h_drunk h_year h_image h_restore h_told (L + 6) 0 (by omega) (by omega) (q0, zP0, zD0, zY0, zT0, zO0, zS0, zU0, (fun _ => 0), (fun _ => 0), zH0, zH0) w0 h0)
  have hl := lv_entry ([.ref b]) (n := 4) (Nat.le_of_ble_eq_true rfl)
  rw [lg_entry_eq]
  generalize (lg_sl ([.ref b]) ++ List.replicate (4 - (lg_sl ([.ref b])).length) Slot.unset).toArray = ls at hl ⊢
  exact start s.heap [] ls (fun k q h => by simp at h) ⟨fun i j p q h => by simp at h, fun k q h => by simp at h⟩ va_S.rf hl
