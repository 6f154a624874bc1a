theorem room_fin {S : KDS} {z : MS} {a : AS} (hI : Inv a) (hH : Hc (K_now S) a) (hM : Mc (mcore z) a) (h3 : PadR (K_pad S) (M_signs z) (M_pad z) ∧ ImgR (K_kept S 0) (M_isKept z 0) (K_img0 S) (mimg (M_image z) 0) ∧ ImgR (K_kept S 1) (M_isKept z 1) (K_img1 S) (mimg (M_image z) 200)) {r w v : Nat} (hr : r < 6) (hw : w < 6) (hv : v ≤ 9) (h4 : w = 4 → 1 ≤ v ∧ a_in a r ≤ v) :
    ∃ q x, X8_room_J83 (K_now S) (nI r) (nI w) (nI v) = some q ∧ X9_room_J78 z (nI r) (nI w) (nI v) = some x ∧ q.1 = x.1 ∧ Rel (K_set_now S q.2) x.2 := by
  obtain ⟨i1, i2, i3, i4, i5, i6, i7, i8, i9, i10, i11⟩ := hI
  obtain ⟨d1, d2, d3, d4, d5, d6, d7, d8⟩ := hH
  obtain ⟨m1, m2, m3, m4, m5, m6, m7⟩ := hM
  have hc : ∀ o, H_measure (K_now S) (r * 6 + w) = o → X8_room_J83 (K_now S) (nI r) (nI w) (nI v) = some (o, H_set_measure (K_now S) (upd (H_measure (K_now S)) (r * 6 + w) (nI v))) := by
    intro o ho
    unfold X8_room_J83
    rw [ix6, chk_nI (by omega) (by decide), chk_nI (by omega) (by decide), nI_clamp (by omega), ltA_eq, ho]
  by_cases c4 : w < 4
  · have e1 : H_measure (K_now S) (r * 6 + w) = nI (a_th a r w) := (d4 r hr).1 w c4
    have e2 : M_things z (4 * r + w) = nI (a_th a r w) := (m4 r hr).1 w c4
    obtain ⟨z1, ez1⟩ : ∃ y, y = M_set_things z (upd (M_things z) (4 * r + w) (nI v)) := ⟨_, rfl⟩
    have k1 := mk_things z (upd (M_things z) (4 * r + w) (nI v))
    rw [← ez1] at k1
    refine ⟨_, (nI (a_th a r w), z1), hc _ e1, ?_, rfl, ?_⟩
    · unfold X9_room_J78 X9_room_J116
      rw [if_neg (show ¬ (4 : Int32) ≤ nI w from nlit (by decide) c4), if_neg (show ¬ (4 : Int32) ≤ nI w from nlit (by decide) c4), ix4', chk_nI (by omega) (by decide), chk_nI (by omega) (by decide), nI_clamp (by omega), ltA_eq, ← ez1, e2]
    · unfold Rel
      rw [k1]
      refine ⟨⟨(a_R a, a_T a, a_k a, (fun r' s' => if r' = r ∧ s' = w then v else a_th a r' s'), a_sz a, a_ch a, a_wd a, a_lk a, a_pl a, a_bs a, a_mt a, a_lf a, a_sg a, a_sr a), ⟨i1, ?_, i3, i4, i5, i6, i7, i8, i9, i10, i11⟩, ⟨d1, d2, d3, ?_, d5, d6, d7, d8⟩, ⟨m1, m2, m3, ?_, m5, m6, m7⟩⟩, h3⟩
      · intro r' hr'
        refine ⟨fun s hs => ?_, (i2 r' hr').2⟩
        show (if r' = r ∧ s = w then v else a_th a r' s) ≤ 9
        split
        · exact hv
        · exact (i2 r' hr').1 s hs
      · intro r' hr'
        refine ⟨fun s hs => ?_, ?_, ?_⟩
        · show upd (H_measure (K_now S)) (r * 6 + w) (nI v) (r' * 6 + s) = nI (if r' = r ∧ s = w then v else a_th a r' s)
          by_cases q : r' = r ∧ s = w
          · rw [if_pos q, q.1, q.2, pk_us]
          · rw [if_neg q, pk_un (by omega)]; exact (d4 r' hr').1 s hs
        · show upd (H_measure (K_now S)) (r * 6 + w) (nI v) (r' * 6 + 4) = _
          rw [pk_un (by omega)]; exact (d4 r' hr').2.1
        · show upd (H_measure (K_now S)) (r * 6 + w) (nI v) (r' * 6 + 5) = _
          rw [pk_un (by omega)]; exact (d4 r' hr').2.2
      · intro r' hr'
        refine ⟨fun s hs => ?_, (m4 r' hr').2⟩
        show upd (M_things z) (4 * r + w) (nI v) (4 * r' + s) = nI (if r' = r ∧ s = w then v else a_th a r' s)
        by_cases q : r' = r ∧ s = w
        · rw [if_pos q, q.1, q.2, pk_us]
        · rw [if_neg q, pk_un (by omega)]; exact (m4 r' hr').1 s hs
  · have n4 : (4 : Int32) ≤ nI w := nI_le (a := 4) (by omega) (by omega)
    by_cases c5 : w = 4
    · subst c5
      have e1 : H_measure (K_now S) (r * 6 + 4) = nI (a_sz a r) := (d4 r hr).2.1
      have e2 : M_size z r = nI (a_sz a r) := (m4 r hr).2.1
      obtain ⟨z1, ez1⟩ : ∃ y, y = M_set_size z (upd (M_size z) r (nI v)) := ⟨_, rfl⟩
      have k1 := mk_size z (upd (M_size z) r (nI v))
      rw [← ez1] at k1
      refine ⟨_, (nI (a_sz a r), z1), hc _ e1, ?_, rfl, ?_⟩
      · unfold X9_room_J78 X9_room_J116
        rw [if_pos n4, if_pos n4, if_pos (show nI 4 = (4 : Int32) from rfl), if_pos (show nI 4 = (4 : Int32) from rfl), chk_nI hr (by decide), chk_nI hr (by decide), nI_clamp (by omega), ltA_eq, ← ez1, e2]
      · unfold Rel
        rw [k1]
        refine ⟨⟨(a_R a, a_T a, a_k a, a_th a, (fun r' => if r' = r then v else a_sz a r'), a_ch a, a_wd a, a_lk a, a_pl a, a_bs a, a_mt a, a_lf a, a_sg a, a_sr a), ⟨i1, ?_, i3, i4, i5, i6, i7, i8, i9, ?_, i11⟩, ⟨d1, d2, d3, ?_, d5, d6, d7, d8⟩, ⟨m1, m2, m3, ?_, m5, m6, m7⟩⟩, h3⟩
        · intro r' hr'
          refine ⟨(i2 r' hr').1, ?_, ?_, (i2 r' hr').2.2.2⟩
          · show 1 ≤ (if r' = r then v else a_sz a r')
            split
            · exact (h4 rfl).1
            · exact (i2 r' hr').2.1
          · show (if r' = r then v else a_sz a r') ≤ 9
            split
            · exact hv
            · exact (i2 r' hr').2.2.1
        · intro r' hr'
          show a_in a r' ≤ (if r' = r then v else a_sz a r')
          by_cases q : r' = r
          · rw [if_pos q, q]; exact (h4 rfl).2
          · rw [if_neg q]; exact i10 r' hr'
        · intro r' hr'
          refine ⟨fun s hs => ?_, ?_, ?_⟩
          · show upd (H_measure (K_now S)) (r * 6 + 4) (nI v) (r' * 6 + s) = _
            rw [pk_un (by omega)]; exact (d4 r' hr').1 s hs
          · show upd (H_measure (K_now S)) (r * 6 + 4) (nI v) (r' * 6 + 4) = nI (if r' = r then v else a_sz a r')
            by_cases q : r' = r
            · rw [if_pos q, q, pk_us]
            · rw [if_neg q, pk_un (by omega)]; exact (d4 r' hr').2.1
          · show upd (H_measure (K_now S)) (r * 6 + 4) (nI v) (r' * 6 + 5) = _
            rw [pk_un (by omega)]; exact (d4 r' hr').2.2
        · intro r' hr'
          refine ⟨(m4 r' hr').1, ?_, (m4 r' hr').2.2⟩
          show upd (M_size z) r (nI v) r' = nI (if r' = r then v else a_sz a r')
          by_cases q : r' = r
          · rw [if_pos q, q, pk_us]
          · rw [if_neg q, pk_un q]; exact (m4 r' hr').2.1
    · have c5' : w = 5 := by omega
      subst c5'
      have e1 : H_measure (K_now S) (r * 6 + 5) = nI (a_ch a r) := (d4 r hr).2.2
      have e2 : M_chairs z r = nI (a_ch a r) := (m4 r hr).2.2
      obtain ⟨z1, ez1⟩ : ∃ y, y = M_set_chairs z (upd (M_chairs z) r (nI v)) := ⟨_, rfl⟩
      have k1 := mk_chairs z (upd (M_chairs z) r (nI v))
      rw [← ez1] at k1
      refine ⟨_, (nI (a_ch a r), z1), hc _ e1, ?_, rfl, ?_⟩
      · unfold X9_room_J78 X9_room_J116
        rw [if_pos n4, if_neg (show ¬ nI 5 = (4 : Int32) by decide), chk_nI hr (by decide), nI_clamp (by omega), if_pos n4, if_neg (show ¬ nI 5 = (4 : Int32) by decide), chk_nI hr (by decide), ltA_eq, ← ez1, e2]
      · unfold Rel
        rw [k1]
        refine ⟨⟨(a_R a, a_T a, a_k a, a_th a, a_sz a, (fun r' => if r' = r then v else a_ch a r'), a_wd a, a_lk a, a_pl a, a_bs a, a_mt a, a_lf a, a_sg a, a_sr a), ⟨i1, ?_, i3, i4, i5, i6, i7, i8, i9, i10, i11⟩, ⟨d1, d2, d3, ?_, d5, d6, d7, d8⟩, ⟨m1, m2, m3, ?_, m5, m6, m7⟩⟩, h3⟩
        · intro r' hr'
          refine ⟨(i2 r' hr').1, (i2 r' hr').2.1, (i2 r' hr').2.2.1, ?_⟩
          show (if r' = r then v else a_ch a r') ≤ 9
          split
          · exact hv
          · exact (i2 r' hr').2.2.2
        · intro r' hr'
          refine ⟨fun s hs => ?_, ?_, ?_⟩
          · show upd (H_measure (K_now S)) (r * 6 + 5) (nI v) (r' * 6 + s) = _
            rw [pk_un (by omega)]; exact (d4 r' hr').1 s hs
          · show upd (H_measure (K_now S)) (r * 6 + 5) (nI v) (r' * 6 + 4) = _
            rw [pk_un (by omega)]; exact (d4 r' hr').2.1
          · show upd (H_measure (K_now S)) (r * 6 + 5) (nI v) (r' * 6 + 5) = nI (if r' = r then v else a_ch a r')
            by_cases q : r' = r
            · rw [if_pos q, q, pk_us]
            · rw [if_neg q, pk_un (by omega)]; exact (d4 r' hr').2.2
        · intro r' hr'
          refine ⟨(m4 r' hr').1, (m4 r' hr').2.1, ?_⟩
          show upd (M_chairs z) r (nI v) r' = nI (if r' = r then v else a_ch a r')
          by_cases q : r' = r
          · rw [if_pos q, q, pk_us]
          · rw [if_neg q, pk_un q]; exact (m4 r' hr').2.2
theorem cnt_in {a : AS} {r : Nat} : cnt (fun j => ((a_is a j && a_pl a j == r) && !(decide (nI j = (-6 : Int32)))) && (decide ((-1 : Int32) < 0) || decide (nI (a_bs a j) = (-1 : Int32)))) 8 = a_in a r := by
  unfold a_in
  rw [cn8_cnt]
  refine cnt_congr (fun j hj => ?_)
  have e : decide (nI j = (-6 : Int32)) = false := decide_eq_false (fun q => by have := nI_pos (n := j) (by omega); rw [q] at this; exact this (by decide))
  rw [e, show decide ((-1 : Int32) < 0) = true from rfl]
  simp
theorem cnt_sit {a : AS} (hI : Inv a) {r : Nat} : cnt (fun j => ((a_is a j && a_pl a j == r) && !(decide (nI j = (-6 : Int32)))) && (decide ((2 : Int32) < 0) || decide (nI (a_bs a j) = (2 : Int32)))) 8 = a_sit a r := by
  unfold a_sit
  refine cnt_congr (fun j hj => ?_)
  have b3 := bs_lt hI hj
  have e : decide (nI j = (-6 : Int32)) = false := decide_eq_false (fun q => by have := nI_pos (n := j) (by omega); rw [q] at this; exact this (by decide))
  have e2 : decide (nI (a_bs a j) = (2 : Int32)) = (a_bs a j == 2) := by
    rw [Bool.eq_iff_iff, decide_eq_true_eq, show (2 : Int32) = nI 2 from rfl, nI_eq (by omega) (by decide)]; simp
  rw [e, e2, show decide ((2 : Int32) < 0) = false from rfl]
  simp
theorem sim_room : Sim_room Rel := by
  intro S z x1 x2 x3 h
  obtain ⟨⟨a, hI, hH, hM⟩, h3⟩ := id h
  have hH : Hc (K_now S) a := hH
  have hM : Mc (mcore z) a := hM
  have hR6 := hI.1.2.1
  have out : ∀ v : Int32, f_X8_room (K_now S) x1 x2 x3 = some (v, K_now S) → f_X9_room z x1 x2 x3 = some (v, z) → ∃ q w, f_X8_room (K_now S) x1 x2 x3 = some q ∧ f_X9_room z x1 x2 x3 = some w ∧ q.1 = w.1 ∧ Rel (K_set_now S q.2) w.2 := fun v e1 e2 => ⟨_, _, e1, e2, rfl, h⟩
  rcases rm_cases hI hH hM x1 with ⟨r, hr, rfl, t1, t2⟩ | ⟨-, t1, t2⟩
  · rcases num_cases x2 (n := 6) (by decide) with ⟨w, hw, rfl⟩ | hx2
    · have b2 : f_X9_in (nI w) 0 5 = some 1 := in_nI (n := 6) hw (by decide)
      obtain ⟨lo, hlo, hlo4⟩ : ∃ lo : Nat, (lo = if w = 4 then 1 else 0) ∧ lo ≤ 1 := ⟨_, rfl, by split <;> omega⟩
      have g1 : f_X8_room (K_now S) (nI r) (nI w) x3 = X8_room_J34 (K_now S) (nI r) (nI w) x3 (nI lo) x3 := by
        unfold f_X8_room
        rw [t1, Option.bind_some, if_neg (show ¬ (1 : Int32) = 0 by decide), if_neg (nI_pos (by omega)), if_neg (show ¬ (6 : Int32) ≤ nI w from nlit (by decide) hw)]
        by_cases c : w = 4
        · rw [if_pos (show nI w = (4 : Int32) by rw [c]; rfl), hlo, if_pos c]; rfl
        · rw [if_neg (show ¬ nI w = (4 : Int32) from fun q => c ((nI_eq (by omega) (b := 4) (by decide)).mp q)), hlo, if_neg c]; rfl
      have g2 : f_X9_room z (nI r) (nI w) x3 = X9_room_J30 z (nI r) (nI w) x3 (nI lo) x3 := by
        unfold f_X9_room
        rw [t2, Option.bind_some, if_neg (show ¬ (1 : Int32) = 0 by decide), b2, Option.bind_some, if_neg (show ¬ (1 : Int32) = 0 by decide)]
        by_cases c : w = 4
        · rw [if_pos (show nI w = (4 : Int32) by rw [c]; rfl), hlo, if_pos c]; rfl
        · rw [if_neg (show ¬ nI w = (4 : Int32) from fun q => c ((nI_eq (by omega) (b := 4) (by decide)).mp q)), hlo, if_neg c]; rfl
      by_cases c1 : x3 < nI lo
      · refine out (-2) ?_ ?_
        · rw [g1]; unfold X8_room_J34; rw [if_pos c1]
        · rw [g2]; unfold X9_room_J30; rw [in_0 (Or.inl c1), Option.bind_some, if_pos rfl]
      · by_cases c9 : x3 ≤ 9
        · obtain ⟨v, hv, rfl⟩ := nI_of (x := x3) (fun q => c1 (Int32.lt_of_lt_of_le q (nI_pos' (by omega))))
          have hv9 : v ≤ 9 := (nI_leI hv (b := 9) (by decide)).mp c9
          have hvl : lo ≤ v := by
            rcases Nat.lt_or_ge v lo with q | q
            · exact absurd (nI_lt q (by omega)) c1
            · exact q
          have ein : a_in a r ≤ 8 := cnt_le _ 8
          have esi : a_sit a r ≤ 8 := cnt_le _ 8
          have k1 : f_X8_room (K_now S) (nI r) (nI w) (nI v) = if w = 4 ∧ v < a_in a r ∨ w = 5 ∧ v < a_sit a r then some (-3, K_now S) else X8_room_J83 (K_now S) (nI r) (nI w) (nI v) := by
            rw [g1]; unfold X8_room_J34 X8_room_J63
            rw [if_neg c1, if_pos c9, count_spec hI hH (by omega), sitters_spec hI hH (by omega), Option.bind_some, Option.bind_some]
            rcases (show w < 4 ∨ w = 4 ∨ w = 5 by omega) with c | c | c
            · rw [if_neg (show ¬ nI w = (4 : Int32) from fun q => by have := (nI_eq (by omega) (b := 4) (by decide)).mp q; omega), if_neg (show ¬ nI w = (5 : Int32) from fun q => by have := (nI_eq (by omega) (b := 5) (by decide)).mp q; omega), if_neg (by omega)]
            · subst c
              rw [if_pos (show nI 4 = (4 : Int32) from rfl), if_neg (show ¬ nI 4 = (5 : Int32) by decide)]
              by_cases q : v < a_in a r
              · rw [if_pos (nI_lt q (by omega)), if_pos (Or.inl ⟨rfl, q⟩)]
              · rw [if_neg (nI_nlt (by omega) hv), if_neg (by omega)]
            · subst c
              rw [if_neg (show ¬ nI 5 = (4 : Int32) by decide), if_pos (show nI 5 = (5 : Int32) from rfl)]
              by_cases q : v < a_sit a r
              · rw [if_neg (nI_ge q (by omega)), if_pos (Or.inr ⟨rfl, q⟩)]
              · rw [if_pos (nI_le (by omega) hv), if_neg (by omega)]
          have k2 : f_X9_room z (nI r) (nI w) (nI v) = if w = 4 ∧ v < a_in a r ∨ w = 5 ∧ v < a_sit a r then some (-3, z) else X9_room_J78 z (nI r) (nI w) (nI v) := by
            rw [g2]; unfold X9_room_J30 X9_room_J58
            rw [in_1 c1 (Int32.not_lt.mpr c9), Option.bind_some, if_neg (show ¬ (1 : Int32) = 0 by decide), inRoom_spec hI hM (by omega), inRoom_spec hI hM (by omega), cnt_in, cnt_sit hI, Option.bind_some, Option.bind_some]
            rcases (show w < 4 ∨ w = 4 ∨ w = 5 by omega) with c | c | c
            · rw [if_neg (show ¬ nI w = (4 : Int32) from fun q => by have := (nI_eq (by omega) (b := 4) (by decide)).mp q; omega), if_neg (show ¬ nI w = (5 : Int32) from fun q => by have := (nI_eq (by omega) (b := 5) (by decide)).mp q; omega), if_neg (by omega)]
            · subst c
              rw [if_pos (show nI 4 = (4 : Int32) from rfl), if_neg (show ¬ nI 4 = (5 : Int32) by decide)]
              by_cases q : v < a_in a r
              · rw [if_pos (nI_lt q (by omega)), if_pos (Or.inl ⟨rfl, q⟩)]
              · rw [if_neg (nI_nlt (by omega) hv), if_neg (by omega)]
            · subst c
              rw [if_neg (show ¬ nI 5 = (4 : Int32) by decide), if_pos (show nI 5 = (5 : Int32) from rfl)]
              by_cases q : v < a_sit a r
              · rw [if_neg (nI_ge q (by omega)), if_pos (Or.inr ⟨rfl, q⟩)]
              · rw [if_pos (nI_le (by omega) hv), if_neg (by omega)]
          by_cases q : w = 4 ∧ v < a_in a r ∨ w = 5 ∧ v < a_sit a r
          · exact out (-3) (by rw [k1, if_pos q]) (by rw [k2, if_pos q])
          · rw [k1, k2, if_neg q, if_neg q]
            exact room_fin hI hH hM h3 (by omega) hw hv9 (fun c => ⟨by rw [if_pos c] at hlo; omega, by omega⟩)
        · refine out (-2) ?_ ?_
          · rw [g1]; unfold X8_room_J34; rw [if_neg c1, if_neg c9]
          · rw [g2]; unfold X9_room_J30; rw [in_0 (Or.inr (Int32.not_le.mp c9)), Option.bind_some, if_pos rfl]
    · refine out (-2) ?_ ?_
      · unfold f_X8_room
        rw [t1, Option.bind_some, if_neg (show ¬ (1 : Int32) = 0 by decide)]
        by_cases c : x2 < 0
        · rw [if_pos c]
        · rw [if_neg c, if_pos (show (6 : Int32) ≤ x2 from hx2.resolve_left c)]
      · unfold f_X9_room; rw [t2, Option.bind_some, if_neg (show ¬ (1 : Int32) = 0 by decide), show f_X9_in x2 0 5 = some 0 from in_no (n := 6) (by decide) (by decide) hx2, Option.bind_some, if_pos rfl]
  · refine out (-1) ?_ ?_
    · unfold f_X8_room; rw [t1, Option.bind_some, if_pos rfl]
    · unfold f_X9_room; rw [t2, Option.bind_some, if_pos rfl]
