set_option maxHeartbeats 4000000 in
set_option maxRecDepth 100000 in
theorem c_L_hymn (l : Launch) (hst : l.stackTraces = false) (D : va_G) (cI cJ : ClassId) (h : Nat) (a : Nat → Nat) (o : Nat) (u : cp_M) (f9 : Nat → Int64) (ow : Int32) (se : Int32) (li : Int32) (re : Int32) (hN1 : cp_cn u 1 16) : ∀ sz : Nat, Met l yL_hymn wsL_hymn ({ frames := 8, cells := 1, slots := 6, locals := 126 } : Room) (va_Pc [.ref h, .int ow, .int se, .int li, .int re, .ref o] (cp_preZ D [(cI, .int), (cJ, .long)] (cp_wX cI h a u ++ cp_wO cJ o f9) sz)) (va_Qi (fun (k : Int32) (v : cp_M × (Nat → Int64)) => (k = 0 ∧ ∃ (r : Int32) (u1 : cp_M), (cp_bw ow 0 4 ∧ (cp_bw se 1 15 ∧ cp_bw li 1 30 ∧ cp_bw re 0 ((1 <<< (li &&& 31)) - 1)) ∧ ¬ (16 : Int32) ≤ u 14 1 ∧ r = u 14 1 ∧ ∃ L, 1 ≤ L ∧ L ≤ 30 ∧ li = nI L ∧ u1 = cp_addH u ow se li re (cp_tn (cp_q re) L L 0 0)) ∧ v.1 = u1 ∧ v.2 0 = r.toInt64) ∨ (v.1 = u ∧ ∃ E, ((E = R_iob ∧ ¬ cp_bw ow 0 4) ∨ (E = R_iae ∧ cp_bw ow 0 4 ∧ ¬ (cp_bw se 1 15 ∧ cp_bw li 1 30 ∧ cp_bw re 0 ((1 <<< (li &&& 31)) - 1))) ∨ (E = R_ise ∧ cp_bw ow 0 4 ∧ (cp_bw se 1 15 ∧ cp_bw li 1 30 ∧ cp_bw re 0 ((1 <<< (li &&& 31)) - 1)) ∧ ¬ ¬ (16 : Int32) ≤ u 14 1)) ∧ ((E = R_iob ∧ k = 1) ∨ (E = R_iae ∧ k = 2) ∨ (E = R_ise ∧ k = 3)))) (cp_B D [(cI, .int), (cJ, .long)] cI cJ h a o (va_A (cp_wX cI h a u ++ cp_wO cJ o f9) sz)) (va_A (cp_wX cI h a u ++ cp_wO cJ o f9) sz)) 1 6 (va_A (cp_wX cI h a u ++ cp_wO cJ o f9) sz) := by
  refine cp_MetL (Qk := fun A => va_Qi (fun (k : Int32) (v : cp_M × (Nat → Int64)) => (k = 0 ∧ ∃ (r : Int32) (u1 : cp_M), (cp_bw ow 0 4 ∧ (cp_bw se 1 15 ∧ cp_bw li 1 30 ∧ cp_bw re 0 ((1 <<< (li &&& 31)) - 1)) ∧ ¬ (16 : Int32) ≤ u 14 1 ∧ r = u 14 1 ∧ ∃ L, 1 ≤ L ∧ L ≤ 30 ∧ li = nI L ∧ u1 = cp_addH u ow se li re (cp_tn (cp_q re) L L 0 0)) ∧ v.1 = u1 ∧ v.2 0 = r.toInt64) ∨ (v.1 = u ∧ ∃ E, ((E = R_iob ∧ ¬ cp_bw ow 0 4) ∨ (E = R_iae ∧ cp_bw ow 0 4 ∧ ¬ (cp_bw se 1 15 ∧ cp_bw li 1 30 ∧ cp_bw re 0 ((1 <<< (li &&& 31)) - 1))) ∨ (E = R_ise ∧ cp_bw ow 0 4 ∧ (cp_bw se 1 15 ∧ cp_bw li 1 30 ∧ cp_bw re 0 ((1 <<< (li &&& 31)) - 1)) ∧ ¬ ¬ (16 : Int32) ≤ u 14 1)) ∧ ((E = R_iob ∧ k = 1) ∨ (E = R_iae ∧ k = 2) ∨ (E = R_ise ∧ k = 3)))) (cp_B D [(cI, .int), (cJ, .long)] cI cJ h a o A) A) (by decide) rfl (Nat.le_of_ble_eq_true rfl) ?_
  intro p e s m args below meth c A hC hA hK hI hZ htab ls hl
  obtain ⟨hx, hb, hml, hown, hts, hr, hlocks⟩ := hC
  have hown : s.vm.findClass RL = some m.cls := hown
  have hl : lv_has ls 7 [(0, .ref h), (1, .int ow), (2, .int se), (3, .int li), (4, .int re), (5, .ref o)] := hl
  refine lv_aload hx hb dL_hymn_0 (lv_at hl 5 rfl) ?_
  refine lv_iconst (v := 0) hx hb dL_hymn_2 (by decide) ?_
  refine lv_aload_n hx hb dL_hymn_3 rfl (lv_at hl 0 rfl) ?_
  refine lv_iload_n hx hb dL_hymn_4 rfl (lv_at hl 1 rfl) ?_
  refine lv_iload_n hx hb dL_hymn_5 rfl (lv_at hl 2 rfl) ?_
  refine lv_iload_n hx hb dL_hymn_6 rfl (lv_at hl 3 rfl) ?_
  refine lv_iload hx hb dL_hymn_7 (lv_at hl 4 rfl) ?_
  refine cp_cXi (wc := cp_wX cI h a) (u := u) (wr := cp_wO cJ o f9) (As := [.int ow, .int se, .int li, .int re]) (rest := [.int 0, .ref o]) ⟨hx, hb, hml, hown, hts⟩ (c_X0_hymn l hst D cI h a u ow se li re hN1) (cwV 4 hts gL_hymn_X0_hymn rfl rfl rfl (by decide +kernel) ⟨Nat.le_of_ble_eq_true rfl, Nat.le_of_ble_eq_true rfl⟩) (hK.sub [0] rfl) hI hA hZ ⟨_, cp_hX _ _ _ _⟩ rfl rfl rfl hl.1 rfl (Nat.le_of_ble_eq_true rfl) dL_hymn_9 ⟨Nat.le_of_ble_eq_true rfl, Nat.le_of_ble_eq_true rfl⟩ (fun E ce q9 H locs hE hI h1 h2 h3 => ?_) (fun r u1 H locs hp hI => ?_)
  · rcases hE with ⟨rfl, hE⟩ | ⟨rfl, hE⟩ | ⟨rfl, hE⟩
    · refine vx_catch hown [] ⟨0, 14, 17, 13⟩ [⟨0, 14, 21, 15⟩, ⟨0, 14, 25, 17⟩] (by rw [htab]; rfl) (fun _ hz => absurd hz List.not_mem_nil) (by decide) (by decide) (hts (.classLink RL 13 R_iob) (by decide +kernel)) (va_Nw.use rfl hZ.2.2.1) h1 h2 h3 ?_
      refine lv_astore (lv' := [(6, .ref q9), (0, .ref h), (1, .int ow), (2, .int se), (3, .int li), (4, .int re), (5, .ref o)]) hx hb dL_hymn_17 hl (by decide) rfl (fun ls hl => ?_)
      refine lv_iconst (v := 1) hx hb dL_hymn_19 (by decide) ?_
      exact W.iret (v := 1) hx hb hr (fun t ht hW => ⟨⟨1, (u, f9), rfl, Or.inr ⟨rfl, R_iob, Or.inl ⟨rfl, hE⟩, Or.inl ⟨rfl, rfl⟩⟩, by rw [ht]; exact hI.1, va_K.moved hW.alike hK, hI.2.1⟩, hI.2.2.F ht⟩) hI.2.2.2.2 dL_hymn_20 hlocks
    · refine vx_catch hown [⟨0, 14, 17, 13⟩] ⟨0, 14, 21, 15⟩ [⟨0, 14, 25, 17⟩] (by rw [htab]; rfl) (List.forall_mem_cons.mpr ⟨Or.inr ⟨by decide, R_iob, hts (.classLink RL 13 R_iob) (by decide +kernel), hZ.2.2.2.2.2.1⟩, (fun _ hz => absurd hz List.not_mem_nil)⟩) (by decide) (by decide) (hts (.classLink RL 15 R_iae) (by decide +kernel)) (va_Nw.use rfl hZ.2.2.2.1) h1 h2 h3 ?_
      refine lv_astore (lv' := [(6, .ref q9), (0, .ref h), (1, .int ow), (2, .int se), (3, .int li), (4, .int re), (5, .ref o)]) hx hb dL_hymn_21 hl (by decide) rfl (fun ls hl => ?_)
      refine lv_iconst (v := 2) hx hb dL_hymn_23 (by decide) ?_
      exact W.iret (v := 2) hx hb hr (fun t ht hW => ⟨⟨2, (u, f9), rfl, Or.inr ⟨rfl, R_iae, Or.inr (Or.inl ⟨rfl, hE⟩), Or.inr (Or.inl ⟨rfl, rfl⟩)⟩, by rw [ht]; exact hI.1, va_K.moved hW.alike hK, hI.2.1⟩, hI.2.2.F ht⟩) hI.2.2.2.2 dL_hymn_24 hlocks
    · refine vx_catch hown [⟨0, 14, 17, 13⟩, ⟨0, 14, 21, 15⟩] ⟨0, 14, 25, 17⟩ [] (by rw [htab]; rfl) (List.forall_mem_cons.mpr ⟨Or.inr ⟨by decide, R_iob, hts (.classLink RL 13 R_iob) (by decide +kernel), hZ.2.2.2.2.2.2.1⟩, (List.forall_mem_cons.mpr ⟨Or.inr ⟨by decide, R_iae, hts (.classLink RL 15 R_iae) (by decide +kernel), hZ.2.2.2.2.2.2.2.1⟩, (fun _ hz => absurd hz List.not_mem_nil)⟩)⟩) (by decide) (by decide) (hts (.classLink RL 17 R_ise) (by decide +kernel)) (va_Nw.use rfl hZ.2.2.2.2.1) h1 h2 h3 ?_
      refine lv_astore (lv' := [(6, .ref q9), (0, .ref h), (1, .int ow), (2, .int se), (3, .int li), (4, .int re), (5, .ref o)]) hx hb dL_hymn_25 hl (by decide) rfl (fun ls hl => ?_)
      refine lv_iconst (v := 3) hx hb dL_hymn_27 (by decide) ?_
      exact W.iret (v := 3) hx hb hr (fun t ht hW => ⟨⟨3, (u, f9), rfl, Or.inr ⟨rfl, R_ise, Or.inr (Or.inr ⟨rfl, hE⟩), Or.inr (Or.inr ⟨rfl, rfl⟩)⟩, by rw [ht]; exact hI.1, va_K.moved hW.alike hK, hI.2.1⟩, hI.2.2.F ht⟩) hI.2.2.2.2 dL_hymn_28 hlocks
  · refine lv_i2l (v := r.toInt64) hx hb dL_hymn_12 rfl ?_
    refine va_last (D := D) hx hb hK hI.1 hI.2.1 hI.2.2 15 1 (cA := cJ) (n := 1) (f := f9) rfl rfl (vp_in_nI (n := 0) (by decide) (by decide)) dL_hymn_13 (fun H locs hP hD hS => ?_)
    have hI : cp_I D (cp_wX cI h a u1 ++ cp_wO cJ o (vp_updL f9 0 r.toInt64)) A s.heap H locs := ⟨hP, hD, hS⟩
    refine lv_goto (tgt := 29) hx hb dL_hymn_14 (by decide) ?_
    refine lv_iconst (v := 0) hx hb dL_hymn_29 (by decide) ?_
    exact W.iret (v := 0) hx hb hr (fun t ht hW => ⟨⟨0, (u1, vp_updL f9 0 r.toInt64), rfl, Or.inl ⟨rfl, r, u1, hp, rfl, rfl⟩, by rw [ht]; exact hI.1, va_K.moved hW.alike hK, hI.2.1⟩, hI.2.2.F ht⟩) hI.2.2.2.2 dL_hymn_30 hlocks
set_option maxHeartbeats 4000000 in
set_option maxRecDepth 100000 in
theorem c_L_pages (l : Launch) (hst : l.stackTraces = false) (D : va_G) (cI cJ : ClassId) (h : Nat) (a : Nat → Nat) (o : Nat) (u : cp_M) (f9 : Nat → Int64) (x : Int32) (hN1 : cp_cn u 1 16) : ∀ sz : Nat, Met l yL_pages wsL_pages ({ frames := 8, cells := 1, slots := 6, locals := 122 } : Room) (va_Pc [.ref h, .int x, .ref o] (cp_preZ D [(cI, .int), (cJ, .long)] (cp_wX cI h a u ++ cp_wO cJ o f9) sz)) (va_Qi (fun (k : Int32) (v : cp_M × (Nat → Int64)) => (k = 0 ∧ ∃ (r : Int32) (u1 : cp_M), (∃ g, g < cp_n u 1 ∧ x = nI g ∧ r = cp_swar (u 4 g) + 1 ∧ u1 = u) ∧ v.1 = u1 ∧ v.2 0 = r.toInt64) ∨ (v.1 = u ∧ ∃ E, (E = R_iob ∧ ¬ (cp_bw x 0 (u 14 1 - 1))) ∧ ((E = R_iob ∧ k = 1)))) (cp_B D [(cI, .int), (cJ, .long)] cI cJ h a o (va_A (cp_wX cI h a u ++ cp_wO cJ o f9) sz)) (va_A (cp_wX cI h a u ++ cp_wO cJ o f9) sz)) 1 6 (va_A (cp_wX cI h a u ++ cp_wO cJ o f9) sz) := by
  refine cp_MetL (Qk := fun A => va_Qi (fun (k : Int32) (v : cp_M × (Nat → Int64)) => (k = 0 ∧ ∃ (r : Int32) (u1 : cp_M), (∃ g, g < cp_n u 1 ∧ x = nI g ∧ r = cp_swar (u 4 g) + 1 ∧ u1 = u) ∧ v.1 = u1 ∧ v.2 0 = r.toInt64) ∨ (v.1 = u ∧ ∃ E, (E = R_iob ∧ ¬ (cp_bw x 0 (u 14 1 - 1))) ∧ ((E = R_iob ∧ k = 1)))) (cp_B D [(cI, .int), (cJ, .long)] cI cJ h a o A) A) (by decide) rfl (Nat.le_of_ble_eq_true rfl) ?_
  intro p e s m args below meth c A hC hA hK hI hZ htab ls hl
  obtain ⟨hx, hb, hml, hown, hts, hr, hlocks⟩ := hC
  have hown : s.vm.findClass RL = some m.cls := hown
  have hl : lv_has ls 4 [(0, .ref h), (1, .int x), (2, .ref o)] := hl
  refine lv_aload_n hx hb dL_pages_0 rfl (lv_at hl 2 rfl) ?_
  refine lv_iconst (v := 0) hx hb dL_pages_1 (by decide) ?_
  refine lv_aload_n hx hb dL_pages_2 rfl (lv_at hl 0 rfl) ?_
  refine lv_iload_n hx hb dL_pages_3 rfl (lv_at hl 1 rfl) ?_
  refine cp_cXi (wc := cp_wX cI h a) (u := u) (wr := cp_wO cJ o f9) (As := [.int x]) (rest := [.int 0, .ref o]) ⟨hx, hb, hml, hown, hts⟩ (c_X0_pages l hst D cI h a u x hN1) (cwV 1 hts gL_pages_X0_pages rfl rfl rfl (by decide +kernel) ⟨Nat.le_of_ble_eq_true rfl, Nat.le_of_ble_eq_true rfl⟩) (hK.sub [0] rfl) hI hA hZ ⟨_, cp_hX _ _ _ _⟩ rfl rfl rfl hl.1 rfl (Nat.le_of_ble_eq_true rfl) dL_pages_4 ⟨Nat.le_of_ble_eq_true rfl, Nat.le_of_ble_eq_true rfl⟩ (fun E ce q9 H locs hE hI h1 h2 h3 => ?_) (fun r u1 H locs hp hI => ?_)
  · rcases hE with ⟨rfl, hE⟩
    · refine vx_catch hown [] ⟨0, 9, 12, 13⟩ [] (by rw [htab]; rfl) (fun _ hz => absurd hz List.not_mem_nil) (by decide) (by decide) (hts (.classLink RL 13 R_iob) (by decide +kernel)) (va_Nw.use rfl hZ.2.2.1) h1 h2 h3 ?_
      refine lv_astore_n (lv' := [(3, .ref q9), (0, .ref h), (1, .int x), (2, .ref o)]) hx hb dL_pages_12 rfl hl (by decide) rfl (fun ls hl => ?_)
      refine lv_iconst (v := 1) hx hb dL_pages_13 (by decide) ?_
      exact W.iret (v := 1) hx hb hr (fun t ht hW => ⟨⟨1, (u, f9), rfl, Or.inr ⟨rfl, R_iob, ⟨rfl, hE⟩, ⟨rfl, rfl⟩⟩, by rw [ht]; exact hI.1, va_K.moved hW.alike hK, hI.2.1⟩, hI.2.2.F ht⟩) hI.2.2.2.2 dL_pages_14 hlocks
  · refine lv_i2l (v := r.toInt64) hx hb dL_pages_7 rfl ?_
    refine va_last (D := D) hx hb hK hI.1 hI.2.1 hI.2.2 15 1 (cA := cJ) (n := 1) (f := f9) rfl rfl (vp_in_nI (n := 0) (by decide) (by decide)) dL_pages_8 (fun H locs hP hD hS => ?_)
    have hI : cp_I D (cp_wX cI h a u1 ++ cp_wO cJ o (vp_updL f9 0 r.toInt64)) A s.heap H locs := ⟨hP, hD, hS⟩
    refine lv_goto (tgt := 15) hx hb dL_pages_9 (by decide) ?_
    refine lv_iconst (v := 0) hx hb dL_pages_15 (by decide) ?_
    exact W.iret (v := 0) hx hb hr (fun t ht hW => ⟨⟨0, (u1, vp_updL f9 0 r.toInt64), rfl, Or.inl ⟨rfl, r, u1, hp, rfl, rfl⟩, by rw [ht]; exact hI.1, va_K.moved hW.alike hK, hI.2.1⟩, hI.2.2.F ht⟩) hI.2.2.2.2 dL_pages_16 hlocks
set_option maxHeartbeats 4000000 in
set_option maxRecDepth 100000 in
theorem c_L_pageOf (l : Launch) (hst : l.stackTraces = false) (D : va_G) (cI cJ : ClassId) (h : Nat) (a : Nat → Nat) (o : Nat) (u : cp_M) (f9 : Nat → Int64) (x : Int32) (ln : Int32) (hN1 : cp_cn u 1 16) : ∀ sz : Nat, Met l yL_pageOf wsL_pageOf ({ frames := 8, cells := 1, slots := 6, locals := 124 } : Room) (va_Pc [.ref h, .int x, .int ln, .ref o] (cp_preZ D [(cI, .int), (cJ, .long)] (cp_wX cI h a u ++ cp_wO cJ o f9) sz)) (va_Qi (fun (k : Int32) (v : cp_M × (Nat → Int64)) => (k = 0 ∧ ∃ (r : Int32) (u1 : cp_M), (∃ g, g < cp_n u 1 ∧ x = nI g ∧ cp_bw ln 0 (u 2 g - 1) ∧ r = cp_swar (u 4 g &&& ((1 <<< (ln &&& 31)) - 1)) ∧ u1 = u) ∧ v.1 = u1 ∧ v.2 0 = r.toInt64) ∨ (v.1 = u ∧ ∃ E, (E = R_iob ∧ (¬ (cp_bw x 0 (u 14 1 - 1)) ∨ ∃ g, g < cp_n u 1 ∧ x = nI g ∧ ¬ cp_bw ln 0 (u 2 g - 1))) ∧ ((E = R_iob ∧ k = 1)))) (cp_B D [(cI, .int), (cJ, .long)] cI cJ h a o (va_A (cp_wX cI h a u ++ cp_wO cJ o f9) sz)) (va_A (cp_wX cI h a u ++ cp_wO cJ o f9) sz)) 1 6 (va_A (cp_wX cI h a u ++ cp_wO cJ o f9) sz) := by
  refine cp_MetL (Qk := fun A => va_Qi (fun (k : Int32) (v : cp_M × (Nat → Int64)) => (k = 0 ∧ ∃ (r : Int32) (u1 : cp_M), (∃ g, g < cp_n u 1 ∧ x = nI g ∧ cp_bw ln 0 (u 2 g - 1) ∧ r = cp_swar (u 4 g &&& ((1 <<< (ln &&& 31)) - 1)) ∧ u1 = u) ∧ v.1 = u1 ∧ v.2 0 = r.toInt64) ∨ (v.1 = u ∧ ∃ E, (E = R_iob ∧ (¬ (cp_bw x 0 (u 14 1 - 1)) ∨ ∃ g, g < cp_n u 1 ∧ x = nI g ∧ ¬ cp_bw ln 0 (u 2 g - 1))) ∧ ((E = R_iob ∧ k = 1)))) (cp_B D [(cI, .int), (cJ, .long)] cI cJ h a o A) A) (by decide) rfl (Nat.le_of_ble_eq_true rfl) ?_
  intro p e s m args below meth c A hC hA hK hI hZ htab ls hl
  obtain ⟨hx, hb, hml, hown, hts, hr, hlocks⟩ := hC
  have hown : s.vm.findClass RL = some m.cls := hown
  have hl : lv_has ls 5 [(0, .ref h), (1, .int x), (2, .int ln), (3, .ref o)] := hl
  refine lv_aload_n hx hb dL_pageOf_0 rfl (lv_at hl 3 rfl) ?_
  refine lv_iconst (v := 0) hx hb dL_pageOf_1 (by decide) ?_
  refine lv_aload_n hx hb dL_pageOf_2 rfl (lv_at hl 0 rfl) ?_
  refine lv_iload_n hx hb dL_pageOf_3 rfl (lv_at hl 1 rfl) ?_
  refine lv_iload_n hx hb dL_pageOf_4 rfl (lv_at hl 2 rfl) ?_
  refine cp_cXi (wc := cp_wX cI h a) (u := u) (wr := cp_wO cJ o f9) (As := [.int x, .int ln]) (rest := [.int 0, .ref o]) ⟨hx, hb, hml, hown, hts⟩ (c_X0_pageOf l hst D cI h a u x ln hN1) (cwV 2 hts gL_pageOf_X0_pageOf rfl rfl rfl (by decide +kernel) ⟨Nat.le_of_ble_eq_true rfl, Nat.le_of_ble_eq_true rfl⟩) (hK.sub [0] rfl) hI hA hZ ⟨_, cp_hX _ _ _ _⟩ rfl rfl rfl hl.1 rfl (Nat.le_of_ble_eq_true rfl) dL_pageOf_5 ⟨Nat.le_of_ble_eq_true rfl, Nat.le_of_ble_eq_true rfl⟩ (fun E ce q9 H locs hE hI h1 h2 h3 => ?_) (fun r u1 H locs hp hI => ?_)
  · rcases hE with ⟨rfl, hE⟩
    · refine vx_catch hown [] ⟨0, 10, 13, 13⟩ [] (by rw [htab]; rfl) (fun _ hz => absurd hz List.not_mem_nil) (by decide) (by decide) (hts (.classLink RL 13 R_iob) (by decide +kernel)) (va_Nw.use rfl hZ.2.2.1) h1 h2 h3 ?_
      refine lv_astore (lv' := [(4, .ref q9), (0, .ref h), (1, .int x), (2, .int ln), (3, .ref o)]) hx hb dL_pageOf_13 hl (by decide) rfl (fun ls hl => ?_)
      refine lv_iconst (v := 1) hx hb dL_pageOf_15 (by decide) ?_
      exact W.iret (v := 1) hx hb hr (fun t ht hW => ⟨⟨1, (u, f9), rfl, Or.inr ⟨rfl, R_iob, ⟨rfl, hE⟩, ⟨rfl, rfl⟩⟩, by rw [ht]; exact hI.1, va_K.moved hW.alike hK, hI.2.1⟩, hI.2.2.F ht⟩) hI.2.2.2.2 dL_pageOf_16 hlocks
  · refine lv_i2l (v := r.toInt64) hx hb dL_pageOf_8 rfl ?_
    refine va_last (D := D) hx hb hK hI.1 hI.2.1 hI.2.2 15 1 (cA := cJ) (n := 1) (f := f9) rfl rfl (vp_in_nI (n := 0) (by decide) (by decide)) dL_pageOf_9 (fun H locs hP hD hS => ?_)
    have hI : cp_I D (cp_wX cI h a u1 ++ cp_wO cJ o (vp_updL f9 0 r.toInt64)) A s.heap H locs := ⟨hP, hD, hS⟩
    refine lv_goto (tgt := 17) hx hb dL_pageOf_10 (by decide) ?_
    refine lv_iconst (v := 0) hx hb dL_pageOf_17 (by decide) ?_
    exact W.iret (v := 0) hx hb hr (fun t ht hW => ⟨⟨0, (u1, vp_updL f9 0 r.toInt64), rfl, Or.inl ⟨rfl, r, u1, hp, rfl, rfl⟩, by rw [ht]; exact hI.1, va_K.moved hW.alike hK, hI.2.1⟩, hI.2.2.F ht⟩) hI.2.2.2.2 dL_pageOf_18 hlocks
set_option maxHeartbeats 4000000 in
set_option maxRecDepth 100000 in
theorem c_L_badTurns (l : Launch) (hst : l.stackTraces = false) (D : va_G) (cI cJ : ClassId) (h : Nat) (a : Nat → Nat) (o : Nat) (u : cp_M) (f9 : Nat → Int64) (x : Int32) (hN1 : cp_cn u 1 16) : ∀ sz : Nat, Met l yL_badTurns wsL_badTurns ({ frames := 8, cells := 1, slots := 6, locals := 122 } : Room) (va_Pc [.ref h, .int x, .ref o] (cp_preZ D [(cI, .int), (cJ, .long)] (cp_wX cI h a u ++ cp_wO cJ o f9) sz)) (va_Qi (fun (k : Int32) (v : cp_M × (Nat → Int64)) => (k = 0 ∧ ∃ (r : Int32) (u1 : cp_M), (∃ g, g < cp_n u 1 ∧ x = nI g ∧ r = cp_swar (u 4 g &&& (u 3 g ^^^ (-1))) ∧ u1 = u) ∧ v.1 = u1 ∧ v.2 0 = r.toInt64) ∨ (v.1 = u ∧ ∃ E, (E = R_iob ∧ ¬ (cp_bw x 0 (u 14 1 - 1))) ∧ ((E = R_iob ∧ k = 1)))) (cp_B D [(cI, .int), (cJ, .long)] cI cJ h a o (va_A (cp_wX cI h a u ++ cp_wO cJ o f9) sz)) (va_A (cp_wX cI h a u ++ cp_wO cJ o f9) sz)) 1 6 (va_A (cp_wX cI h a u ++ cp_wO cJ o f9) sz) := by
  refine cp_MetL (Qk := fun A => va_Qi (fun (k : Int32) (v : cp_M × (Nat → Int64)) => (k = 0 ∧ ∃ (r : Int32) (u1 : cp_M), (∃ g, g < cp_n u 1 ∧ x = nI g ∧ r = cp_swar (u 4 g &&& (u 3 g ^^^ (-1))) ∧ u1 = u) ∧ v.1 = u1 ∧ v.2 0 = r.toInt64) ∨ (v.1 = u ∧ ∃ E, (E = R_iob ∧ ¬ (cp_bw x 0 (u 14 1 - 1))) ∧ ((E = R_iob ∧ k = 1)))) (cp_B D [(cI, .int), (cJ, .long)] cI cJ h a o A) A) (by decide) rfl (Nat.le_of_ble_eq_true rfl) ?_
  intro p e s m args below meth c A hC hA hK hI hZ htab ls hl
  obtain ⟨hx, hb, hml, hown, hts, hr, hlocks⟩ := hC
  have hown : s.vm.findClass RL = some m.cls := hown
  have hl : lv_has ls 4 [(0, .ref h), (1, .int x), (2, .ref o)] := hl
  refine lv_aload_n hx hb dL_badTurns_0 rfl (lv_at hl 2 rfl) ?_
  refine lv_iconst (v := 0) hx hb dL_badTurns_1 (by decide) ?_
  refine lv_aload_n hx hb dL_badTurns_2 rfl (lv_at hl 0 rfl) ?_
  refine lv_iload_n hx hb dL_badTurns_3 rfl (lv_at hl 1 rfl) ?_
  refine cp_cXi (wc := cp_wX cI h a) (u := u) (wr := cp_wO cJ o f9) (As := [.int x]) (rest := [.int 0, .ref o]) ⟨hx, hb, hml, hown, hts⟩ (c_X0_badTurns l hst D cI h a u x hN1) (cwV 1 hts gL_badTurns_X0_badTurns rfl rfl rfl (by decide +kernel) ⟨Nat.le_of_ble_eq_true rfl, Nat.le_of_ble_eq_true rfl⟩) (hK.sub [0] rfl) hI hA hZ ⟨_, cp_hX _ _ _ _⟩ rfl rfl rfl hl.1 rfl (Nat.le_of_ble_eq_true rfl) dL_badTurns_4 ⟨Nat.le_of_ble_eq_true rfl, Nat.le_of_ble_eq_true rfl⟩ (fun E ce q9 H locs hE hI h1 h2 h3 => ?_) (fun r u1 H locs hp hI => ?_)
  · rcases hE with ⟨rfl, hE⟩
    · refine vx_catch hown [] ⟨0, 9, 12, 13⟩ [] (by rw [htab]; rfl) (fun _ hz => absurd hz List.not_mem_nil) (by decide) (by decide) (hts (.classLink RL 13 R_iob) (by decide +kernel)) (va_Nw.use rfl hZ.2.2.1) h1 h2 h3 ?_
      refine lv_astore_n (lv' := [(3, .ref q9), (0, .ref h), (1, .int x), (2, .ref o)]) hx hb dL_badTurns_12 rfl hl (by decide) rfl (fun ls hl => ?_)
      refine lv_iconst (v := 1) hx hb dL_badTurns_13 (by decide) ?_
      exact W.iret (v := 1) hx hb hr (fun t ht hW => ⟨⟨1, (u, f9), rfl, Or.inr ⟨rfl, R_iob, ⟨rfl, hE⟩, ⟨rfl, rfl⟩⟩, by rw [ht]; exact hI.1, va_K.moved hW.alike hK, hI.2.1⟩, hI.2.2.F ht⟩) hI.2.2.2.2 dL_badTurns_14 hlocks
  · refine lv_i2l (v := r.toInt64) hx hb dL_badTurns_7 rfl ?_
    refine va_last (D := D) hx hb hK hI.1 hI.2.1 hI.2.2 15 1 (cA := cJ) (n := 1) (f := f9) rfl rfl (vp_in_nI (n := 0) (by decide) (by decide)) dL_badTurns_8 (fun H locs hP hD hS => ?_)
    have hI : cp_I D (cp_wX cI h a u1 ++ cp_wO cJ o (vp_updL f9 0 r.toInt64)) A s.heap H locs := ⟨hP, hD, hS⟩
    refine lv_goto (tgt := 15) hx hb dL_badTurns_9 (by decide) ?_
    refine lv_iconst (v := 0) hx hb dL_badTurns_15 (by decide) ?_
    exact W.iret (v := 0) hx hb hr (fun t ht hW => ⟨⟨0, (u1, vp_updL f9 0 r.toInt64), rfl, Or.inl ⟨rfl, r, u1, hp, rfl, rfl⟩, by rw [ht]; exact hI.1, va_K.moved hW.alike hK, hI.2.1⟩, hI.2.2.F ht⟩) hI.2.2.2.2 dL_badTurns_16 hlocks
set_option maxHeartbeats 4000000 in
set_option maxRecDepth 100000 in
theorem c_L_right (l : Launch) (hst : l.stackTraces = false) (D : va_G) (cI cJ : ClassId) (h : Nat) (a : Nat → Nat) (o : Nat) (u : cp_M) (f9 : Nat → Int64) (x : Int32) (y : Int32) (f : Int32) (t9 : Int32) (hN2 : cp_cn u 2 40) : ∀ sz : Nat, Met l yL_right wsL_right ({ frames := 8, cells := 1, slots := 6, locals := 126 } : Room) (va_Pc [.ref h, .int x, .int y, .int f, .int t9, .ref o] (cp_preZ D [(cI, .int), (cJ, .long)] (cp_wX cI h a u ++ cp_wO cJ o f9) sz)) (va_Qi (fun (k : Int32) (v : cp_M × (Nat → Int64)) => (k = 0 ∧ ∃ (r : Int32) (u1 : cp_M), ((cp_bw x 0 (u 14 1 - 1) ∧ cp_bw y 0 1) ∧ (cp_bw f 0 1459 ∧ cp_bw t9 f 1459) ∧ ¬ (40 : Int32) ≤ u 14 2 ∧ r = u 14 2 ∧ u1 = cp_addR u x y f t9) ∧ v.1 = u1 ∧ v.2 0 = r.toInt64) ∨ (v.1 = u ∧ ∃ E, ((E = R_iob ∧ ¬ (cp_bw x 0 (u 14 1 - 1) ∧ cp_bw y 0 1)) ∨ (E = R_iae ∧ (cp_bw x 0 (u 14 1 - 1) ∧ cp_bw y 0 1) ∧ ¬ (cp_bw f 0 1459 ∧ cp_bw t9 f 1459)) ∨ (E = R_ise ∧ (cp_bw x 0 (u 14 1 - 1) ∧ cp_bw y 0 1) ∧ (cp_bw f 0 1459 ∧ cp_bw t9 f 1459) ∧ ¬ ¬ (40 : Int32) ≤ u 14 2)) ∧ ((E = R_iob ∧ k = 1) ∨ (E = R_iae ∧ k = 2) ∨ (E = R_ise ∧ k = 3)))) (cp_B D [(cI, .int), (cJ, .long)] cI cJ h a o (va_A (cp_wX cI h a u ++ cp_wO cJ o f9) sz)) (va_A (cp_wX cI h a u ++ cp_wO cJ o f9) sz)) 1 6 (va_A (cp_wX cI h a u ++ cp_wO cJ o f9) sz) := by
  refine cp_MetL (Qk := fun A => va_Qi (fun (k : Int32) (v : cp_M × (Nat → Int64)) => (k = 0 ∧ ∃ (r : Int32) (u1 : cp_M), ((cp_bw x 0 (u 14 1 - 1) ∧ cp_bw y 0 1) ∧ (cp_bw f 0 1459 ∧ cp_bw t9 f 1459) ∧ ¬ (40 : Int32) ≤ u 14 2 ∧ r = u 14 2 ∧ u1 = cp_addR u x y f t9) ∧ v.1 = u1 ∧ v.2 0 = r.toInt64) ∨ (v.1 = u ∧ ∃ E, ((E = R_iob ∧ ¬ (cp_bw x 0 (u 14 1 - 1) ∧ cp_bw y 0 1)) ∨ (E = R_iae ∧ (cp_bw x 0 (u 14 1 - 1) ∧ cp_bw y 0 1) ∧ ¬ (cp_bw f 0 1459 ∧ cp_bw t9 f 1459)) ∨ (E = R_ise ∧ (cp_bw x 0 (u 14 1 - 1) ∧ cp_bw y 0 1) ∧ (cp_bw f 0 1459 ∧ cp_bw t9 f 1459) ∧ ¬ ¬ (40 : Int32) ≤ u 14 2)) ∧ ((E = R_iob ∧ k = 1) ∨ (E = R_iae ∧ k = 2) ∨ (E = R_ise ∧ k = 3)))) (cp_B D [(cI, .int), (cJ, .long)] cI cJ h a o A) A) (by decide) rfl (Nat.le_of_ble_eq_true rfl) ?_
  intro p e s m args below meth c A hC hA hK hI hZ htab ls hl
  obtain ⟨hx, hb, hml, hown, hts, hr, hlocks⟩ := hC
  have hown : s.vm.findClass RL = some m.cls := hown
  have hl : lv_has ls 7 [(0, .ref h), (1, .int x), (2, .int y), (3, .int f), (4, .int t9), (5, .ref o)] := hl
  refine lv_aload hx hb dL_right_0 (lv_at hl 5 rfl) ?_
  refine lv_iconst (v := 0) hx hb dL_right_2 (by decide) ?_
  refine lv_aload_n hx hb dL_right_3 rfl (lv_at hl 0 rfl) ?_
  refine lv_iload_n hx hb dL_right_4 rfl (lv_at hl 1 rfl) ?_
  refine lv_iload_n hx hb dL_right_5 rfl (lv_at hl 2 rfl) ?_
  refine lv_iload_n hx hb dL_right_6 rfl (lv_at hl 3 rfl) ?_
  refine lv_iload hx hb dL_right_7 (lv_at hl 4 rfl) ?_
  refine cp_cXi (wc := cp_wX cI h a) (u := u) (wr := cp_wO cJ o f9) (As := [.int x, .int y, .int f, .int t9]) (rest := [.int 0, .ref o]) ⟨hx, hb, hml, hown, hts⟩ (c_X0_right l hst D cI h a u x y f t9 hN2) (cwV 4 hts gL_right_X0_right rfl rfl rfl (by decide +kernel) ⟨Nat.le_of_ble_eq_true rfl, Nat.le_of_ble_eq_true rfl⟩) (hK.sub [0] rfl) hI hA hZ ⟨_, cp_hX _ _ _ _⟩ rfl rfl rfl hl.1 rfl (Nat.le_of_ble_eq_true rfl) dL_right_9 ⟨Nat.le_of_ble_eq_true rfl, Nat.le_of_ble_eq_true rfl⟩ (fun E ce q9 H locs hE hI h1 h2 h3 => ?_) (fun r u1 H locs hp hI => ?_)
  · rcases hE with ⟨rfl, hE⟩ | ⟨rfl, hE⟩ | ⟨rfl, hE⟩
    · refine vx_catch hown [] ⟨0, 14, 17, 13⟩ [⟨0, 14, 21, 15⟩, ⟨0, 14, 25, 17⟩] (by rw [htab]; rfl) (fun _ hz => absurd hz List.not_mem_nil) (by decide) (by decide) (hts (.classLink RL 13 R_iob) (by decide +kernel)) (va_Nw.use rfl hZ.2.2.1) h1 h2 h3 ?_
      refine lv_astore (lv' := [(6, .ref q9), (0, .ref h), (1, .int x), (2, .int y), (3, .int f), (4, .int t9), (5, .ref o)]) hx hb dL_right_17 hl (by decide) rfl (fun ls hl => ?_)
      refine lv_iconst (v := 1) hx hb dL_right_19 (by decide) ?_
      exact W.iret (v := 1) hx hb hr (fun t ht hW => ⟨⟨1, (u, f9), rfl, Or.inr ⟨rfl, R_iob, Or.inl ⟨rfl, hE⟩, Or.inl ⟨rfl, rfl⟩⟩, by rw [ht]; exact hI.1, va_K.moved hW.alike hK, hI.2.1⟩, hI.2.2.F ht⟩) hI.2.2.2.2 dL_right_20 hlocks
    · refine vx_catch hown [⟨0, 14, 17, 13⟩] ⟨0, 14, 21, 15⟩ [⟨0, 14, 25, 17⟩] (by rw [htab]; rfl) (List.forall_mem_cons.mpr ⟨Or.inr ⟨by decide, R_iob, hts (.classLink RL 13 R_iob) (by decide +kernel), hZ.2.2.2.2.2.1⟩, (fun _ hz => absurd hz List.not_mem_nil)⟩) (by decide) (by decide) (hts (.classLink RL 15 R_iae) (by decide +kernel)) (va_Nw.use rfl hZ.2.2.2.1) h1 h2 h3 ?_
      refine lv_astore (lv' := [(6, .ref q9), (0, .ref h), (1, .int x), (2, .int y), (3, .int f), (4, .int t9), (5, .ref o)]) hx hb dL_right_21 hl (by decide) rfl (fun ls hl => ?_)
      refine lv_iconst (v := 2) hx hb dL_right_23 (by decide) ?_
      exact W.iret (v := 2) hx hb hr (fun t ht hW => ⟨⟨2, (u, f9), rfl, Or.inr ⟨rfl, R_iae, Or.inr (Or.inl ⟨rfl, hE⟩), Or.inr (Or.inl ⟨rfl, rfl⟩)⟩, by rw [ht]; exact hI.1, va_K.moved hW.alike hK, hI.2.1⟩, hI.2.2.F ht⟩) hI.2.2.2.2 dL_right_24 hlocks
    · refine vx_catch hown [⟨0, 14, 17, 13⟩, ⟨0, 14, 21, 15⟩] ⟨0, 14, 25, 17⟩ [] (by rw [htab]; rfl) (List.forall_mem_cons.mpr ⟨Or.inr ⟨by decide, R_iob, hts (.classLink RL 13 R_iob) (by decide +kernel), hZ.2.2.2.2.2.2.1⟩, (List.forall_mem_cons.mpr ⟨Or.inr ⟨by decide, R_iae, hts (.classLink RL 15 R_iae) (by decide +kernel), hZ.2.2.2.2.2.2.2.1⟩, (fun _ hz => absurd hz List.not_mem_nil)⟩)⟩) (by decide) (by decide) (hts (.classLink RL 17 R_ise) (by decide +kernel)) (va_Nw.use rfl hZ.2.2.2.2.1) h1 h2 h3 ?_
      refine lv_astore (lv' := [(6, .ref q9), (0, .ref h), (1, .int x), (2, .int y), (3, .int f), (4, .int t9), (5, .ref o)]) hx hb dL_right_25 hl (by decide) rfl (fun ls hl => ?_)
      refine lv_iconst (v := 3) hx hb dL_right_27 (by decide) ?_
      exact W.iret (v := 3) hx hb hr (fun t ht hW => ⟨⟨3, (u, f9), rfl, Or.inr ⟨rfl, R_ise, Or.inr (Or.inr ⟨rfl, hE⟩), Or.inr (Or.inr ⟨rfl, rfl⟩)⟩, by rw [ht]; exact hI.1, va_K.moved hW.alike hK, hI.2.1⟩, hI.2.2.F ht⟩) hI.2.2.2.2 dL_right_28 hlocks
  · refine lv_i2l (v := r.toInt64) hx hb dL_right_12 rfl ?_
    refine va_last (D := D) hx hb hK hI.1 hI.2.1 hI.2.2 15 1 (cA := cJ) (n := 1) (f := f9) rfl rfl (vp_in_nI (n := 0) (by decide) (by decide)) dL_right_13 (fun H locs hP hD hS => ?_)
    have hI : cp_I D (cp_wX cI h a u1 ++ cp_wO cJ o (vp_updL f9 0 r.toInt64)) A s.heap H locs := ⟨hP, hD, hS⟩
    refine lv_goto (tgt := 29) hx hb dL_right_14 (by decide) ?_
    refine lv_iconst (v := 0) hx hb dL_right_29 (by decide) ?_
    exact W.iret (v := 0) hx hb hr (fun t ht hW => ⟨⟨0, (u1, vp_updL f9 0 r.toInt64), rfl, Or.inl ⟨rfl, r, u1, hp, rfl, rfl⟩, by rw [ht]; exact hI.1, va_K.moved hW.alike hK, hI.2.1⟩, hI.2.2.F ht⟩) hI.2.2.2.2 dL_right_30 hlocks
set_option maxHeartbeats 4000000 in
set_option maxRecDepth 100000 in
theorem c_L_end (l : Launch) (hst : l.stackTraces = false) (D : va_G) (cI cJ : ClassId) (h : Nat) (a : Nat → Nat) (o : Nat) (u : cp_M) (f9 : Nat → Int64) (x : Int32) (t9 : Int32) (hN1 : cp_cn u 1 16) (hN2 : cp_cn u 2 40) (hN3 : cp_cn u 3 40) : ∀ sz : Nat, Met l yL_end wsL_end ({ frames := 8, cells := 1, slots := 6, locals := 163 } : Room) (va_Pc [.ref h, .int x, .int t9, .ref o] (cp_preZ D [(cI, .int), (cJ, .long)] (cp_wX cI h a u ++ cp_wO cJ o f9) sz)) (va_Qi (fun (k : Int32) (v : cp_M × (Nat → Int64)) => (k = 0 ∧ ∃ (r : Int32) (u1 : cp_M), ((cp_bw t9 (u 14 0 - 1) 1459) ∧ ∃ g, g < cp_n u 2 ∧ x = nI g ∧ ¬ u 10 g ≤ t9 ∧ r = cp_swarL (cp_msk (cp_cut u g t9) (cp_n (cp_cut u g t9) 3)) ∧ u1 = cp_pe (fun j => cp_inS (nI j) (cp_msk (cp_cut u g t9) (cp_n (cp_cut u g t9) 3))) (cp_sil (cp_cut u g t9) (cp_n (cp_cut u g t9) 3)) (cp_n (cp_sil (cp_cut u g t9) (cp_n (cp_cut u g t9) 3)) 3)) ∧ v.1 = u1 ∧ v.2 0 = r.toInt64) ∨ (v.1 = u ∧ ∃ E, ((E = R_iob ∧ ¬ (cp_bw x 0 (u 14 2 - 1))) ∨ (E = R_iae ∧ (cp_bw x 0 (u 14 2 - 1)) ∧ ¬ (cp_bw t9 (u 14 0 - 1) 1459)) ∨ (E = R_ise ∧ (cp_bw t9 (u 14 0 - 1) 1459) ∧ (∃ g, g < cp_n u 2 ∧ x = nI g ∧ u 10 g ≤ t9))) ∧ ((E = R_iob ∧ k = 1) ∨ (E = R_iae ∧ k = 2) ∨ (E = R_ise ∧ k = 3)))) (cp_B D [(cI, .int), (cJ, .long)] cI cJ h a o (va_A (cp_wX cI h a u ++ cp_wO cJ o f9) sz)) (va_A (cp_wX cI h a u ++ cp_wO cJ o f9) sz)) 1 6 (va_A (cp_wX cI h a u ++ cp_wO cJ o f9) sz) := by
  refine cp_MetL (Qk := fun A => va_Qi (fun (k : Int32) (v : cp_M × (Nat → Int64)) => (k = 0 ∧ ∃ (r : Int32) (u1 : cp_M), ((cp_bw t9 (u 14 0 - 1) 1459) ∧ ∃ g, g < cp_n u 2 ∧ x = nI g ∧ ¬ u 10 g ≤ t9 ∧ r = cp_swarL (cp_msk (cp_cut u g t9) (cp_n (cp_cut u g t9) 3)) ∧ u1 = cp_pe (fun j => cp_inS (nI j) (cp_msk (cp_cut u g t9) (cp_n (cp_cut u g t9) 3))) (cp_sil (cp_cut u g t9) (cp_n (cp_cut u g t9) 3)) (cp_n (cp_sil (cp_cut u g t9) (cp_n (cp_cut u g t9) 3)) 3)) ∧ v.1 = u1 ∧ v.2 0 = r.toInt64) ∨ (v.1 = u ∧ ∃ E, ((E = R_iob ∧ ¬ (cp_bw x 0 (u 14 2 - 1))) ∨ (E = R_iae ∧ (cp_bw x 0 (u 14 2 - 1)) ∧ ¬ (cp_bw t9 (u 14 0 - 1) 1459)) ∨ (E = R_ise ∧ (cp_bw t9 (u 14 0 - 1) 1459) ∧ (∃ g, g < cp_n u 2 ∧ x = nI g ∧ u 10 g ≤ t9))) ∧ ((E = R_iob ∧ k = 1) ∨ (E = R_iae ∧ k = 2) ∨ (E = R_ise ∧ k = 3)))) (cp_B D [(cI, .int), (cJ, .long)] cI cJ h a o A) A) (by decide) rfl (Nat.le_of_ble_eq_true rfl) ?_
  intro p e s m args below meth c A hC hA hK hI hZ htab ls hl
  obtain ⟨hx, hb, hml, hown, hts, hr, hlocks⟩ := hC
  have hown : s.vm.findClass RL = some m.cls := hown
  have hl : lv_has ls 5 [(0, .ref h), (1, .int x), (2, .int t9), (3, .ref o)] := hl
  refine lv_aload_n hx hb dL_end_0 rfl (lv_at hl 3 rfl) ?_
  refine lv_iconst (v := 0) hx hb dL_end_1 (by decide) ?_
  refine lv_aload_n hx hb dL_end_2 rfl (lv_at hl 0 rfl) ?_
  refine lv_iload_n hx hb dL_end_3 rfl (lv_at hl 1 rfl) ?_
  refine lv_iload_n hx hb dL_end_4 rfl (lv_at hl 2 rfl) ?_
  refine cp_cXi (wc := cp_wX cI h a) (u := u) (wr := cp_wO cJ o f9) (As := [.int x, .int t9]) (rest := [.int 0, .ref o]) ⟨hx, hb, hml, hown, hts⟩ (c_X0_end l hst D cI h a u x t9 hN1 hN2 hN3) (cwV 2 hts gL_end_X0_end rfl rfl rfl (by decide +kernel) ⟨Nat.le_of_ble_eq_true rfl, Nat.le_of_ble_eq_true rfl⟩) (hK.sub [0] rfl) hI hA hZ ⟨_, cp_hX _ _ _ _⟩ rfl rfl rfl hl.1 rfl (Nat.le_of_ble_eq_true rfl) dL_end_5 ⟨Nat.le_of_ble_eq_true rfl, Nat.le_of_ble_eq_true rfl⟩ (fun E ce q9 H locs hE hI h1 h2 h3 => ?_) (fun r u1 H locs hp hI => ?_)
  · rcases hE with ⟨rfl, hE⟩ | ⟨rfl, hE⟩ | ⟨rfl, hE⟩
    · refine vx_catch hown [] ⟨0, 10, 13, 13⟩ [⟨0, 10, 17, 15⟩, ⟨0, 10, 21, 17⟩] (by rw [htab]; rfl) (fun _ hz => absurd hz List.not_mem_nil) (by decide) (by decide) (hts (.classLink RL 13 R_iob) (by decide +kernel)) (va_Nw.use rfl hZ.2.2.1) h1 h2 h3 ?_
      refine lv_astore (lv' := [(4, .ref q9), (0, .ref h), (1, .int x), (2, .int t9), (3, .ref o)]) hx hb dL_end_13 hl (by decide) rfl (fun ls hl => ?_)
      refine lv_iconst (v := 1) hx hb dL_end_15 (by decide) ?_
      exact W.iret (v := 1) hx hb hr (fun t ht hW => ⟨⟨1, (u, f9), rfl, Or.inr ⟨rfl, R_iob, Or.inl ⟨rfl, hE⟩, Or.inl ⟨rfl, rfl⟩⟩, by rw [ht]; exact hI.1, va_K.moved hW.alike hK, hI.2.1⟩, hI.2.2.F ht⟩) hI.2.2.2.2 dL_end_16 hlocks
    · refine vx_catch hown [⟨0, 10, 13, 13⟩] ⟨0, 10, 17, 15⟩ [⟨0, 10, 21, 17⟩] (by rw [htab]; rfl) (List.forall_mem_cons.mpr ⟨Or.inr ⟨by decide, R_iob, hts (.classLink RL 13 R_iob) (by decide +kernel), hZ.2.2.2.2.2.1⟩, (fun _ hz => absurd hz List.not_mem_nil)⟩) (by decide) (by decide) (hts (.classLink RL 15 R_iae) (by decide +kernel)) (va_Nw.use rfl hZ.2.2.2.1) h1 h2 h3 ?_
      refine lv_astore (lv' := [(4, .ref q9), (0, .ref h), (1, .int x), (2, .int t9), (3, .ref o)]) hx hb dL_end_17 hl (by decide) rfl (fun ls hl => ?_)
      refine lv_iconst (v := 2) hx hb dL_end_19 (by decide) ?_
      exact W.iret (v := 2) hx hb hr (fun t ht hW => ⟨⟨2, (u, f9), rfl, Or.inr ⟨rfl, R_iae, Or.inr (Or.inl ⟨rfl, hE⟩), Or.inr (Or.inl ⟨rfl, rfl⟩)⟩, by rw [ht]; exact hI.1, va_K.moved hW.alike hK, hI.2.1⟩, hI.2.2.F ht⟩) hI.2.2.2.2 dL_end_20 hlocks
    · refine vx_catch hown [⟨0, 10, 13, 13⟩, ⟨0, 10, 17, 15⟩] ⟨0, 10, 21, 17⟩ [] (by rw [htab]; rfl) (List.forall_mem_cons.mpr ⟨Or.inr ⟨by decide, R_iob, hts (.classLink RL 13 R_iob) (by decide +kernel), hZ.2.2.2.2.2.2.1⟩, (List.forall_mem_cons.mpr ⟨Or.inr ⟨by decide, R_iae, hts (.classLink RL 15 R_iae) (by decide +kernel), hZ.2.2.2.2.2.2.2.1⟩, (fun _ hz => absurd hz List.not_mem_nil)⟩)⟩) (by decide) (by decide) (hts (.classLink RL 17 R_ise) (by decide +kernel)) (va_Nw.use rfl hZ.2.2.2.2.1) h1 h2 h3 ?_
      refine lv_astore (lv' := [(4, .ref q9), (0, .ref h), (1, .int x), (2, .int t9), (3, .ref o)]) hx hb dL_end_21 hl (by decide) rfl (fun ls hl => ?_)
      refine lv_iconst (v := 3) hx hb dL_end_23 (by decide) ?_
      exact W.iret (v := 3) hx hb hr (fun t ht hW => ⟨⟨3, (u, f9), rfl, Or.inr ⟨rfl, R_ise, Or.inr (Or.inr ⟨rfl, hE⟩), Or.inr (Or.inr ⟨rfl, rfl⟩)⟩, by rw [ht]; exact hI.1, va_K.moved hW.alike hK, hI.2.1⟩, hI.2.2.F ht⟩) hI.2.2.2.2 dL_end_24 hlocks
  · refine lv_i2l (v := r.toInt64) hx hb dL_end_8 rfl ?_
    refine va_last (D := D) hx hb hK hI.1 hI.2.1 hI.2.2 15 1 (cA := cJ) (n := 1) (f := f9) rfl rfl (vp_in_nI (n := 0) (by decide) (by decide)) dL_end_9 (fun H locs hP hD hS => ?_)
    have hI : cp_I D (cp_wX cI h a u1 ++ cp_wO cJ o (vp_updL f9 0 r.toInt64)) A s.heap H locs := ⟨hP, hD, hS⟩
    refine lv_goto (tgt := 25) hx hb dL_end_10 (by decide) ?_
    refine lv_iconst (v := 0) hx hb dL_end_25 (by decide) ?_
    exact W.iret (v := 0) hx hb hr (fun t ht hW => ⟨⟨0, (u1, vp_updL f9 0 r.toInt64), rfl, Or.inl ⟨rfl, r, u1, hp, rfl, rfl⟩, by rw [ht]; exact hI.1, va_K.moved hW.alike hK, hI.2.1⟩, hI.2.2.F ht⟩) hI.2.2.2.2 dL_end_26 hlocks
set_option maxHeartbeats 4000000 in
set_option maxRecDepth 100000 in
theorem c_L_hasRight (l : Launch) (hst : l.stackTraces = false) (D : va_G) (cI cJ : ClassId) (h : Nat) (a : Nat → Nat) (o : Nat) (u : cp_M) (f9 : Nat → Int64) (x : Int32) (y : Int32) (z : Int32) (hN2 : cp_cn u 2 40) : ∀ sz : Nat, Met l yL_hasRight wsL_hasRight ({ frames := 8, cells := 1, slots := 6, locals := 124 } : Room) (va_Pc [.ref h, .int x, .int y, .int z, .ref o] (cp_preZ D [(cI, .int), (cJ, .long)] (cp_wX cI h a u ++ cp_wO cJ o f9) sz)) (va_Qi (fun (k : Int32) (v : cp_M × (Nat → Int64)) => (k = 0 ∧ ∃ (r : Int32) (u1 : cp_M), ((cp_bw x 0 (u 14 1 - 1) ∧ cp_bw y 0 1) ∧ (cp_bw z 0 1459) ∧ r = cp_b (cp_may u x y z) ∧ u1 = u) ∧ v.1 = u1 ∧ v.2 0 = r.toInt64) ∨ (v.1 = u ∧ ∃ E, ((E = R_iob ∧ ¬ (cp_bw x 0 (u 14 1 - 1) ∧ cp_bw y 0 1)) ∨ (E = R_iae ∧ (cp_bw x 0 (u 14 1 - 1) ∧ cp_bw y 0 1) ∧ ¬ (cp_bw z 0 1459))) ∧ ((E = R_iob ∧ k = 1) ∨ (E = R_iae ∧ k = 2)))) (cp_B D [(cI, .int), (cJ, .long)] cI cJ h a o (va_A (cp_wX cI h a u ++ cp_wO cJ o f9) sz)) (va_A (cp_wX cI h a u ++ cp_wO cJ o f9) sz)) 1 6 (va_A (cp_wX cI h a u ++ cp_wO cJ o f9) sz) := by
  refine cp_MetL (Qk := fun A => va_Qi (fun (k : Int32) (v : cp_M × (Nat → Int64)) => (k = 0 ∧ ∃ (r : Int32) (u1 : cp_M), ((cp_bw x 0 (u 14 1 - 1) ∧ cp_bw y 0 1) ∧ (cp_bw z 0 1459) ∧ r = cp_b (cp_may u x y z) ∧ u1 = u) ∧ v.1 = u1 ∧ v.2 0 = r.toInt64) ∨ (v.1 = u ∧ ∃ E, ((E = R_iob ∧ ¬ (cp_bw x 0 (u 14 1 - 1) ∧ cp_bw y 0 1)) ∨ (E = R_iae ∧ (cp_bw x 0 (u 14 1 - 1) ∧ cp_bw y 0 1) ∧ ¬ (cp_bw z 0 1459))) ∧ ((E = R_iob ∧ k = 1) ∨ (E = R_iae ∧ k = 2)))) (cp_B D [(cI, .int), (cJ, .long)] cI cJ h a o A) A) (by decide) rfl (Nat.le_of_ble_eq_true rfl) ?_
  intro p e s m args below meth c A hC hA hK hI hZ htab ls hl
  obtain ⟨hx, hb, hml, hown, hts, hr, hlocks⟩ := hC
  have hown : s.vm.findClass RL = some m.cls := hown
  have hl : lv_has ls 6 [(0, .ref h), (1, .int x), (2, .int y), (3, .int z), (4, .ref o)] := hl
  refine lv_aload hx hb dL_hasRight_0 (lv_at hl 4 rfl) ?_
  refine lv_iconst (v := 0) hx hb dL_hasRight_2 (by decide) ?_
  refine lv_aload_n hx hb dL_hasRight_3 rfl (lv_at hl 0 rfl) ?_
  refine lv_iload_n hx hb dL_hasRight_4 rfl (lv_at hl 1 rfl) ?_
  refine lv_iload_n hx hb dL_hasRight_5 rfl (lv_at hl 2 rfl) ?_
  refine lv_iload_n hx hb dL_hasRight_6 rfl (lv_at hl 3 rfl) ?_
  refine cp_cXi (wc := cp_wX cI h a) (u := u) (wr := cp_wO cJ o f9) (As := [.int x, .int y, .int z]) (rest := [.int 0, .ref o]) ⟨hx, hb, hml, hown, hts⟩ (c_X0_hasRight l hst D cI h a u x y z hN2) (cwV 3 hts gL_hasRight_X0_hasRight rfl rfl rfl (by decide +kernel) ⟨Nat.le_of_ble_eq_true rfl, Nat.le_of_ble_eq_true rfl⟩) (hK.sub [0] rfl) hI hA hZ ⟨_, cp_hX _ _ _ _⟩ rfl rfl rfl hl.1 rfl (Nat.le_of_ble_eq_true rfl) dL_hasRight_7 ⟨Nat.le_of_ble_eq_true rfl, Nat.le_of_ble_eq_true rfl⟩ (fun E ce q9 H locs hE hI h1 h2 h3 => ?_) (fun r u1 H locs hp hI => ?_)
  · rcases hE with ⟨rfl, hE⟩ | ⟨rfl, hE⟩
    · refine vx_catch hown [] ⟨0, 19, 22, 13⟩ [⟨0, 19, 26, 15⟩] (by rw [htab]; rfl) (fun _ hz => absurd hz List.not_mem_nil) (by decide) (by decide) (hts (.classLink RL 13 R_iob) (by decide +kernel)) (va_Nw.use rfl hZ.2.2.1) h1 h2 h3 ?_
      refine lv_astore (lv' := [(5, .ref q9), (0, .ref h), (1, .int x), (2, .int y), (3, .int z), (4, .ref o)]) hx hb dL_hasRight_22 hl (by decide) rfl (fun ls hl => ?_)
      refine lv_iconst (v := 1) hx hb dL_hasRight_24 (by decide) ?_
      exact W.iret (v := 1) hx hb hr (fun t ht hW => ⟨⟨1, (u, f9), rfl, Or.inr ⟨rfl, R_iob, Or.inl ⟨rfl, hE⟩, Or.inl ⟨rfl, rfl⟩⟩, by rw [ht]; exact hI.1, va_K.moved hW.alike hK, hI.2.1⟩, hI.2.2.F ht⟩) hI.2.2.2.2 dL_hasRight_25 hlocks
    · refine vx_catch hown [⟨0, 19, 22, 13⟩] ⟨0, 19, 26, 15⟩ [] (by rw [htab]; rfl) (List.forall_mem_cons.mpr ⟨Or.inr ⟨by decide, R_iob, hts (.classLink RL 13 R_iob) (by decide +kernel), hZ.2.2.2.2.2.1⟩, (fun _ hz => absurd hz List.not_mem_nil)⟩) (by decide) (by decide) (hts (.classLink RL 15 R_iae) (by decide +kernel)) (va_Nw.use rfl hZ.2.2.2.1) h1 h2 h3 ?_
      refine lv_astore (lv' := [(5, .ref q9), (0, .ref h), (1, .int x), (2, .int y), (3, .int z), (4, .ref o)]) hx hb dL_hasRight_26 hl (by decide) rfl (fun ls hl => ?_)
      refine lv_iconst (v := 2) hx hb dL_hasRight_28 (by decide) ?_
      exact W.iret (v := 2) hx hb hr (fun t ht hW => ⟨⟨2, (u, f9), rfl, Or.inr ⟨rfl, R_iae, Or.inr ⟨rfl, hE⟩, Or.inr ⟨rfl, rfl⟩⟩, by rw [ht]; exact hI.1, va_K.moved hW.alike hK, hI.2.1⟩, hI.2.2.F ht⟩) hI.2.2.2.2 dL_hasRight_29 hlocks
  · have h01 : r = 0 ∨ r = 1 := by exact cp_b01 hp.2.2.1
    refine lv_if_eq (tgt := 17) hx hb dL_hasRight_10 (by decide) (fun c9 => ?_) (fun c9 => ?_)
    · refine lv_lconst (v := 0) hx hb dL_hasRight_17 (by decide) ?_
      refine va_last (D := D) hx hb hK hI.1 hI.2.1 hI.2.2 15 1 (cA := cJ) (n := 1) (f := f9) rfl rfl (vp_in_nI (n := 0) (by decide) (by decide)) dL_hasRight_18 (fun H locs hP hD hS => ?_)
      have hI : cp_I D (cp_wX cI h a u1 ++ cp_wO cJ o (vp_updL f9 0 0)) A s.heap H locs := ⟨hP, hD, hS⟩
      refine lv_goto (tgt := 30) hx hb dL_hasRight_19 (by decide) ?_
      refine lv_iconst (v := 0) hx hb dL_hasRight_30 (by decide) ?_
      exact W.iret (v := 0) hx hb hr (fun t ht hW => ⟨⟨0, (u1, vp_updL f9 0 0), rfl, Or.inl ⟨rfl, r, u1, hp, rfl, (by rw [c9]; rfl)⟩, by rw [ht]; exact hI.1, va_K.moved hW.alike hK, hI.2.1⟩, hI.2.2.F ht⟩) hI.2.2.2.2 dL_hasRight_31 hlocks
    · refine lv_lconst (v := 1) hx hb dL_hasRight_13 (by decide) ?_
      refine lv_goto (tgt := 18) hx hb dL_hasRight_14 (by decide) ?_
      refine va_last (D := D) hx hb hK hI.1 hI.2.1 hI.2.2 15 1 (cA := cJ) (n := 1) (f := f9) rfl rfl (vp_in_nI (n := 0) (by decide) (by decide)) dL_hasRight_18 (fun H locs hP hD hS => ?_)
      have hI : cp_I D (cp_wX cI h a u1 ++ cp_wO cJ o (vp_updL f9 0 1)) A s.heap H locs := ⟨hP, hD, hS⟩
      refine lv_goto (tgt := 30) hx hb dL_hasRight_19 (by decide) ?_
      refine lv_iconst (v := 0) hx hb dL_hasRight_30 (by decide) ?_
      exact W.iret (v := 0) hx hb hr (fun t ht hW => ⟨⟨0, (u1, vp_updL f9 0 1), rfl, Or.inl ⟨rfl, r, u1, hp, rfl, (by rw [h01.resolve_left c9]; rfl)⟩, by rw [ht]; exact hI.1, va_K.moved hW.alike hK, hI.2.1⟩, hI.2.2.F ht⟩) hI.2.2.2.2 dL_hasRight_31 hlocks
set_option maxHeartbeats 4000000 in
set_option maxRecDepth 100000 in
theorem c_L_print (l : Launch) (hst : l.stackTraces = false) (D : va_G) (cI cJ : ClassId) (h : Nat) (a : Nat → Nat) (o : Nat) (u : cp_M) (f9 : Nat → Int64) (x : Int32) (w : Int32) (hN1 : cp_cn u 1 16) (hN2 : cp_cn u 2 40) (hT : cp_td u) : ∀ sz : Nat, Met l yL_print wsL_print ({ frames := 8, cells := 1, slots := 6, locals := 123 } : Room) (va_Pc [.ref h, .int x, .int w, .ref o] (cp_preZ D [(cI, .int), (cJ, .long)] (cp_wX cI h a u ++ cp_wO cJ o f9) sz)) (va_Qi (fun (k : Int32) (v : cp_M × (Nat → Int64)) => (k = 0 ∧ ∃ (r : Int32) (u1 : cp_M), ((cp_bw w 1 1000) ∧ (cp_may u x 1 (u 14 0)) ∧ ∃ g, g < cp_n u 1 ∧ x = nI g ∧ r = w * (cp_swar (u 4 g) + 1) ∧ u1 = cp_up u 6 (upd (u 6) (g * 4 + cp_n u 0 / 365) (u 6 (g * 4 + cp_n u 0 / 365) + w))) ∧ v.1 = u1 ∧ v.2 0 = r.toInt64) ∨ (v.1 = u ∧ ∃ E, ((E = R_iob ∧ ¬ (cp_bw x 0 (u 14 1 - 1))) ∨ (E = R_iae ∧ (cp_bw x 0 (u 14 1 - 1)) ∧ ¬ (cp_bw w 1 1000)) ∨ (E = R_ise ∧ (cp_bw x 0 (u 14 1 - 1)) ∧ (cp_bw w 1 1000) ∧ ¬ (cp_may u x 1 (u 14 0)))) ∧ ((E = R_iob ∧ k = 1) ∨ (E = R_iae ∧ k = 2) ∨ (E = R_ise ∧ k = 3)))) (cp_B D [(cI, .int), (cJ, .long)] cI cJ h a o (va_A (cp_wX cI h a u ++ cp_wO cJ o f9) sz)) (va_A (cp_wX cI h a u ++ cp_wO cJ o f9) sz)) 1 6 (va_A (cp_wX cI h a u ++ cp_wO cJ o f9) sz) := by
  refine cp_MetL (Qk := fun A => va_Qi (fun (k : Int32) (v : cp_M × (Nat → Int64)) => (k = 0 ∧ ∃ (r : Int32) (u1 : cp_M), ((cp_bw w 1 1000) ∧ (cp_may u x 1 (u 14 0)) ∧ ∃ g, g < cp_n u 1 ∧ x = nI g ∧ r = w * (cp_swar (u 4 g) + 1) ∧ u1 = cp_up u 6 (upd (u 6) (g * 4 + cp_n u 0 / 365) (u 6 (g * 4 + cp_n u 0 / 365) + w))) ∧ v.1 = u1 ∧ v.2 0 = r.toInt64) ∨ (v.1 = u ∧ ∃ E, ((E = R_iob ∧ ¬ (cp_bw x 0 (u 14 1 - 1))) ∨ (E = R_iae ∧ (cp_bw x 0 (u 14 1 - 1)) ∧ ¬ (cp_bw w 1 1000)) ∨ (E = R_ise ∧ (cp_bw x 0 (u 14 1 - 1)) ∧ (cp_bw w 1 1000) ∧ ¬ (cp_may u x 1 (u 14 0)))) ∧ ((E = R_iob ∧ k = 1) ∨ (E = R_iae ∧ k = 2) ∨ (E = R_ise ∧ k = 3)))) (cp_B D [(cI, .int), (cJ, .long)] cI cJ h a o A) A) (by decide) rfl (Nat.le_of_ble_eq_true rfl) ?_
  intro p e s m args below meth c A hC hA hK hI hZ htab ls hl
  obtain ⟨hx, hb, hml, hown, hts, hr, hlocks⟩ := hC
  have hown : s.vm.findClass RL = some m.cls := hown
  have hl : lv_has ls 5 [(0, .ref h), (1, .int x), (2, .int w), (3, .ref o)] := hl
  refine lv_aload_n hx hb dL_print_0 rfl (lv_at hl 3 rfl) ?_
  refine lv_iconst (v := 0) hx hb dL_print_1 (by decide) ?_
  refine lv_aload_n hx hb dL_print_2 rfl (lv_at hl 0 rfl) ?_
  refine lv_iload_n hx hb dL_print_3 rfl (lv_at hl 1 rfl) ?_
  refine lv_iload_n hx hb dL_print_4 rfl (lv_at hl 2 rfl) ?_
  refine cp_cXi (wc := cp_wX cI h a) (u := u) (wr := cp_wO cJ o f9) (As := [.int x, .int w]) (rest := [.int 0, .ref o]) ⟨hx, hb, hml, hown, hts⟩ (c_X0_print l hst D cI h a u x w hN1 hN2 hT) (cwV 2 hts gL_print_X0_print rfl rfl rfl (by decide +kernel) ⟨Nat.le_of_ble_eq_true rfl, Nat.le_of_ble_eq_true rfl⟩) (hK.sub [0] rfl) hI hA hZ ⟨_, cp_hX _ _ _ _⟩ rfl rfl rfl hl.1 rfl (Nat.le_of_ble_eq_true rfl) dL_print_5 ⟨Nat.le_of_ble_eq_true rfl, Nat.le_of_ble_eq_true rfl⟩ (fun E ce q9 H locs hE hI h1 h2 h3 => ?_) (fun r u1 H locs hp hI => ?_)
  · rcases hE with ⟨rfl, hE⟩ | ⟨rfl, hE⟩ | ⟨rfl, hE⟩
    · refine vx_catch hown [] ⟨0, 10, 13, 13⟩ [⟨0, 10, 17, 15⟩, ⟨0, 10, 21, 17⟩] (by rw [htab]; rfl) (fun _ hz => absurd hz List.not_mem_nil) (by decide) (by decide) (hts (.classLink RL 13 R_iob) (by decide +kernel)) (va_Nw.use rfl hZ.2.2.1) h1 h2 h3 ?_
      refine lv_astore (lv' := [(4, .ref q9), (0, .ref h), (1, .int x), (2, .int w), (3, .ref o)]) hx hb dL_print_13 hl (by decide) rfl (fun ls hl => ?_)
      refine lv_iconst (v := 1) hx hb dL_print_15 (by decide) ?_
      exact W.iret (v := 1) hx hb hr (fun t ht hW => ⟨⟨1, (u, f9), rfl, Or.inr ⟨rfl, R_iob, Or.inl ⟨rfl, hE⟩, Or.inl ⟨rfl, rfl⟩⟩, by rw [ht]; exact hI.1, va_K.moved hW.alike hK, hI.2.1⟩, hI.2.2.F ht⟩) hI.2.2.2.2 dL_print_16 hlocks
    · refine vx_catch hown [⟨0, 10, 13, 13⟩] ⟨0, 10, 17, 15⟩ [⟨0, 10, 21, 17⟩] (by rw [htab]; rfl) (List.forall_mem_cons.mpr ⟨Or.inr ⟨by decide, R_iob, hts (.classLink RL 13 R_iob) (by decide +kernel), hZ.2.2.2.2.2.1⟩, (fun _ hz => absurd hz List.not_mem_nil)⟩) (by decide) (by decide) (hts (.classLink RL 15 R_iae) (by decide +kernel)) (va_Nw.use rfl hZ.2.2.2.1) h1 h2 h3 ?_
      refine lv_astore (lv' := [(4, .ref q9), (0, .ref h), (1, .int x), (2, .int w), (3, .ref o)]) hx hb dL_print_17 hl (by decide) rfl (fun ls hl => ?_)
      refine lv_iconst (v := 2) hx hb dL_print_19 (by decide) ?_
      exact W.iret (v := 2) hx hb hr (fun t ht hW => ⟨⟨2, (u, f9), rfl, Or.inr ⟨rfl, R_iae, Or.inr (Or.inl ⟨rfl, hE⟩), Or.inr (Or.inl ⟨rfl, rfl⟩)⟩, by rw [ht]; exact hI.1, va_K.moved hW.alike hK, hI.2.1⟩, hI.2.2.F ht⟩) hI.2.2.2.2 dL_print_20 hlocks
    · refine vx_catch hown [⟨0, 10, 13, 13⟩, ⟨0, 10, 17, 15⟩] ⟨0, 10, 21, 17⟩ [] (by rw [htab]; rfl) (List.forall_mem_cons.mpr ⟨Or.inr ⟨by decide, R_iob, hts (.classLink RL 13 R_iob) (by decide +kernel), hZ.2.2.2.2.2.2.1⟩, (List.forall_mem_cons.mpr ⟨Or.inr ⟨by decide, R_iae, hts (.classLink RL 15 R_iae) (by decide +kernel), hZ.2.2.2.2.2.2.2.1⟩, (fun _ hz => absurd hz List.not_mem_nil)⟩)⟩) (by decide) (by decide) (hts (.classLink RL 17 R_ise) (by decide +kernel)) (va_Nw.use rfl hZ.2.2.2.2.1) h1 h2 h3 ?_
      refine lv_astore (lv' := [(4, .ref q9), (0, .ref h), (1, .int x), (2, .int w), (3, .ref o)]) hx hb dL_print_21 hl (by decide) rfl (fun ls hl => ?_)
      refine lv_iconst (v := 3) hx hb dL_print_23 (by decide) ?_
      exact W.iret (v := 3) hx hb hr (fun t ht hW => ⟨⟨3, (u, f9), rfl, Or.inr ⟨rfl, R_ise, Or.inr (Or.inr ⟨rfl, hE⟩), Or.inr (Or.inr ⟨rfl, rfl⟩)⟩, by rw [ht]; exact hI.1, va_K.moved hW.alike hK, hI.2.1⟩, hI.2.2.F ht⟩) hI.2.2.2.2 dL_print_24 hlocks
  · refine lv_i2l (v := r.toInt64) hx hb dL_print_8 rfl ?_
    refine va_last (D := D) hx hb hK hI.1 hI.2.1 hI.2.2 15 1 (cA := cJ) (n := 1) (f := f9) rfl rfl (vp_in_nI (n := 0) (by decide) (by decide)) dL_print_9 (fun H locs hP hD hS => ?_)
    have hI : cp_I D (cp_wX cI h a u1 ++ cp_wO cJ o (vp_updL f9 0 r.toInt64)) A s.heap H locs := ⟨hP, hD, hS⟩
    refine lv_goto (tgt := 25) hx hb dL_print_10 (by decide) ?_
    refine lv_iconst (v := 0) hx hb dL_print_25 (by decide) ?_
    exact W.iret (v := 0) hx hb hr (fun t ht hW => ⟨⟨0, (u1, vp_updL f9 0 r.toInt64), rfl, Or.inl ⟨rfl, r, u1, hp, rfl, rfl⟩, by rw [ht]; exact hI.1, va_K.moved hW.alike hK, hI.2.1⟩, hI.2.2.F ht⟩) hI.2.2.2.2 dL_print_26 hlocks
set_option maxHeartbeats 4000000 in
set_option maxRecDepth 100000 in
theorem c_L_printed (l : Launch) (hst : l.stackTraces = false) (D : va_G) (cI cJ : ClassId) (h : Nat) (a : Nat → Nat) (o : Nat) (u : cp_M) (f9 : Nat → Int64) (x : Int32) (y : Int32) (hN1 : cp_cn u 1 16) : ∀ sz : Nat, Met l yL_printed wsL_printed ({ frames := 8, cells := 1, slots := 6, locals := 123 } : Room) (va_Pc [.ref h, .int x, .int y, .ref o] (cp_preZ D [(cI, .int), (cJ, .long)] (cp_wX cI h a u ++ cp_wO cJ o f9) sz)) (va_Qi (fun (k : Int32) (v : cp_M × (Nat → Int64)) => (k = 0 ∧ ∃ (r : Int32) (u1 : cp_M), (∃ g k, g < cp_n u 1 ∧ k ≤ 3 ∧ x = nI g ∧ y = nI k ∧ r = u 6 (g * 4 + k) ∧ u1 = u) ∧ v.1 = u1 ∧ v.2 0 = r.toInt64) ∨ (v.1 = u ∧ ∃ E, (E = R_iob ∧ ¬ (cp_bw x 0 (u 14 1 - 1) ∧ cp_bw y 0 3)) ∧ ((E = R_iob ∧ k = 1)))) (cp_B D [(cI, .int), (cJ, .long)] cI cJ h a o (va_A (cp_wX cI h a u ++ cp_wO cJ o f9) sz)) (va_A (cp_wX cI h a u ++ cp_wO cJ o f9) sz)) 1 6 (va_A (cp_wX cI h a u ++ cp_wO cJ o f9) sz) := by
  refine cp_MetL (Qk := fun A => va_Qi (fun (k : Int32) (v : cp_M × (Nat → Int64)) => (k = 0 ∧ ∃ (r : Int32) (u1 : cp_M), (∃ g k, g < cp_n u 1 ∧ k ≤ 3 ∧ x = nI g ∧ y = nI k ∧ r = u 6 (g * 4 + k) ∧ u1 = u) ∧ v.1 = u1 ∧ v.2 0 = r.toInt64) ∨ (v.1 = u ∧ ∃ E, (E = R_iob ∧ ¬ (cp_bw x 0 (u 14 1 - 1) ∧ cp_bw y 0 3)) ∧ ((E = R_iob ∧ k = 1)))) (cp_B D [(cI, .int), (cJ, .long)] cI cJ h a o A) A) (by decide) rfl (Nat.le_of_ble_eq_true rfl) ?_
  intro p e s m args below meth c A hC hA hK hI hZ htab ls hl
  obtain ⟨hx, hb, hml, hown, hts, hr, hlocks⟩ := hC
  have hown : s.vm.findClass RL = some m.cls := hown
  have hl : lv_has ls 5 [(0, .ref h), (1, .int x), (2, .int y), (3, .ref o)] := hl
  refine lv_aload_n hx hb dL_printed_0 rfl (lv_at hl 3 rfl) ?_
  refine lv_iconst (v := 0) hx hb dL_printed_1 (by decide) ?_
  refine lv_aload_n hx hb dL_printed_2 rfl (lv_at hl 0 rfl) ?_
  refine lv_iload_n hx hb dL_printed_3 rfl (lv_at hl 1 rfl) ?_
  refine lv_iload_n hx hb dL_printed_4 rfl (lv_at hl 2 rfl) ?_
  refine cp_cXi (wc := cp_wX cI h a) (u := u) (wr := cp_wO cJ o f9) (As := [.int x, .int y]) (rest := [.int 0, .ref o]) ⟨hx, hb, hml, hown, hts⟩ (c_X0_printed l hst D cI h a u x y hN1) (cwV 2 hts gL_printed_X0_printed rfl rfl rfl (by decide +kernel) ⟨Nat.le_of_ble_eq_true rfl, Nat.le_of_ble_eq_true rfl⟩) (hK.sub [0] rfl) hI hA hZ ⟨_, cp_hX _ _ _ _⟩ rfl rfl rfl hl.1 rfl (Nat.le_of_ble_eq_true rfl) dL_printed_5 ⟨Nat.le_of_ble_eq_true rfl, Nat.le_of_ble_eq_true rfl⟩ (fun E ce q9 H locs hE hI h1 h2 h3 => ?_) (fun r u1 H locs hp hI => ?_)
  · rcases hE with ⟨rfl, hE⟩
    · refine vx_catch hown [] ⟨0, 10, 13, 13⟩ [] (by rw [htab]; rfl) (fun _ hz => absurd hz List.not_mem_nil) (by decide) (by decide) (hts (.classLink RL 13 R_iob) (by decide +kernel)) (va_Nw.use rfl hZ.2.2.1) h1 h2 h3 ?_
      refine lv_astore (lv' := [(4, .ref q9), (0, .ref h), (1, .int x), (2, .int y), (3, .ref o)]) hx hb dL_printed_13 hl (by decide) rfl (fun ls hl => ?_)
      refine lv_iconst (v := 1) hx hb dL_printed_15 (by decide) ?_
      exact W.iret (v := 1) hx hb hr (fun t ht hW => ⟨⟨1, (u, f9), rfl, Or.inr ⟨rfl, R_iob, ⟨rfl, hE⟩, ⟨rfl, rfl⟩⟩, by rw [ht]; exact hI.1, va_K.moved hW.alike hK, hI.2.1⟩, hI.2.2.F ht⟩) hI.2.2.2.2 dL_printed_16 hlocks
  · refine lv_i2l (v := r.toInt64) hx hb dL_printed_8 rfl ?_
    refine va_last (D := D) hx hb hK hI.1 hI.2.1 hI.2.2 15 1 (cA := cJ) (n := 1) (f := f9) rfl rfl (vp_in_nI (n := 0) (by decide) (by decide)) dL_printed_9 (fun H locs hP hD hS => ?_)
    have hI : cp_I D (cp_wX cI h a u1 ++ cp_wO cJ o (vp_updL f9 0 r.toInt64)) A s.heap H locs := ⟨hP, hD, hS⟩
    refine lv_goto (tgt := 17) hx hb dL_printed_10 (by decide) ?_
    refine lv_iconst (v := 0) hx hb dL_printed_17 (by decide) ?_
    exact W.iret (v := 0) hx hb hr (fun t ht hW => ⟨⟨0, (u1, vp_updL f9 0 r.toInt64), rfl, Or.inl ⟨rfl, r, u1, hp, rfl, rfl⟩, by rw [ht]; exact hI.1, va_K.moved hW.alike hK, hI.2.1⟩, hI.2.2.F ht⟩) hI.2.2.2.2 dL_printed_18 hlocks
set_option maxHeartbeats 4000000 in
set_option maxRecDepth 100000 in
theorem c_L_learn (l : Launch) (hst : l.stackTraces = false) (D : va_G) (cI cJ : ClassId) (h : Nat) (a : Nat → Nat) (o : Nat) (u : cp_M) (f9 : Nat → Int64) (ch : Int32) (x : Int32) (hN1 : cp_cn u 1 16) : ∀ sz : Nat, Met l yL_learn wsL_learn ({ frames := 8, cells := 1, slots := 6, locals := 123 } : Room) (va_Pc [.ref h, .int ch, .int x, .ref o] (cp_preZ D [(cI, .int), (cJ, .long)] (cp_wX cI h a u ++ cp_wO cJ o f9) sz)) (va_Qi (fun (k : Int32) (v : cp_M × (Nat → Int64)) => (k = 0 ∧ ∃ (r : Int32) (u1 : cp_M), (∃ g, g < cp_n u 1 ∧ x = nI g ∧ cp_bw ch 0 3 ∧ r = cp_b (cp_inS ch (u 5 g ^^^ (1 <<< (ch &&& 31))).toInt64) ∧ u1 = cp_up u 5 (upd (u 5) g (u 5 g ^^^ (1 <<< (ch &&& 31))))) ∧ v.1 = u1 ∧ v.2 0 = r.toInt64) ∨ (v.1 = u ∧ ∃ E, (E = R_iob ∧ ¬ (cp_bw ch 0 3 ∧ cp_bw x 0 (u 14 1 - 1))) ∧ ((E = R_iob ∧ k = 1)))) (cp_B D [(cI, .int), (cJ, .long)] cI cJ h a o (va_A (cp_wX cI h a u ++ cp_wO cJ o f9) sz)) (va_A (cp_wX cI h a u ++ cp_wO cJ o f9) sz)) 1 6 (va_A (cp_wX cI h a u ++ cp_wO cJ o f9) sz) := by
  refine cp_MetL (Qk := fun A => va_Qi (fun (k : Int32) (v : cp_M × (Nat → Int64)) => (k = 0 ∧ ∃ (r : Int32) (u1 : cp_M), (∃ g, g < cp_n u 1 ∧ x = nI g ∧ cp_bw ch 0 3 ∧ r = cp_b (cp_inS ch (u 5 g ^^^ (1 <<< (ch &&& 31))).toInt64) ∧ u1 = cp_up u 5 (upd (u 5) g (u 5 g ^^^ (1 <<< (ch &&& 31))))) ∧ v.1 = u1 ∧ v.2 0 = r.toInt64) ∨ (v.1 = u ∧ ∃ E, (E = R_iob ∧ ¬ (cp_bw ch 0 3 ∧ cp_bw x 0 (u 14 1 - 1))) ∧ ((E = R_iob ∧ k = 1)))) (cp_B D [(cI, .int), (cJ, .long)] cI cJ h a o A) A) (by decide) rfl (Nat.le_of_ble_eq_true rfl) ?_
  intro p e s m args below meth c A hC hA hK hI hZ htab ls hl
  obtain ⟨hx, hb, hml, hown, hts, hr, hlocks⟩ := hC
  have hown : s.vm.findClass RL = some m.cls := hown
  have hl : lv_has ls 5 [(0, .ref h), (1, .int ch), (2, .int x), (3, .ref o)] := hl
  refine lv_aload_n hx hb dL_learn_0 rfl (lv_at hl 3 rfl) ?_
  refine lv_iconst (v := 0) hx hb dL_learn_1 (by decide) ?_
  refine lv_aload_n hx hb dL_learn_2 rfl (lv_at hl 0 rfl) ?_
  refine lv_iload_n hx hb dL_learn_3 rfl (lv_at hl 1 rfl) ?_
  refine lv_iload_n hx hb dL_learn_4 rfl (lv_at hl 2 rfl) ?_
  refine cp_cXi (wc := cp_wX cI h a) (u := u) (wr := cp_wO cJ o f9) (As := [.int ch, .int x]) (rest := [.int 0, .ref o]) ⟨hx, hb, hml, hown, hts⟩ (c_X0_learn l hst D cI h a u ch x hN1) (cwV 2 hts gL_learn_X0_learn rfl rfl rfl (by decide +kernel) ⟨Nat.le_of_ble_eq_true rfl, Nat.le_of_ble_eq_true rfl⟩) (hK.sub [0] rfl) hI hA hZ ⟨_, cp_hX _ _ _ _⟩ rfl rfl rfl hl.1 rfl (Nat.le_of_ble_eq_true rfl) dL_learn_5 ⟨Nat.le_of_ble_eq_true rfl, Nat.le_of_ble_eq_true rfl⟩ (fun E ce q9 H locs hE hI h1 h2 h3 => ?_) (fun r u1 H locs hp hI => ?_)
  · rcases hE with ⟨rfl, hE⟩
    · refine vx_catch hown [] ⟨0, 17, 20, 13⟩ [] (by rw [htab]; rfl) (fun _ hz => absurd hz List.not_mem_nil) (by decide) (by decide) (hts (.classLink RL 13 R_iob) (by decide +kernel)) (va_Nw.use rfl hZ.2.2.1) h1 h2 h3 ?_
      refine lv_astore (lv' := [(4, .ref q9), (0, .ref h), (1, .int ch), (2, .int x), (3, .ref o)]) hx hb dL_learn_20 hl (by decide) rfl (fun ls hl => ?_)
      refine lv_iconst (v := 1) hx hb dL_learn_22 (by decide) ?_
      exact W.iret (v := 1) hx hb hr (fun t ht hW => ⟨⟨1, (u, f9), rfl, Or.inr ⟨rfl, R_iob, ⟨rfl, hE⟩, ⟨rfl, rfl⟩⟩, by rw [ht]; exact hI.1, va_K.moved hW.alike hK, hI.2.1⟩, hI.2.2.F ht⟩) hI.2.2.2.2 dL_learn_23 hlocks
  · have h01 : r = 0 ∨ r = 1 := by obtain ⟨g, _, _, _, h9, _⟩ := hp; exact cp_b01 h9
    refine lv_if_eq (tgt := 15) hx hb dL_learn_8 (by decide) (fun c9 => ?_) (fun c9 => ?_)
    · refine lv_lconst (v := 0) hx hb dL_learn_15 (by decide) ?_
      refine va_last (D := D) hx hb hK hI.1 hI.2.1 hI.2.2 15 1 (cA := cJ) (n := 1) (f := f9) rfl rfl (vp_in_nI (n := 0) (by decide) (by decide)) dL_learn_16 (fun H locs hP hD hS => ?_)
      have hI : cp_I D (cp_wX cI h a u1 ++ cp_wO cJ o (vp_updL f9 0 0)) A s.heap H locs := ⟨hP, hD, hS⟩
      refine lv_goto (tgt := 24) hx hb dL_learn_17 (by decide) ?_
      refine lv_iconst (v := 0) hx hb dL_learn_24 (by decide) ?_
      exact W.iret (v := 0) hx hb hr (fun t ht hW => ⟨⟨0, (u1, vp_updL f9 0 0), rfl, Or.inl ⟨rfl, r, u1, hp, rfl, (by rw [c9]; rfl)⟩, by rw [ht]; exact hI.1, va_K.moved hW.alike hK, hI.2.1⟩, hI.2.2.F ht⟩) hI.2.2.2.2 dL_learn_25 hlocks
    · refine lv_lconst (v := 1) hx hb dL_learn_11 (by decide) ?_
      refine lv_goto (tgt := 16) hx hb dL_learn_12 (by decide) ?_
      refine va_last (D := D) hx hb hK hI.1 hI.2.1 hI.2.2 15 1 (cA := cJ) (n := 1) (f := f9) rfl rfl (vp_in_nI (n := 0) (by decide) (by decide)) dL_learn_16 (fun H locs hP hD hS => ?_)
      have hI : cp_I D (cp_wX cI h a u1 ++ cp_wO cJ o (vp_updL f9 0 1)) A s.heap H locs := ⟨hP, hD, hS⟩
      refine lv_goto (tgt := 24) hx hb dL_learn_17 (by decide) ?_
      refine lv_iconst (v := 0) hx hb dL_learn_24 (by decide) ?_
      exact W.iret (v := 0) hx hb hr (fun t ht hW => ⟨⟨0, (u1, vp_updL f9 0 1), rfl, Or.inl ⟨rfl, r, u1, hp, rfl, (by rw [h01.resolve_left c9]; rfl)⟩, by rw [ht]; exact hI.1, va_K.moved hW.alike hK, hI.2.1⟩, hI.2.2.F ht⟩) hI.2.2.2.2 dL_learn_25 hlocks
set_option maxHeartbeats 4000000 in
set_option maxRecDepth 100000 in
theorem c_L_service (l : Launch) (hst : l.stackTraces = false) (D : va_G) (cI cJ : ClassId) (h : Nat) (a : Nat → Nat) (o : Nat) (u : cp_M) (f9 : Nat → Int64) (ch : Int32) (z : Int32) (hN1 : cp_cn u 1 16) (hN2 : cp_cn u 2 40) (hN3 : cp_cn u 3 40) : ∀ sz : Nat, Met l yL_service wsL_service ({ frames := 8, cells := 1, slots := 6, locals := 139 } : Room) (va_Pc [.ref h, .int ch, .int z, .ref o] (cp_preZ D [(cI, .int), (cJ, .long)] (cp_wX cI h a u ++ cp_wO cJ o f9) sz)) (va_Qi (fun (k : Int32) (v : cp_M × (Nat → Int64)) => (k = 0 ∧ ∃ (r : Int32) (u1 : cp_M), ((cp_bw ch 0 3) ∧ (cp_bw z (u 14 0) 1459) ∧ (¬ (40 : Int32) ≤ u 14 3 ∧ ¬ cp_hasS u ch z) ∧ r = u 14 3 ∧ u1 = cp_plan (cp_addS u ch z) (cp_n u 3)) ∧ v.1 = u1 ∧ v.2 0 = r.toInt64) ∨ (v.1 = u ∧ ∃ E, ((E = R_iob ∧ ¬ (cp_bw ch 0 3)) ∨ (E = R_iae ∧ (cp_bw ch 0 3) ∧ ¬ (cp_bw z (u 14 0) 1459)) ∨ (E = R_ise ∧ (cp_bw ch 0 3) ∧ (cp_bw z (u 14 0) 1459) ∧ ¬ (¬ (40 : Int32) ≤ u 14 3 ∧ ¬ cp_hasS u ch z))) ∧ ((E = R_iob ∧ k = 1) ∨ (E = R_iae ∧ k = 2) ∨ (E = R_ise ∧ k = 3)))) (cp_B D [(cI, .int), (cJ, .long)] cI cJ h a o (va_A (cp_wX cI h a u ++ cp_wO cJ o f9) sz)) (va_A (cp_wX cI h a u ++ cp_wO cJ o f9) sz)) 1 6 (va_A (cp_wX cI h a u ++ cp_wO cJ o f9) sz) := by
  refine cp_MetL (Qk := fun A => va_Qi (fun (k : Int32) (v : cp_M × (Nat → Int64)) => (k = 0 ∧ ∃ (r : Int32) (u1 : cp_M), ((cp_bw ch 0 3) ∧ (cp_bw z (u 14 0) 1459) ∧ (¬ (40 : Int32) ≤ u 14 3 ∧ ¬ cp_hasS u ch z) ∧ r = u 14 3 ∧ u1 = cp_plan (cp_addS u ch z) (cp_n u 3)) ∧ v.1 = u1 ∧ v.2 0 = r.toInt64) ∨ (v.1 = u ∧ ∃ E, ((E = R_iob ∧ ¬ (cp_bw ch 0 3)) ∨ (E = R_iae ∧ (cp_bw ch 0 3) ∧ ¬ (cp_bw z (u 14 0) 1459)) ∨ (E = R_ise ∧ (cp_bw ch 0 3) ∧ (cp_bw z (u 14 0) 1459) ∧ ¬ (¬ (40 : Int32) ≤ u 14 3 ∧ ¬ cp_hasS u ch z))) ∧ ((E = R_iob ∧ k = 1) ∨ (E = R_iae ∧ k = 2) ∨ (E = R_ise ∧ k = 3)))) (cp_B D [(cI, .int), (cJ, .long)] cI cJ h a o A) A) (by decide) rfl (Nat.le_of_ble_eq_true rfl) ?_
  intro p e s m args below meth c A hC hA hK hI hZ htab ls hl
  obtain ⟨hx, hb, hml, hown, hts, hr, hlocks⟩ := hC
  have hown : s.vm.findClass RL = some m.cls := hown
  have hl : lv_has ls 5 [(0, .ref h), (1, .int ch), (2, .int z), (3, .ref o)] := hl
  refine lv_aload_n hx hb dL_service_0 rfl (lv_at hl 3 rfl) ?_
  refine lv_iconst (v := 0) hx hb dL_service_1 (by decide) ?_
  refine lv_aload_n hx hb dL_service_2 rfl (lv_at hl 0 rfl) ?_
  refine lv_iload_n hx hb dL_service_3 rfl (lv_at hl 1 rfl) ?_
  refine lv_iload_n hx hb dL_service_4 rfl (lv_at hl 2 rfl) ?_
  refine cp_cXi (wc := cp_wX cI h a) (u := u) (wr := cp_wO cJ o f9) (As := [.int ch, .int z]) (rest := [.int 0, .ref o]) ⟨hx, hb, hml, hown, hts⟩ (c_X0_service l hst D cI h a u ch z hN1 hN2 hN3) (cwV 2 hts gL_service_X0_service rfl rfl rfl (by decide +kernel) ⟨Nat.le_of_ble_eq_true rfl, Nat.le_of_ble_eq_true rfl⟩) (hK.sub [0] rfl) hI hA hZ ⟨_, cp_hX _ _ _ _⟩ rfl rfl rfl hl.1 rfl (Nat.le_of_ble_eq_true rfl) dL_service_5 ⟨Nat.le_of_ble_eq_true rfl, Nat.le_of_ble_eq_true rfl⟩ (fun E ce q9 H locs hE hI h1 h2 h3 => ?_) (fun r u1 H locs hp hI => ?_)
  · rcases hE with ⟨rfl, hE⟩ | ⟨rfl, hE⟩ | ⟨rfl, hE⟩
    · refine vx_catch hown [] ⟨0, 10, 13, 13⟩ [⟨0, 10, 17, 15⟩, ⟨0, 10, 21, 17⟩] (by rw [htab]; rfl) (fun _ hz => absurd hz List.not_mem_nil) (by decide) (by decide) (hts (.classLink RL 13 R_iob) (by decide +kernel)) (va_Nw.use rfl hZ.2.2.1) h1 h2 h3 ?_
      refine lv_astore (lv' := [(4, .ref q9), (0, .ref h), (1, .int ch), (2, .int z), (3, .ref o)]) hx hb dL_service_13 hl (by decide) rfl (fun ls hl => ?_)
      refine lv_iconst (v := 1) hx hb dL_service_15 (by decide) ?_
      exact W.iret (v := 1) hx hb hr (fun t ht hW => ⟨⟨1, (u, f9), rfl, Or.inr ⟨rfl, R_iob, Or.inl ⟨rfl, hE⟩, Or.inl ⟨rfl, rfl⟩⟩, by rw [ht]; exact hI.1, va_K.moved hW.alike hK, hI.2.1⟩, hI.2.2.F ht⟩) hI.2.2.2.2 dL_service_16 hlocks
    · refine vx_catch hown [⟨0, 10, 13, 13⟩] ⟨0, 10, 17, 15⟩ [⟨0, 10, 21, 17⟩] (by rw [htab]; rfl) (List.forall_mem_cons.mpr ⟨Or.inr ⟨by decide, R_iob, hts (.classLink RL 13 R_iob) (by decide +kernel), hZ.2.2.2.2.2.1⟩, (fun _ hz => absurd hz List.not_mem_nil)⟩) (by decide) (by decide) (hts (.classLink RL 15 R_iae) (by decide +kernel)) (va_Nw.use rfl hZ.2.2.2.1) h1 h2 h3 ?_
      refine lv_astore (lv' := [(4, .ref q9), (0, .ref h), (1, .int ch), (2, .int z), (3, .ref o)]) hx hb dL_service_17 hl (by decide) rfl (fun ls hl => ?_)
      refine lv_iconst (v := 2) hx hb dL_service_19 (by decide) ?_
      exact W.iret (v := 2) hx hb hr (fun t ht hW => ⟨⟨2, (u, f9), rfl, Or.inr ⟨rfl, R_iae, Or.inr (Or.inl ⟨rfl, hE⟩), Or.inr (Or.inl ⟨rfl, rfl⟩)⟩, by rw [ht]; exact hI.1, va_K.moved hW.alike hK, hI.2.1⟩, hI.2.2.F ht⟩) hI.2.2.2.2 dL_service_20 hlocks
    · refine vx_catch hown [⟨0, 10, 13, 13⟩, ⟨0, 10, 17, 15⟩] ⟨0, 10, 21, 17⟩ [] (by rw [htab]; rfl) (List.forall_mem_cons.mpr ⟨Or.inr ⟨by decide, R_iob, hts (.classLink RL 13 R_iob) (by decide +kernel), hZ.2.2.2.2.2.2.1⟩, (List.forall_mem_cons.mpr ⟨Or.inr ⟨by decide, R_iae, hts (.classLink RL 15 R_iae) (by decide +kernel), hZ.2.2.2.2.2.2.2.1⟩, (fun _ hz => absurd hz List.not_mem_nil)⟩)⟩) (by decide) (by decide) (hts (.classLink RL 17 R_ise) (by decide +kernel)) (va_Nw.use rfl hZ.2.2.2.2.1) h1 h2 h3 ?_
      refine lv_astore (lv' := [(4, .ref q9), (0, .ref h), (1, .int ch), (2, .int z), (3, .ref o)]) hx hb dL_service_21 hl (by decide) rfl (fun ls hl => ?_)
      refine lv_iconst (v := 3) hx hb dL_service_23 (by decide) ?_
      exact W.iret (v := 3) hx hb hr (fun t ht hW => ⟨⟨3, (u, f9), rfl, Or.inr ⟨rfl, R_ise, Or.inr (Or.inr ⟨rfl, hE⟩), Or.inr (Or.inr ⟨rfl, rfl⟩)⟩, by rw [ht]; exact hI.1, va_K.moved hW.alike hK, hI.2.1⟩, hI.2.2.F ht⟩) hI.2.2.2.2 dL_service_24 hlocks
  · refine lv_i2l (v := r.toInt64) hx hb dL_service_8 rfl ?_
    refine va_last (D := D) hx hb hK hI.1 hI.2.1 hI.2.2 15 1 (cA := cJ) (n := 1) (f := f9) rfl rfl (vp_in_nI (n := 0) (by decide) (by decide)) dL_service_9 (fun H locs hP hD hS => ?_)
    have hI : cp_I D (cp_wX cI h a u1 ++ cp_wO cJ o (vp_updL f9 0 r.toInt64)) A s.heap H locs := ⟨hP, hD, hS⟩
    refine lv_goto (tgt := 25) hx hb dL_service_10 (by decide) ?_
    refine lv_iconst (v := 0) hx hb dL_service_25 (by decide) ?_
    exact W.iret (v := 0) hx hb hr (fun t ht hW => ⟨⟨0, (u1, vp_updL f9 0 r.toInt64), rfl, Or.inl ⟨rfl, r, u1, hp, rfl, rfl⟩, by rw [ht]; exact hI.1, va_K.moved hW.alike hK, hI.2.1⟩, hI.2.2.F ht⟩) hI.2.2.2.2 dL_service_26 hlocks
set_option maxHeartbeats 4000000 in
set_option maxRecDepth 100000 in
theorem c_L_plan (l : Launch) (hst : l.stackTraces = false) (D : va_G) (cI cJ : ClassId) (h : Nat) (a : Nat → Nat) (o : Nat) (u : cp_M) (f9 : Nat → Int64) (x : Int32) (hN1 : cp_cn u 1 16) (hN2 : cp_cn u 2 40) (hN3 : cp_cn u 3 40) : ∀ sz : Nat, Met l yL_plan wsL_plan ({ frames := 8, cells := 1, slots := 6, locals := 137 } : Room) (va_Pc [.ref h, .int x, .ref o] (cp_preZ D [(cI, .int), (cJ, .long)] (cp_wX cI h a u ++ cp_wO cJ o f9) sz)) (va_Qi (fun (k : Int32) (v : cp_M × (Nat → Int64)) => (k = 0 ∧ ∃ (r : Int32) (u1 : cp_M), (∃ g, g < cp_n u 3 ∧ x = nI g ∧ ¬ u 12 g < u 14 0 ∧ r = cp_plan u g 13 g ∧ u1 = cp_plan u g) ∧ v.1 = u1 ∧ v.2 0 = r.toInt64) ∨ (v.1 = u ∧ ∃ E, ((E = R_iob ∧ ¬ (cp_bw x 0 (u 14 3 - 1))) ∨ (E = R_ise ∧ ∃ g, g < cp_n u 3 ∧ x = nI g ∧ u 12 g < u 14 0)) ∧ ((E = R_iob ∧ k = 1) ∨ (E = R_ise ∧ k = 2)))) (cp_B D [(cI, .int), (cJ, .long)] cI cJ h a o (va_A (cp_wX cI h a u ++ cp_wO cJ o f9) sz)) (va_A (cp_wX cI h a u ++ cp_wO cJ o f9) sz)) 1 6 (va_A (cp_wX cI h a u ++ cp_wO cJ o f9) sz) := by
  refine cp_MetL (Qk := fun A => va_Qi (fun (k : Int32) (v : cp_M × (Nat → Int64)) => (k = 0 ∧ ∃ (r : Int32) (u1 : cp_M), (∃ g, g < cp_n u 3 ∧ x = nI g ∧ ¬ u 12 g < u 14 0 ∧ r = cp_plan u g 13 g ∧ u1 = cp_plan u g) ∧ v.1 = u1 ∧ v.2 0 = r.toInt64) ∨ (v.1 = u ∧ ∃ E, ((E = R_iob ∧ ¬ (cp_bw x 0 (u 14 3 - 1))) ∨ (E = R_ise ∧ ∃ g, g < cp_n u 3 ∧ x = nI g ∧ u 12 g < u 14 0)) ∧ ((E = R_iob ∧ k = 1) ∨ (E = R_ise ∧ k = 2)))) (cp_B D [(cI, .int), (cJ, .long)] cI cJ h a o A) A) (by decide) rfl (Nat.le_of_ble_eq_true rfl) ?_
  intro p e s m args below meth c A hC hA hK hI hZ htab ls hl
  obtain ⟨hx, hb, hml, hown, hts, hr, hlocks⟩ := hC
  have hown : s.vm.findClass RL = some m.cls := hown
  have hl : lv_has ls 4 [(0, .ref h), (1, .int x), (2, .ref o)] := hl
  refine lv_aload_n hx hb dL_plan_0 rfl (lv_at hl 2 rfl) ?_
  refine lv_iconst (v := 0) hx hb dL_plan_1 (by decide) ?_
  refine lv_aload_n hx hb dL_plan_2 rfl (lv_at hl 0 rfl) ?_
  refine lv_iload_n hx hb dL_plan_3 rfl (lv_at hl 1 rfl) ?_
  refine cp_cXi (wc := cp_wX cI h a) (u := u) (wr := cp_wO cJ o f9) (As := [.int x]) (rest := [.int 0, .ref o]) ⟨hx, hb, hml, hown, hts⟩ (c_X0_plan l hst D cI h a u x hN1 hN2 hN3) (cwV 1 hts gL_plan_X0_plan rfl rfl rfl (by decide +kernel) ⟨Nat.le_of_ble_eq_true rfl, Nat.le_of_ble_eq_true rfl⟩) (hK.sub [0] rfl) hI hA hZ ⟨_, cp_hX _ _ _ _⟩ rfl rfl rfl hl.1 rfl (Nat.le_of_ble_eq_true rfl) dL_plan_4 ⟨Nat.le_of_ble_eq_true rfl, Nat.le_of_ble_eq_true rfl⟩ (fun E ce q9 H locs hE hI h1 h2 h3 => ?_) (fun r u1 H locs hp hI => ?_)
  · rcases hE with ⟨rfl, hE⟩ | ⟨rfl, hE⟩
    · refine vx_catch hown [] ⟨0, 9, 12, 13⟩ [⟨0, 9, 15, 17⟩] (by rw [htab]; rfl) (fun _ hz => absurd hz List.not_mem_nil) (by decide) (by decide) (hts (.classLink RL 13 R_iob) (by decide +kernel)) (va_Nw.use rfl hZ.2.2.1) h1 h2 h3 ?_
      refine lv_astore_n (lv' := [(3, .ref q9), (0, .ref h), (1, .int x), (2, .ref o)]) hx hb dL_plan_12 rfl hl (by decide) rfl (fun ls hl => ?_)
      refine lv_iconst (v := 1) hx hb dL_plan_13 (by decide) ?_
      exact W.iret (v := 1) hx hb hr (fun t ht hW => ⟨⟨1, (u, f9), rfl, Or.inr ⟨rfl, R_iob, Or.inl ⟨rfl, hE⟩, Or.inl ⟨rfl, rfl⟩⟩, by rw [ht]; exact hI.1, va_K.moved hW.alike hK, hI.2.1⟩, hI.2.2.F ht⟩) hI.2.2.2.2 dL_plan_14 hlocks
    · refine vx_catch hown [⟨0, 9, 12, 13⟩] ⟨0, 9, 15, 17⟩ [] (by rw [htab]; rfl) (List.forall_mem_cons.mpr ⟨Or.inr ⟨by decide, R_iob, hts (.classLink RL 13 R_iob) (by decide +kernel), hZ.2.2.2.2.2.2.1⟩, (fun _ hz => absurd hz List.not_mem_nil)⟩) (by decide) (by decide) (hts (.classLink RL 17 R_ise) (by decide +kernel)) (va_Nw.use rfl hZ.2.2.2.2.1) h1 h2 h3 ?_
      refine lv_astore_n (lv' := [(3, .ref q9), (0, .ref h), (1, .int x), (2, .ref o)]) hx hb dL_plan_15 rfl hl (by decide) rfl (fun ls hl => ?_)
      refine lv_iconst (v := 2) hx hb dL_plan_16 (by decide) ?_
      exact W.iret (v := 2) hx hb hr (fun t ht hW => ⟨⟨2, (u, f9), rfl, Or.inr ⟨rfl, R_ise, Or.inr ⟨rfl, hE⟩, Or.inr ⟨rfl, rfl⟩⟩, by rw [ht]; exact hI.1, va_K.moved hW.alike hK, hI.2.1⟩, hI.2.2.F ht⟩) hI.2.2.2.2 dL_plan_17 hlocks
  · refine lv_i2l (v := r.toInt64) hx hb dL_plan_7 rfl ?_
    refine va_last (D := D) hx hb hK hI.1 hI.2.1 hI.2.2 15 1 (cA := cJ) (n := 1) (f := f9) rfl rfl (vp_in_nI (n := 0) (by decide) (by decide)) dL_plan_8 (fun H locs hP hD hS => ?_)
    have hI : cp_I D (cp_wX cI h a u1 ++ cp_wO cJ o (vp_updL f9 0 r.toInt64)) A s.heap H locs := ⟨hP, hD, hS⟩
    refine lv_goto (tgt := 18) hx hb dL_plan_9 (by decide) ?_
    refine lv_iconst (v := 0) hx hb dL_plan_18 (by decide) ?_
    exact W.iret (v := 0) hx hb hr (fun t ht hW => ⟨⟨0, (u1, vp_updL f9 0 r.toInt64), rfl, Or.inl ⟨rfl, r, u1, hp, rfl, rfl⟩, by rw [ht]; exact hI.1, va_K.moved hW.alike hK, hI.2.1⟩, hI.2.2.F ht⟩) hI.2.2.2.2 dL_plan_19 hlocks
set_option maxHeartbeats 4000000 in
set_option maxRecDepth 100000 in
theorem c_L_hymnOf (l : Launch) (hst : l.stackTraces = false) (D : va_G) (cI cJ : ClassId) (h : Nat) (a : Nat → Nat) (o : Nat) (u : cp_M) (f9 : Nat → Int64) (x : Int32) (hN3 : cp_cn u 3 40) : ∀ sz : Nat, Met l yL_hymnOf wsL_hymnOf ({ frames := 8, cells := 1, slots := 6, locals := 122 } : Room) (va_Pc [.ref h, .int x, .ref o] (cp_preZ D [(cI, .int), (cJ, .long)] (cp_wX cI h a u ++ cp_wO cJ o f9) sz)) (va_Qi (fun (k : Int32) (v : cp_M × (Nat → Int64)) => (k = 0 ∧ ∃ (r : Int32) (u1 : cp_M), (∃ g, g < cp_n u 3 ∧ x = nI g ∧ r = u 13 g ∧ u1 = u) ∧ v.1 = u1 ∧ v.2 0 = r.toInt64) ∨ (v.1 = u ∧ ∃ E, (E = R_iob ∧ ¬ (cp_bw x 0 (u 14 3 - 1))) ∧ ((E = R_iob ∧ k = 1)))) (cp_B D [(cI, .int), (cJ, .long)] cI cJ h a o (va_A (cp_wX cI h a u ++ cp_wO cJ o f9) sz)) (va_A (cp_wX cI h a u ++ cp_wO cJ o f9) sz)) 1 6 (va_A (cp_wX cI h a u ++ cp_wO cJ o f9) sz) := by
  refine cp_MetL (Qk := fun A => va_Qi (fun (k : Int32) (v : cp_M × (Nat → Int64)) => (k = 0 ∧ ∃ (r : Int32) (u1 : cp_M), (∃ g, g < cp_n u 3 ∧ x = nI g ∧ r = u 13 g ∧ u1 = u) ∧ v.1 = u1 ∧ v.2 0 = r.toInt64) ∨ (v.1 = u ∧ ∃ E, (E = R_iob ∧ ¬ (cp_bw x 0 (u 14 3 - 1))) ∧ ((E = R_iob ∧ k = 1)))) (cp_B D [(cI, .int), (cJ, .long)] cI cJ h a o A) A) (by decide) rfl (Nat.le_of_ble_eq_true rfl) ?_
  intro p e s m args below meth c A hC hA hK hI hZ htab ls hl
  obtain ⟨hx, hb, hml, hown, hts, hr, hlocks⟩ := hC
  have hown : s.vm.findClass RL = some m.cls := hown
  have hl : lv_has ls 4 [(0, .ref h), (1, .int x), (2, .ref o)] := hl
  refine lv_aload_n hx hb dL_hymnOf_0 rfl (lv_at hl 2 rfl) ?_
  refine lv_iconst (v := 0) hx hb dL_hymnOf_1 (by decide) ?_
  refine lv_aload_n hx hb dL_hymnOf_2 rfl (lv_at hl 0 rfl) ?_
  refine lv_iload_n hx hb dL_hymnOf_3 rfl (lv_at hl 1 rfl) ?_
  refine cp_cXi (wc := cp_wX cI h a) (u := u) (wr := cp_wO cJ o f9) (As := [.int x]) (rest := [.int 0, .ref o]) ⟨hx, hb, hml, hown, hts⟩ (c_X0_hymnOf l hst D cI h a u x hN3) (cwV 1 hts gL_hymnOf_X0_hymnOf rfl rfl rfl (by decide +kernel) ⟨Nat.le_of_ble_eq_true rfl, Nat.le_of_ble_eq_true rfl⟩) (hK.sub [0] rfl) hI hA hZ ⟨_, cp_hX _ _ _ _⟩ rfl rfl rfl hl.1 rfl (Nat.le_of_ble_eq_true rfl) dL_hymnOf_4 ⟨Nat.le_of_ble_eq_true rfl, Nat.le_of_ble_eq_true rfl⟩ (fun E ce q9 H locs hE hI h1 h2 h3 => ?_) (fun r u1 H locs hp hI => ?_)
  · rcases hE with ⟨rfl, hE⟩
    · refine vx_catch hown [] ⟨0, 9, 12, 13⟩ [] (by rw [htab]; rfl) (fun _ hz => absurd hz List.not_mem_nil) (by decide) (by decide) (hts (.classLink RL 13 R_iob) (by decide +kernel)) (va_Nw.use rfl hZ.2.2.1) h1 h2 h3 ?_
      refine lv_astore_n (lv' := [(3, .ref q9), (0, .ref h), (1, .int x), (2, .ref o)]) hx hb dL_hymnOf_12 rfl hl (by decide) rfl (fun ls hl => ?_)
      refine lv_iconst (v := 1) hx hb dL_hymnOf_13 (by decide) ?_
      exact W.iret (v := 1) hx hb hr (fun t ht hW => ⟨⟨1, (u, f9), rfl, Or.inr ⟨rfl, R_iob, ⟨rfl, hE⟩, ⟨rfl, rfl⟩⟩, by rw [ht]; exact hI.1, va_K.moved hW.alike hK, hI.2.1⟩, hI.2.2.F ht⟩) hI.2.2.2.2 dL_hymnOf_14 hlocks
  · refine lv_i2l (v := r.toInt64) hx hb dL_hymnOf_7 rfl ?_
    refine va_last (D := D) hx hb hK hI.1 hI.2.1 hI.2.2 15 1 (cA := cJ) (n := 1) (f := f9) rfl rfl (vp_in_nI (n := 0) (by decide) (by decide)) dL_hymnOf_8 (fun H locs hP hD hS => ?_)
    have hI : cp_I D (cp_wX cI h a u1 ++ cp_wO cJ o (vp_updL f9 0 r.toInt64)) A s.heap H locs := ⟨hP, hD, hS⟩
    refine lv_goto (tgt := 15) hx hb dL_hymnOf_9 (by decide) ?_
    refine lv_iconst (v := 0) hx hb dL_hymnOf_15 (by decide) ?_
    exact W.iret (v := 0) hx hb hr (fun t ht hW => ⟨⟨0, (u1, vp_updL f9 0 r.toInt64), rfl, Or.inl ⟨rfl, r, u1, hp, rfl, rfl⟩, by rw [ht]; exact hI.1, va_K.moved hW.alike hK, hI.2.1⟩, hI.2.2.F ht⟩) hI.2.2.2.2 dL_hymnOf_16 hlocks
set_option maxHeartbeats 4000000 in
set_option maxRecDepth 100000 in
theorem c_L_sung (l : Launch) (hst : l.stackTraces = false) (D : va_G) (cI cJ : ClassId) (h : Nat) (a : Nat → Nat) (o : Nat) (u : cp_M) (f9 : Nat → Int64) (ow : Int32) (y : Int32) (hN1 : cp_cn u 1 16) (hN3 : cp_cn u 3 40) : ∀ sz : Nat, Met l yL_sung wsL_sung ({ frames := 8, cells := 1, slots := 6, locals := 126 } : Room) (va_Pc [.ref h, .int ow, .int y, .ref o] (cp_preZ D [(cI, .int), (cJ, .long)] (cp_wX cI h a u ++ cp_wO cJ o f9) sz)) (va_Qi (fun (k : Int32) (v : cp_M × (Nat → Int64)) => (k = 0 ∧ ∃ (r : Int32) (u1 : cp_M), ((cp_bw ow 0 4 ∧ cp_bw y 0 3) ∧ r = nI (cp_cnt (cp_sungP u ow y) (cp_n u 3)) ∧ u1 = u) ∧ v.1 = u1 ∧ v.2 0 = r.toInt64) ∨ (v.1 = u ∧ ∃ E, (E = R_iob ∧ ¬ (cp_bw ow 0 4 ∧ cp_bw y 0 3)) ∧ ((E = R_iob ∧ k = 1)))) (cp_B D [(cI, .int), (cJ, .long)] cI cJ h a o (va_A (cp_wX cI h a u ++ cp_wO cJ o f9) sz)) (va_A (cp_wX cI h a u ++ cp_wO cJ o f9) sz)) 1 6 (va_A (cp_wX cI h a u ++ cp_wO cJ o f9) sz) := by
  refine cp_MetL (Qk := fun A => va_Qi (fun (k : Int32) (v : cp_M × (Nat → Int64)) => (k = 0 ∧ ∃ (r : Int32) (u1 : cp_M), ((cp_bw ow 0 4 ∧ cp_bw y 0 3) ∧ r = nI (cp_cnt (cp_sungP u ow y) (cp_n u 3)) ∧ u1 = u) ∧ v.1 = u1 ∧ v.2 0 = r.toInt64) ∨ (v.1 = u ∧ ∃ E, (E = R_iob ∧ ¬ (cp_bw ow 0 4 ∧ cp_bw y 0 3)) ∧ ((E = R_iob ∧ k = 1)))) (cp_B D [(cI, .int), (cJ, .long)] cI cJ h a o A) A) (by decide) rfl (Nat.le_of_ble_eq_true rfl) ?_
  intro p e s m args below meth c A hC hA hK hI hZ htab ls hl
  obtain ⟨hx, hb, hml, hown, hts, hr, hlocks⟩ := hC
  have hown : s.vm.findClass RL = some m.cls := hown
  have hl : lv_has ls 5 [(0, .ref h), (1, .int ow), (2, .int y), (3, .ref o)] := hl
  refine lv_aload_n hx hb dL_sung_0 rfl (lv_at hl 3 rfl) ?_
  refine lv_iconst (v := 0) hx hb dL_sung_1 (by decide) ?_
  refine lv_aload_n hx hb dL_sung_2 rfl (lv_at hl 0 rfl) ?_
  refine lv_iload_n hx hb dL_sung_3 rfl (lv_at hl 1 rfl) ?_
  refine lv_iload_n hx hb dL_sung_4 rfl (lv_at hl 2 rfl) ?_
  refine cp_cXi (wc := cp_wX cI h a) (u := u) (wr := cp_wO cJ o f9) (As := [.int ow, .int y]) (rest := [.int 0, .ref o]) ⟨hx, hb, hml, hown, hts⟩ (c_X0_sung l hst D cI h a u ow y hN1 hN3) (cwV 2 hts gL_sung_X0_sung rfl rfl rfl (by decide +kernel) ⟨Nat.le_of_ble_eq_true rfl, Nat.le_of_ble_eq_true rfl⟩) (hK.sub [0] rfl) hI hA hZ ⟨_, cp_hX _ _ _ _⟩ rfl rfl rfl hl.1 rfl (Nat.le_of_ble_eq_true rfl) dL_sung_5 ⟨Nat.le_of_ble_eq_true rfl, Nat.le_of_ble_eq_true rfl⟩ (fun E ce q9 H locs hE hI h1 h2 h3 => ?_) (fun r u1 H locs hp hI => ?_)
  · rcases hE with ⟨rfl, hE⟩
    · refine vx_catch hown [] ⟨0, 10, 13, 13⟩ [] (by rw [htab]; rfl) (fun _ hz => absurd hz List.not_mem_nil) (by decide) (by decide) (hts (.classLink RL 13 R_iob) (by decide +kernel)) (va_Nw.use rfl hZ.2.2.1) h1 h2 h3 ?_
      refine lv_astore (lv' := [(4, .ref q9), (0, .ref h), (1, .int ow), (2, .int y), (3, .ref o)]) hx hb dL_sung_13 hl (by decide) rfl (fun ls hl => ?_)
      refine lv_iconst (v := 1) hx hb dL_sung_15 (by decide) ?_
      exact W.iret (v := 1) hx hb hr (fun t ht hW => ⟨⟨1, (u, f9), rfl, Or.inr ⟨rfl, R_iob, ⟨rfl, hE⟩, ⟨rfl, rfl⟩⟩, by rw [ht]; exact hI.1, va_K.moved hW.alike hK, hI.2.1⟩, hI.2.2.F ht⟩) hI.2.2.2.2 dL_sung_16 hlocks
  · refine lv_i2l (v := r.toInt64) hx hb dL_sung_8 rfl ?_
    refine va_last (D := D) hx hb hK hI.1 hI.2.1 hI.2.2 15 1 (cA := cJ) (n := 1) (f := f9) rfl rfl (vp_in_nI (n := 0) (by decide) (by decide)) dL_sung_9 (fun H locs hP hD hS => ?_)
    have hI : cp_I D (cp_wX cI h a u1 ++ cp_wO cJ o (vp_updL f9 0 r.toInt64)) A s.heap H locs := ⟨hP, hD, hS⟩
    refine lv_goto (tgt := 17) hx hb dL_sung_10 (by decide) ?_
    refine lv_iconst (v := 0) hx hb dL_sung_17 (by decide) ?_
    exact W.iret (v := 0) hx hb hr (fun t ht hW => ⟨⟨0, (u1, vp_updL f9 0 r.toInt64), rfl, Or.inl ⟨rfl, r, u1, hp, rfl, rfl⟩, by rw [ht]; exact hI.1, va_K.moved hW.alike hK, hI.2.1⟩, hI.2.2.F ht⟩) hI.2.2.2.2 dL_sung_18 hlocks
set_option maxHeartbeats 4000000 in
set_option maxRecDepth 100000 in
theorem c_L_sungByHymns (l : Launch) (hst : l.stackTraces = false) (D : va_G) (cI cJ : ClassId) (h : Nat) (a : Nat → Nat) (o : Nat) (u : cp_M) (f9 : Nat → Int64) (ow : Int32) (y : Int32) (hN1 : cp_cn u 1 16) (hN3 : cp_cn u 3 40) : ∀ sz : Nat, Met l yL_sungByHymns wsL_sungByHymns ({ frames := 8, cells := 1, slots := 6, locals := 125 } : Room) (va_Pc [.ref h, .int ow, .int y, .ref o] (cp_preZ D [(cI, .int), (cJ, .long)] (cp_wX cI h a u ++ cp_wO cJ o f9) sz)) (va_Qi (fun (k : Int32) (v : cp_M × (Nat → Int64)) => (k = 0 ∧ ∃ (r : Int32) (u1 : cp_M), ((cp_bw ow 0 4 ∧ cp_bw y 0 3) ∧ r = nI (cp_sbh u ow y (cp_n u 1)) ∧ u1 = u) ∧ v.1 = u1 ∧ v.2 0 = r.toInt64) ∨ (v.1 = u ∧ ∃ E, (E = R_iob ∧ ¬ (cp_bw ow 0 4 ∧ cp_bw y 0 3)) ∧ ((E = R_iob ∧ k = 1)))) (cp_B D [(cI, .int), (cJ, .long)] cI cJ h a o (va_A (cp_wX cI h a u ++ cp_wO cJ o f9) sz)) (va_A (cp_wX cI h a u ++ cp_wO cJ o f9) sz)) 1 6 (va_A (cp_wX cI h a u ++ cp_wO cJ o f9) sz) := by
  refine cp_MetL (Qk := fun A => va_Qi (fun (k : Int32) (v : cp_M × (Nat → Int64)) => (k = 0 ∧ ∃ (r : Int32) (u1 : cp_M), ((cp_bw ow 0 4 ∧ cp_bw y 0 3) ∧ r = nI (cp_sbh u ow y (cp_n u 1)) ∧ u1 = u) ∧ v.1 = u1 ∧ v.2 0 = r.toInt64) ∨ (v.1 = u ∧ ∃ E, (E = R_iob ∧ ¬ (cp_bw ow 0 4 ∧ cp_bw y 0 3)) ∧ ((E = R_iob ∧ k = 1)))) (cp_B D [(cI, .int), (cJ, .long)] cI cJ h a o A) A) (by decide) rfl (Nat.le_of_ble_eq_true rfl) ?_
  intro p e s m args below meth c A hC hA hK hI hZ htab ls hl
  obtain ⟨hx, hb, hml, hown, hts, hr, hlocks⟩ := hC
  have hown : s.vm.findClass RL = some m.cls := hown
  have hl : lv_has ls 5 [(0, .ref h), (1, .int ow), (2, .int y), (3, .ref o)] := hl
  refine lv_aload_n hx hb dL_sungByHymns_0 rfl (lv_at hl 3 rfl) ?_
  refine lv_iconst (v := 0) hx hb dL_sungByHymns_1 (by decide) ?_
  refine lv_aload_n hx hb dL_sungByHymns_2 rfl (lv_at hl 0 rfl) ?_
  refine lv_iload_n hx hb dL_sungByHymns_3 rfl (lv_at hl 1 rfl) ?_
  refine lv_iload_n hx hb dL_sungByHymns_4 rfl (lv_at hl 2 rfl) ?_
  refine cp_cXi (wc := cp_wX cI h a) (u := u) (wr := cp_wO cJ o f9) (As := [.int ow, .int y]) (rest := [.int 0, .ref o]) ⟨hx, hb, hml, hown, hts⟩ (c_X0_sungByHymns l hst D cI h a u ow y hN1 hN3) (cwV 2 hts gL_sungByHymns_X0_sungByHymns rfl rfl rfl (by decide +kernel) ⟨Nat.le_of_ble_eq_true rfl, Nat.le_of_ble_eq_true rfl⟩) (hK.sub [0] rfl) hI hA hZ ⟨_, cp_hX _ _ _ _⟩ rfl rfl rfl hl.1 rfl (Nat.le_of_ble_eq_true rfl) dL_sungByHymns_5 ⟨Nat.le_of_ble_eq_true rfl, Nat.le_of_ble_eq_true rfl⟩ (fun E ce q9 H locs hE hI h1 h2 h3 => ?_) (fun r u1 H locs hp hI => ?_)
  · rcases hE with ⟨rfl, hE⟩
    · refine vx_catch hown [] ⟨0, 10, 13, 13⟩ [] (by rw [htab]; rfl) (fun _ hz => absurd hz List.not_mem_nil) (by decide) (by decide) (hts (.classLink RL 13 R_iob) (by decide +kernel)) (va_Nw.use rfl hZ.2.2.1) h1 h2 h3 ?_
      refine lv_astore (lv' := [(4, .ref q9), (0, .ref h), (1, .int ow), (2, .int y), (3, .ref o)]) hx hb dL_sungByHymns_13 hl (by decide) rfl (fun ls hl => ?_)
      refine lv_iconst (v := 1) hx hb dL_sungByHymns_15 (by decide) ?_
      exact W.iret (v := 1) hx hb hr (fun t ht hW => ⟨⟨1, (u, f9), rfl, Or.inr ⟨rfl, R_iob, ⟨rfl, hE⟩, ⟨rfl, rfl⟩⟩, by rw [ht]; exact hI.1, va_K.moved hW.alike hK, hI.2.1⟩, hI.2.2.F ht⟩) hI.2.2.2.2 dL_sungByHymns_16 hlocks
  · refine lv_i2l (v := r.toInt64) hx hb dL_sungByHymns_8 rfl ?_
    refine va_last (D := D) hx hb hK hI.1 hI.2.1 hI.2.2 15 1 (cA := cJ) (n := 1) (f := f9) rfl rfl (vp_in_nI (n := 0) (by decide) (by decide)) dL_sungByHymns_9 (fun H locs hP hD hS => ?_)
    have hI : cp_I D (cp_wX cI h a u1 ++ cp_wO cJ o (vp_updL f9 0 r.toInt64)) A s.heap H locs := ⟨hP, hD, hS⟩
    refine lv_goto (tgt := 17) hx hb dL_sungByHymns_10 (by decide) ?_
    refine lv_iconst (v := 0) hx hb dL_sungByHymns_17 (by decide) ?_
    exact W.iret (v := 0) hx hb hr (fun t ht hW => ⟨⟨0, (u1, vp_updL f9 0 r.toInt64), rfl, Or.inl ⟨rfl, r, u1, hp, rfl, rfl⟩, by rw [ht]; exact hI.1, va_K.moved hW.alike hK, hI.2.1⟩, hI.2.2.F ht⟩) hI.2.2.2.2 dL_sungByHymns_18 hlocks
set_option maxHeartbeats 4000000 in
set_option maxRecDepth 100000 in
theorem c_L_pass (l : Launch) (hst : l.stackTraces = false) (D : va_G) (cI cJ : ClassId) (h : Nat) (a : Nat → Nat) (o : Nat) (u : cp_M) (f9 : Nat → Int64) (d9 : Int32)  : ∀ sz : Nat, Met l yL_pass wsL_pass ({ frames := 8, cells := 1, slots := 6, locals := 122 } : Room) (va_Pc [.ref h, .int d9, .ref o] (cp_preZ D [(cI, .int), (cJ, .long)] (cp_wX cI h a u ++ cp_wO cJ o f9) sz)) (va_Qi (fun (k : Int32) (v : cp_M × (Nat → Int64)) => (k = 0 ∧ ∃ (r : Int32) (u1 : cp_M), ((cp_bw d9 1 200) ∧ ¬ (1459 : Int32) < u 14 0 + d9 ∧ r = u 14 0 + d9 ∧ u1 = cp_up u 14 (upd (u 14) 0 (u 14 0 + d9))) ∧ v.1 = u1 ∧ v.2 0 = r.toInt64) ∨ (v.1 = u ∧ ∃ E, ((E = R_iae ∧ ¬ (cp_bw d9 1 200)) ∨ (E = R_ise ∧ (cp_bw d9 1 200) ∧ ¬ ¬ (1459 : Int32) < u 14 0 + d9)) ∧ ((E = R_iae ∧ k = 1) ∨ (E = R_ise ∧ k = 2)))) (cp_B D [(cI, .int), (cJ, .long)] cI cJ h a o (va_A (cp_wX cI h a u ++ cp_wO cJ o f9) sz)) (va_A (cp_wX cI h a u ++ cp_wO cJ o f9) sz)) 1 6 (va_A (cp_wX cI h a u ++ cp_wO cJ o f9) sz) := by
  refine cp_MetL (Qk := fun A => va_Qi (fun (k : Int32) (v : cp_M × (Nat → Int64)) => (k = 0 ∧ ∃ (r : Int32) (u1 : cp_M), ((cp_bw d9 1 200) ∧ ¬ (1459 : Int32) < u 14 0 + d9 ∧ r = u 14 0 + d9 ∧ u1 = cp_up u 14 (upd (u 14) 0 (u 14 0 + d9))) ∧ v.1 = u1 ∧ v.2 0 = r.toInt64) ∨ (v.1 = u ∧ ∃ E, ((E = R_iae ∧ ¬ (cp_bw d9 1 200)) ∨ (E = R_ise ∧ (cp_bw d9 1 200) ∧ ¬ ¬ (1459 : Int32) < u 14 0 + d9)) ∧ ((E = R_iae ∧ k = 1) ∨ (E = R_ise ∧ k = 2)))) (cp_B D [(cI, .int), (cJ, .long)] cI cJ h a o A) A) (by decide) rfl (Nat.le_of_ble_eq_true rfl) ?_
  intro p e s m args below meth c A hC hA hK hI hZ htab ls hl
  obtain ⟨hx, hb, hml, hown, hts, hr, hlocks⟩ := hC
  have hown : s.vm.findClass RL = some m.cls := hown
  have hl : lv_has ls 4 [(0, .ref h), (1, .int d9), (2, .ref o)] := hl
  refine lv_aload_n hx hb dL_pass_0 rfl (lv_at hl 2 rfl) ?_
  refine lv_iconst (v := 0) hx hb dL_pass_1 (by decide) ?_
  refine lv_aload_n hx hb dL_pass_2 rfl (lv_at hl 0 rfl) ?_
  refine lv_iload_n hx hb dL_pass_3 rfl (lv_at hl 1 rfl) ?_
  refine cp_cXi (wc := cp_wX cI h a) (u := u) (wr := cp_wO cJ o f9) (As := [.int d9]) (rest := [.int 0, .ref o]) ⟨hx, hb, hml, hown, hts⟩ (c_X0_pass l hst D cI h a u d9 ) (cwV 1 hts gL_pass_X0_pass rfl rfl rfl (by decide +kernel) ⟨Nat.le_of_ble_eq_true rfl, Nat.le_of_ble_eq_true rfl⟩) (hK.sub [0] rfl) hI hA hZ ⟨_, cp_hX _ _ _ _⟩ rfl rfl rfl hl.1 rfl (Nat.le_of_ble_eq_true rfl) dL_pass_4 ⟨Nat.le_of_ble_eq_true rfl, Nat.le_of_ble_eq_true rfl⟩ (fun E ce q9 H locs hE hI h1 h2 h3 => ?_) (fun r u1 H locs hp hI => ?_)
  · rcases hE with ⟨rfl, hE⟩ | ⟨rfl, hE⟩
    · refine vx_catch hown [] ⟨0, 9, 12, 15⟩ [⟨0, 9, 15, 17⟩] (by rw [htab]; rfl) (fun _ hz => absurd hz List.not_mem_nil) (by decide) (by decide) (hts (.classLink RL 15 R_iae) (by decide +kernel)) (va_Nw.use rfl hZ.2.2.2.1) h1 h2 h3 ?_
      refine lv_astore_n (lv' := [(3, .ref q9), (0, .ref h), (1, .int d9), (2, .ref o)]) hx hb dL_pass_12 rfl hl (by decide) rfl (fun ls hl => ?_)
      refine lv_iconst (v := 1) hx hb dL_pass_13 (by decide) ?_
      exact W.iret (v := 1) hx hb hr (fun t ht hW => ⟨⟨1, (u, f9), rfl, Or.inr ⟨rfl, R_iae, Or.inl ⟨rfl, hE⟩, Or.inl ⟨rfl, rfl⟩⟩, by rw [ht]; exact hI.1, va_K.moved hW.alike hK, hI.2.1⟩, hI.2.2.F ht⟩) hI.2.2.2.2 dL_pass_14 hlocks
    · refine vx_catch hown [⟨0, 9, 12, 15⟩] ⟨0, 9, 15, 17⟩ [] (by rw [htab]; rfl) (List.forall_mem_cons.mpr ⟨Or.inr ⟨by decide, R_iae, hts (.classLink RL 15 R_iae) (by decide +kernel), hZ.2.2.2.2.2.2.2.1⟩, (fun _ hz => absurd hz List.not_mem_nil)⟩) (by decide) (by decide) (hts (.classLink RL 17 R_ise) (by decide +kernel)) (va_Nw.use rfl hZ.2.2.2.2.1) h1 h2 h3 ?_
      refine lv_astore_n (lv' := [(3, .ref q9), (0, .ref h), (1, .int d9), (2, .ref o)]) hx hb dL_pass_15 rfl hl (by decide) rfl (fun ls hl => ?_)
      refine lv_iconst (v := 2) hx hb dL_pass_16 (by decide) ?_
      exact W.iret (v := 2) hx hb hr (fun t ht hW => ⟨⟨2, (u, f9), rfl, Or.inr ⟨rfl, R_ise, Or.inr ⟨rfl, hE⟩, Or.inr ⟨rfl, rfl⟩⟩, by rw [ht]; exact hI.1, va_K.moved hW.alike hK, hI.2.1⟩, hI.2.2.F ht⟩) hI.2.2.2.2 dL_pass_17 hlocks
  · refine lv_i2l (v := r.toInt64) hx hb dL_pass_7 rfl ?_
    refine va_last (D := D) hx hb hK hI.1 hI.2.1 hI.2.2 15 1 (cA := cJ) (n := 1) (f := f9) rfl rfl (vp_in_nI (n := 0) (by decide) (by decide)) dL_pass_8 (fun H locs hP hD hS => ?_)
    have hI : cp_I D (cp_wX cI h a u1 ++ cp_wO cJ o (vp_updL f9 0 r.toInt64)) A s.heap H locs := ⟨hP, hD, hS⟩
    refine lv_goto (tgt := 18) hx hb dL_pass_9 (by decide) ?_
    refine lv_iconst (v := 0) hx hb dL_pass_18 (by decide) ?_
    exact W.iret (v := 0) hx hb hr (fun t ht hW => ⟨⟨0, (u1, vp_updL f9 0 r.toInt64), rfl, Or.inl ⟨rfl, r, u1, hp, rfl, rfl⟩, by rw [ht]; exact hI.1, va_K.moved hW.alike hK, hI.2.1⟩, hI.2.2.F ht⟩) hI.2.2.2.2 dL_pass_19 hlocks
