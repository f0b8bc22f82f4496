set_option maxHeartbeats 4000000 in
set_option maxRecDepth 100000 in
theorem c_X1_hymns (l : Launch) (D : va_G) (cI cZ : ClassId) (h : Nat) (a : Nat → Nat) (u : cp_M)   : ∀ sz : Nat, Met l yX1_hymns wsX1_hymns ({ frames := 0, cells := 0, slots := 0, locals := 0 } : Room) (va_Pc [.ref h] (cp_pre D [(cI, .int), (cZ, .boolean)] (cp_wY cI cZ h a u) sz)) (va_Qi (fun (r : Int32) (u1 : cp_M) => r = u 14 1 ∧ u1 = cp_thw u 0) (cp_at D [(cI, .int), (cZ, .boolean)] (va_A (cp_wY cI cZ h a u) sz) (cp_wY cI cZ h a)) (va_A (cp_wY cI cZ h a u) sz)) 0 0 (va_A (cp_wY cI cZ h a u) sz) := by
  refine cp_MetI (Qk := fun A => va_Qi (fun (r : Int32) (u1 : cp_M) => r = u 14 1 ∧ u1 = cp_thw u 0) (cp_at D [(cI, .int), (cZ, .boolean)] A (cp_wY cI cZ h a)) A) (by decide) rfl (Nat.le_of_ble_eq_true rfl) ?_
  intro p e s m args below meth c A hC hA hK hI ls hl
  obtain ⟨hx, hb, hml, hown, hts, hr, hlocks⟩ := hC
  have hown : s.vm.findClass RX1 = some m.cls := hown
  have hl : lv_has ls 1 [(0, .ref h)] := hl
  have inW : ∀ w ∈ wsX10, w ∈ wsX1_hymns := by decide +kernel
  have fl_hymns : Cond.fieldLink RX1 57 "CanticlePressModel" "hymns" "I" ∈ wsX1_hymns := by decide +kernel
  have fl_thrown : Cond.fieldLink RX1 53 "CanticlePressModel" "thrown" "I" ∈ wsX1_hymns := by decide +kernel
  refine lv_aload_n hx hb dX1_hymns_0 rfl (lv_at hl 0 rfl) ?_
  refine lv_iconst (v := 0) hx hb dX1_hymns_1 (by decide) ?_
  refine cp_puti hx hb hts inW tyX1 tyX1_ok nmX1 hown hK hI (cp_hY _ _ _ _ _) rfl 0 (by decide) fl_thrown rfl rfl (by decide +kernel) (Nat.le_of_ble_eq_true rfl) dX1_hymns_2 (cp_tY _ _ _ _ _ _) (fun H locs hI => ?_)
  refine lv_aload_n hx hb dX1_hymns_5 rfl (lv_at hl 0 rfl) ?_
  refine cp_get (v := .int (u 14 1)) hx hb hts inW hown hK hI (cp_hY _ _ _ _ _) rfl 2 (by decide) fl_hymns rfl rfl dX1_hymns_6 ?_
  exact cp_reti (u := (cp_thw u 0)) (v := (u 14 1)) hx hb hr hlocks hK hI ⟨rfl, rfl⟩ dX1_hymns_9
set_option maxHeartbeats 4000000 in
set_option maxRecDepth 100000 in
theorem c_X1_pages (l : Launch) (D : va_G) (cI cZ : ClassId) (h : Nat) (a : Nat → Nat) (u : cp_M) (x : Int32) (hN1 : cp_cn u 1 16) (hLn : ∀ g, g < cp_n u 1 → ∃ L, 1 ≤ L ∧ L ≤ 30 ∧ u 2 g = nI L) : ∀ sz : Nat, Met l yX1_pages wsX1_pages ({ frames := 3, cells := 0, slots := 0, locals := 70 } : Room) (va_Pc [.ref h, .int x] (cp_pre D [(cI, .int), (cZ, .boolean)] (cp_wY cI cZ h a u) sz)) (va_Qi (fun (r : Int32) (u1 : cp_M) => (¬ (cp_bw x 0 (u 14 1 - 1)) ∧ u1 = cp_thw u 1) ∨ (∃ g L i, g < cp_n u 1 ∧ x = nI g ∧ u 2 g = nI L ∧ L ≤ 30 ∧ r = nI i ∧ cp_pgs (cp_qY (u 3 g)) L i ∧ u1 = cp_thw u 0)) (cp_at D [(cI, .int), (cZ, .boolean)] (va_A (cp_wY cI cZ h a u) sz) (cp_wY cI cZ h a)) (va_A (cp_wY cI cZ h a u) sz)) 0 0 (va_A (cp_wY cI cZ h a u) sz) := by
  refine cp_MetI (Qk := fun A => va_Qi (fun (r : Int32) (u1 : cp_M) => (¬ (cp_bw x 0 (u 14 1 - 1)) ∧ u1 = cp_thw u 1) ∨ (∃ g L i, g < cp_n u 1 ∧ x = nI g ∧ u 2 g = nI L ∧ L ≤ 30 ∧ r = nI i ∧ cp_pgs (cp_qY (u 3 g)) L i ∧ u1 = cp_thw u 0)) (cp_at D [(cI, .int), (cZ, .boolean)] A (cp_wY cI cZ h a)) A) (by decide) rfl (Nat.le_of_ble_eq_true rfl) ?_
  intro p e s m args below meth c A hC hA hK hI ls hl
  obtain ⟨hx, hb, hml, hown, hts, hr, hlocks⟩ := hC
  have hown : s.vm.findClass RX1 = some m.cls := hown
  have hl : lv_has ls 2 [(0, .ref h), (1, .int x)] := hl
  have inW : ∀ w ∈ wsX10, w ∈ wsX1_pages := by decide +kernel
  have fl_thrown : Cond.fieldLink RX1 53 "CanticlePressModel" "thrown" "I" ∈ wsX1_pages := by decide +kernel
  refine lv_aload_n hx hb dX1_pages_0 rfl (lv_at hl 0 rfl) ?_
  refine lv_aload_n hx hb dX1_pages_1 rfl (lv_at hl 0 rfl) ?_
  refine lv_iload_n hx hb dX1_pages_2 rfl (lv_at hl 1 rfl) ?_
  refine cp_cVi0 (wc := cp_wY cI cZ h a) (u := u) (As := [.int x]) (rest := [.ref h]) ⟨hx, hb, hml, hown, hts⟩ (c_X1_isHymn l D cI cZ h a u x) (cwV 1 hts gX1_pages_X1_isHymn rfl rfl rfl (by decide +kernel) ⟨Nat.le_of_ble_eq_true rfl, Nat.le_of_ble_eq_true rfl⟩) hK hI hA ⟨_, cp_hY _ _ _ _ _⟩ rfl rfl rfl hl.1 rfl (Nat.le_of_ble_eq_true rfl) dX1_pages_3 ⟨Nat.le_of_ble_eq_true rfl, Nat.le_of_ble_eq_true rfl⟩ (fun r3 u3 H locs hp3 hI => ?_)
  obtain ⟨rfl, e9⟩ := hp3
  rw [e9] at hI
  refine lv_if_eq (tgt := 13) hx hb dX1_pages_6 (by decide) (fun c6 => ?_) (fun c6 => ?_)
  · have c6 := cp_b0.mp c6
    refine lv_iconst (v := 1) hx hb dX1_pages_13 (by decide) ?_
    refine cp_puti hx hb hts inW tyX1 tyX1_ok nmX1 hown hK hI (cp_hY _ _ _ _ _) rfl 0 (by decide) fl_thrown rfl rfl (by decide +kernel) (Nat.le_of_ble_eq_true rfl) dX1_pages_14 (cp_tY _ _ _ _ _ _) (fun H locs hI => ?_)
    refine lv_aload_n hx hb dX1_pages_17 rfl (lv_at hl 0 rfl) ?_
    refine cp_get (v := .int 1) hx hb hts inW hown hK hI (cp_hY _ _ _ _ _) rfl 0 (by decide) fl_thrown rfl rfl dX1_pages_18 ?_
    refine lv_if_le (tgt := 28) hx hb dX1_pages_21 (by decide) (fun c21 => ?_) (fun c21 => ?_)
    · exact absurd c21 (by decide)
    · refine lv_iconst (v := 0) hx hb dX1_pages_24 (by decide) ?_
      refine lv_goto (tgt := 33) hx hb dX1_pages_25 (by decide) ?_
      exact cp_reti (u := (cp_thw u 1)) (v := 0) hx hb hr hlocks hK hI (Or.inl ⟨c6, rfl⟩) dX1_pages_33
  · have c6 := Classical.not_not.mp (fun h9 => c6 (cp_b0.mpr h9))
    refine lv_iconst (v := 0) hx hb dX1_pages_9 (by decide) ?_
    refine lv_goto (tgt := 14) hx hb dX1_pages_10 (by decide) ?_
    refine cp_puti hx hb hts inW tyX1 tyX1_ok nmX1 hown hK hI (cp_hY _ _ _ _ _) rfl 0 (by decide) fl_thrown rfl rfl (by decide +kernel) (Nat.le_of_ble_eq_true rfl) dX1_pages_14 (cp_tY _ _ _ _ _ _) (fun H locs hI => ?_)
    refine lv_aload_n hx hb dX1_pages_17 rfl (lv_at hl 0 rfl) ?_
    refine cp_get (v := .int 0) hx hb hts inW hown hK hI (cp_hY _ _ _ _ _) rfl 0 (by decide) fl_thrown rfl rfl dX1_pages_18 ?_
    refine lv_if_le (tgt := 28) hx hb dX1_pages_21 (by decide) (fun c21 => ?_) (fun c21 => ?_)
    · obtain ⟨g, hg, rfl⟩ := cp_idx hN1 c6
      have hN9 := hN1.2.1
      obtain ⟨L, hL0, hL3, hL1⟩ := hLn g hg
      refine lv_aload_n hx hb dX1_pages_28 rfl (lv_at hl 0 rfl) ?_
      refine lv_iload_n hx hb dX1_pages_29 rfl (lv_at hl 1 rfl) ?_
      refine cp_cVi0 (wc := cp_wY cI cZ h a) (u := (cp_thw u 0)) (As := [.int (nI g)]) (rest := []) ⟨hx, hb, hml, hown, hts⟩ (c_X1_pagesOf l D cI cZ h a (cp_thw u 0) g L (by omega) hL1 hL3) (cwV 1 hts gX1_pages_X1_pagesOf rfl rfl rfl (by decide +kernel) ⟨Nat.le_of_ble_eq_true rfl, Nat.le_of_ble_eq_true rfl⟩) hK hI hA ⟨_, cp_hY _ _ _ _ _⟩ rfl rfl rfl hl.1 rfl (Nat.le_of_ble_eq_true rfl) dX1_pages_30 ⟨Nat.le_of_ble_eq_true rfl, Nat.le_of_ble_eq_true rfl⟩ (fun r30 u30 H locs hp30 hI => ?_)
      obtain ⟨⟨i30, hia30, rfl, hib30, hic30⟩, e9⟩ := hp30
      rw [e9] at hI
      exact cp_reti (u := (cp_thw u 0)) (v := (nI i30)) hx hb hr hlocks hK hI (Or.inr ⟨g, L, i30, hg, rfl, hL1, hL3, rfl, ⟨hia30, hib30, hic30⟩, rfl⟩) dX1_pages_33
    · exact absurd (by decide) c21
set_option maxHeartbeats 4000000 in
set_option maxRecDepth 100000 in
theorem c_X1_pageOf (l : Launch) (D : va_G) (cI cZ : ClassId) (h : Nat) (a : Nat → Nat) (u : cp_M) (x : Int32) (ln : Int32) (hN1 : cp_cn u 1 16) (hLn : ∀ g, g < cp_n u 1 → ∃ L, 1 ≤ L ∧ L ≤ 30 ∧ u 2 g = nI L) : ∀ sz : Nat, Met l yX1_pageOf wsX1_pageOf ({ frames := 2, cells := 0, slots := 0, locals := 47 } : Room) (va_Pc [.ref h, .int x, .int ln] (cp_pre D [(cI, .int), (cZ, .boolean)] (cp_wY cI cZ h a u) sz)) (va_Qi (fun (r : Int32) (u1 : cp_M) => ((¬ (cp_bw x 0 (u 14 1 - 1)) ∨ ∃ g1, g1 < cp_n u 1 ∧ x = nI g1 ∧ ¬ cp_bw ln 0 (u 2 g1 - 1)) ∧ u1 = cp_thw u 1) ∨ (∃ g1 L1 m1 i1, g1 < cp_n u 1 ∧ x = nI g1 ∧ u 2 g1 = nI L1 ∧ L1 ≤ 30 ∧ ln = nI m1 ∧ m1 < L1 ∧ r = nI i1 - 1 ∧ cp_pgo (cp_qY (u 3 g1)) L1 m1 i1 ∧ u1 = cp_thw u 0)) (cp_at D [(cI, .int), (cZ, .boolean)] (va_A (cp_wY cI cZ h a u) sz) (cp_wY cI cZ h a)) (va_A (cp_wY cI cZ h a u) sz)) 0 0 (va_A (cp_wY cI cZ h a u) sz) := by
  refine cp_MetI (Qk := fun A => va_Qi (fun (r : Int32) (u1 : cp_M) => ((¬ (cp_bw x 0 (u 14 1 - 1)) ∨ ∃ g1, g1 < cp_n u 1 ∧ x = nI g1 ∧ ¬ cp_bw ln 0 (u 2 g1 - 1)) ∧ u1 = cp_thw u 1) ∨ (∃ g1 L1 m1 i1, g1 < cp_n u 1 ∧ x = nI g1 ∧ u 2 g1 = nI L1 ∧ L1 ≤ 30 ∧ ln = nI m1 ∧ m1 < L1 ∧ r = nI i1 - 1 ∧ cp_pgo (cp_qY (u 3 g1)) L1 m1 i1 ∧ u1 = cp_thw u 0)) (cp_at D [(cI, .int), (cZ, .boolean)] A (cp_wY cI cZ h a)) A) (by decide) rfl (Nat.le_of_ble_eq_true rfl) ?_
  intro p e s m args below meth c A hC hA hK hI ls hl
  obtain ⟨hx, hb, hml, hown, hts, hr, hlocks⟩ := hC
  have hown : s.vm.findClass RX1 = some m.cls := hown
  have hl : lv_has ls 5 [(0, .ref h), (1, .int x), (2, .int ln)] := hl
  have inW : ∀ w ∈ wsX10, w ∈ wsX1_pageOf := by decide +kernel
  have fl_lines : Cond.fieldLink RX1 16 "CanticlePressModel" "lines" "[I" ∈ wsX1_pageOf := by decide +kernel
  have fl_thrown : Cond.fieldLink RX1 53 "CanticlePressModel" "thrown" "I" ∈ wsX1_pageOf := by decide +kernel
  refine lv_aload_n hx hb dX1_pageOf_0 rfl (lv_at hl 0 rfl) ?_
  refine lv_aload_n hx hb dX1_pageOf_1 rfl (lv_at hl 0 rfl) ?_
  refine lv_iload_n hx hb dX1_pageOf_2 rfl (lv_at hl 1 rfl) ?_
  refine cp_cVi0 (wc := cp_wY cI cZ h a) (u := u) (As := [.int x]) (rest := [.ref h]) ⟨hx, hb, hml, hown, hts⟩ (c_X1_isHymn l D cI cZ h a u x) (cwV 1 hts gX1_pageOf_X1_isHymn rfl rfl rfl (by decide +kernel) ⟨Nat.le_of_ble_eq_true rfl, Nat.le_of_ble_eq_true rfl⟩) hK hI hA ⟨_, cp_hY _ _ _ _ _⟩ rfl rfl rfl hl.1 rfl (Nat.le_of_ble_eq_true rfl) dX1_pageOf_3 ⟨Nat.le_of_ble_eq_true rfl, Nat.le_of_ble_eq_true rfl⟩ (fun r3 u3 H locs hp3 hI => ?_)
  obtain ⟨rfl, e9⟩ := hp3
  rw [e9] at hI
  refine lv_if_eq (tgt := 41) hx hb dX1_pageOf_6 (by decide) (fun c6 => ?_) (fun c6 => ?_)
  · have c6 := cp_b0.mp c6
    refine lv_iconst (v := 1) hx hb dX1_pageOf_41 (by decide) ?_
    refine cp_puti hx hb hts inW tyX1 tyX1_ok nmX1 hown hK hI (cp_hY _ _ _ _ _) rfl 0 (by decide) fl_thrown rfl rfl (by decide +kernel) (Nat.le_of_ble_eq_true rfl) dX1_pageOf_42 (cp_tY _ _ _ _ _ _) (fun H locs hI => ?_)
    refine lv_iconst (v := (-1)) hx hb dX1_pageOf_45 (by decide) ?_
    refine lv_istore_n (lv' := [(3, .int (-1)), (0, .ref h), (1, .int x), (2, .int ln)]) hx hb dX1_pageOf_46 rfl hl (by decide) rfl (fun ls hl => ?_)
    refine lv_iconst (v := 0) hx hb dX1_pageOf_47 (by decide) ?_
    refine lv_istore (lv' := [(4, .int 0), (3, .int (-1)), (0, .ref h), (1, .int x), (2, .int ln)]) hx hb dX1_pageOf_48 hl (by decide) rfl (fun ls hl => ?_)
    refine lv_aload_n hx hb dX1_pageOf_50 rfl (lv_at hl 2 rfl) ?_
    refine cp_get (v := .int 1) hx hb hts inW hown hK hI (cp_hY _ _ _ _ _) rfl 0 (by decide) fl_thrown rfl rfl dX1_pageOf_51 ?_
    refine lv_if_ne (tgt := 78) hx hb dX1_pageOf_54 (by decide) (fun c54 => ?_) (fun c54 => ?_)
    · refine lv_iload_n hx hb dX1_pageOf_78 rfl (lv_at hl 1 rfl) ?_
      exact cp_reti (u := (cp_thw u 1)) (v := (-1)) hx hb hr hlocks hK hI (Or.inl ⟨by first | exact Or.inl c6 | exact Or.inr ⟨g, hg, rfl, c34⟩, rfl⟩) dX1_pageOf_79
    · exact absurd c54 (by decide)
  · have c6 := Classical.not_not.mp (fun h9 => c6 (cp_b0.mpr h9))
    obtain ⟨g, hg, rfl⟩ := cp_idx hN1 c6
    have hN9 := hN1.2.1
    obtain ⟨L, hL0, hL3, hL1⟩ := hLn g hg
    refine lv_iload_n hx hb dX1_pageOf_9 rfl (lv_at hl 2 rfl) ?_
    refine lv_iconst (v := 0) hx hb dX1_pageOf_10 (by decide) ?_
    refine lv_aload_n hx hb dX1_pageOf_11 rfl (lv_at hl 0 rfl) ?_
    refine cp_get (v := .ref (a 2)) hx hb hts inW hown hK hI (cp_hY _ _ _ _ _) rfl 5 (by decide) fl_lines rfl rfl dX1_pageOf_12 ?_
    refine lv_aload_n hx hb dX1_pageOf_15 rfl (lv_at hl 0 rfl) ?_
    refine lv_iload_n hx hb dX1_pageOf_16 rfl (lv_at hl 1 rfl) ?_
    refine cp_cVi0 (wc := cp_wY cI cZ h a) (u := u) (As := [.int (nI g)]) (rest := [.ref (a 2), .int 0, .int ln, .ref h]) ⟨hx, hb, hml, hown, hts⟩ (c_X1_isHymn l D cI cZ h a u (nI g)) (cwV 1 hts gX1_pageOf_X1_isHymn rfl rfl rfl (by decide +kernel) ⟨Nat.le_of_ble_eq_true rfl, Nat.le_of_ble_eq_true rfl⟩) hK hI hA ⟨_, cp_hY _ _ _ _ _⟩ rfl rfl rfl hl.1 rfl (Nat.le_of_ble_eq_true rfl) dX1_pageOf_17 ⟨Nat.le_of_ble_eq_true rfl, Nat.le_of_ble_eq_true rfl⟩ (fun r17 u17 H locs hp17 hI => ?_)
    obtain ⟨rfl, e9⟩ := hp17
    rw [e9] at hI
    refine lv_if_eq (tgt := 27) hx hb dX1_pageOf_20 (by decide) (fun c20 => ?_) (fun c20 => ?_)
    · have c20 := cp_b0.mp c20
      exact absurd c6 c20
    · have c20 := Classical.not_not.mp (fun h9 => c20 (cp_b0.mpr h9))
      refine lv_iload_n hx hb dX1_pageOf_23 rfl (lv_at hl 1 rfl) ?_
      refine lv_goto (tgt := 28) hx hb dX1_pageOf_24 (by decide) ?_
      refine cp_iald (f := u 2) hx hb hK hI 0 (cp_aY_2 _ _ _ _ _) rfl (j := g) (cp_ix_n (by omega) (by decide)) dX1_pageOf_28 ?_
      refine lv_iconst (v := 1) hx hb dX1_pageOf_29 (by decide) ?_
      refine lv_isub hx hb dX1_pageOf_30 ?_
      refine cp_cSi0 (As := [.int ln, .int 0, .int ((u 2 g) - 1)]) (rest := [.ref h]) ⟨hx, hb, hml, hown, hts⟩ ((c_X1_isIn l ln 0 ((u 2 g) - 1)) D) (va_cwS 3 hts gX1_pageOf_X1_isIn rfl rfl rfl (by decide +kernel) ⟨Nat.le_of_ble_eq_true rfl, Nat.le_of_ble_eq_true rfl⟩) hK hI hA rfl hl.1 rfl (Nat.le_of_ble_eq_true rfl) dX1_pageOf_31 ⟨Nat.le_of_ble_eq_true rfl, Nat.le_of_ble_eq_true rfl⟩ (fun r31 u31 H locs hp31 hI => ?_)
      obtain rfl := hp31
      refine lv_if_eq (tgt := 41) hx hb dX1_pageOf_34 (by decide) (fun c34 => ?_) (fun c34 => ?_)
      · have c34 := cp_b0.mp c34
        refine lv_iconst (v := 1) hx hb dX1_pageOf_41 (by decide) ?_
        refine cp_puti hx hb hts inW tyX1 tyX1_ok nmX1 hown hK hI (cp_hY _ _ _ _ _) rfl 0 (by decide) fl_thrown rfl rfl (by decide +kernel) (Nat.le_of_ble_eq_true rfl) dX1_pageOf_42 (cp_tY _ _ _ _ _ _) (fun H locs hI => ?_)
        refine lv_iconst (v := (-1)) hx hb dX1_pageOf_45 (by decide) ?_
        refine lv_istore_n (lv' := [(3, .int (-1)), (0, .ref h), (1, .int (nI g)), (2, .int ln)]) hx hb dX1_pageOf_46 rfl hl (by decide) rfl (fun ls hl => ?_)
        refine lv_iconst (v := 0) hx hb dX1_pageOf_47 (by decide) ?_
        refine lv_istore (lv' := [(4, .int 0), (3, .int (-1)), (0, .ref h), (1, .int (nI g)), (2, .int ln)]) hx hb dX1_pageOf_48 hl (by decide) rfl (fun ls hl => ?_)
        refine lv_aload_n hx hb dX1_pageOf_50 rfl (lv_at hl 2 rfl) ?_
        refine cp_get (v := .int 1) hx hb hts inW hown hK hI (cp_hY _ _ _ _ _) rfl 0 (by decide) fl_thrown rfl rfl dX1_pageOf_51 ?_
        refine lv_if_ne (tgt := 78) hx hb dX1_pageOf_54 (by decide) (fun c54 => ?_) (fun c54 => ?_)
        · refine lv_iload_n hx hb dX1_pageOf_78 rfl (lv_at hl 1 rfl) ?_
          exact cp_reti (u := (cp_thw u 1)) (v := (-1)) hx hb hr hlocks hK hI (Or.inl ⟨by first | exact Or.inl c6 | exact Or.inr ⟨g, hg, rfl, c34⟩, rfl⟩) dX1_pageOf_79
        · exact absurd c54 (by decide)
      · have c34 := Classical.not_not.mp (fun h9 => c34 (cp_b0.mpr h9))
        refine lv_iconst (v := 0) hx hb dX1_pageOf_37 (by decide) ?_
        refine lv_goto (tgt := 42) hx hb dX1_pageOf_38 (by decide) ?_
        refine cp_puti hx hb hts inW tyX1 tyX1_ok nmX1 hown hK hI (cp_hY _ _ _ _ _) rfl 0 (by decide) fl_thrown rfl rfl (by decide +kernel) (Nat.le_of_ble_eq_true rfl) dX1_pageOf_42 (cp_tY _ _ _ _ _ _) (fun H locs hI => ?_)
        obtain ⟨m9, hmL, rfl⟩ := cp_idl hL1 (by omega) c34
        refine lv_iconst (v := (-1)) hx hb dX1_pageOf_45 (by decide) ?_
        refine lv_istore_n (lv' := [(3, .int (-1)), (0, .ref h), (1, .int (nI g)), (2, .int (nI m9))]) hx hb dX1_pageOf_46 rfl hl (by decide) rfl (fun ls hl => ?_)
        refine lv_iconst (v := 0) hx hb dX1_pageOf_47 (by decide) ?_
        refine lv_istore (lv' := [(4, .int 0), (3, .int (-1)), (0, .ref h), (1, .int (nI g)), (2, .int (nI m9))]) hx hb dX1_pageOf_48 hl (by decide) rfl (fun ls hl => ?_)
        have L50 : ∀ (n9 : Nat) (i : Nat) (hm9 : L - (cp_st (cp_qY (u 3 g)) L i) < n9) (hi : ∀ j, j < i → cp_st (cp_qY (u 3 g)) L j ≤ m9), ∀ (H : Heap) (locs : List Loc), cp_I D (cp_wY cI cZ h a (cp_thw u 0)) A s.heap H locs → ∀ ls, lv_has ls 5 [(4, .int (nI (cp_st (cp_qY (u 3 g)) L i))), (3, .int (nI i - 1)), (0, .ref h), (1, .int (nI g)), (2, .int (nI m9))] → W p l e ({ frames := 2, cells := 0, slots := 0, locals := 47 } : Room) s m args below meth c H locs 0 0 (MQ below (va_Qi (fun (r : Int32) (u1 : cp_M) => ((¬ (cp_bw (nI g) 0 (u 14 1 - 1)) ∨ ∃ g1, g1 < cp_n u 1 ∧ (nI g) = nI g1 ∧ ¬ cp_bw (nI m9) 0 (u 2 g1 - 1)) ∧ u1 = cp_thw u 1) ∨ (∃ g1 L1 m1 i1, g1 < cp_n u 1 ∧ (nI g) = nI g1 ∧ u 2 g1 = nI L1 ∧ L1 ≤ 30 ∧ (nI m9) = nI m1 ∧ m1 < L1 ∧ r = nI i1 - 1 ∧ cp_pgo (cp_qY (u 3 g1)) L1 m1 i1 ∧ u1 = cp_thw u 0)) (cp_at D [(cI, .int), (cZ, .boolean)] A (cp_wY cI cZ h a)) A) args s 0 0 A) (F0 m 50 ls []) := by
          intro n9
          induction n9 with
          | zero => intro i hm9; omega
          | succ n9 ih =>
            intro i hm9 hi H locs hI ls hl
            have hge := cp_st_ge (cp_qY (u 3 g)) L i (fun j hj => by have := hi j hj; omega)
            refine lv_aload_n hx hb dX1_pageOf_50 rfl (lv_at hl 2 rfl) ?_
            refine cp_get (v := .int 0) hx hb hts inW hown hK hI (cp_hY _ _ _ _ _) rfl 0 (by decide) fl_thrown rfl rfl dX1_pageOf_51 ?_
            refine lv_if_ne (tgt := 78) hx hb dX1_pageOf_54 (by decide) (fun c54 => ?_) (fun c54 => ?_)
            · exact absurd rfl c54
            · refine lv_iload hx hb dX1_pageOf_57 (lv_at hl 0 rfl) ?_
              refine lv_iload_n hx hb dX1_pageOf_59 rfl (lv_at hl 4 rfl) ?_
              refine lv_icmp_gt (tgt := 78) hx hb dX1_pageOf_60 (by decide) (fun c60 => ?_) (fun c60 => ?_)
              · have hlt : m9 < (cp_st (cp_qY (u 3 g)) L i) := by rw [nI_ltI (by omega) (by omega)] at c60; exact c60
                refine lv_iload_n hx hb dX1_pageOf_78 rfl (lv_at hl 1 rfl) ?_
                exact cp_reti (u := (cp_thw u 0)) (v := (nI i - 1)) hx hb hr hlocks hK hI (Or.inr ⟨g, L, m9, i, hg, rfl, hL1, hL3, rfl, hmL, rfl, ⟨hlt, hi⟩, rfl⟩) dX1_pageOf_79
              · have hlt : (cp_st (cp_qY (u 3 g)) L i) ≤ m9 := by rw [nI_ltI (by omega) (by omega)] at c60; omega
                obtain ⟨x63, ex63⟩ : ∃ y9 : Int32, y9 = (nI i - 1) + 1 := ⟨_, rfl⟩
                refine lv_iinc (v := x63) (lv' := [(3, .int x63), (4, .int (nI (cp_st (cp_qY (u 3 g)) L i))), (0, .ref h), (1, .int (nI g)), (2, .int (nI m9))]) hx hb dX1_pageOf_63 hl (k := 1) rfl (by rw [ex63]; rfl) (by decide) rfl (fun ls hl => ?_)
                refine lv_aload_n hx hb dX1_pageOf_66 rfl (lv_at hl 2 rfl) ?_
                refine lv_iload_n hx hb dX1_pageOf_67 rfl (lv_at hl 3 rfl) ?_
                refine lv_iload hx hb dX1_pageOf_68 (lv_at hl 1 rfl) ?_
                refine cp_cVi0 (wc := cp_wY cI cZ h a) (u := (cp_thw u 0)) (As := [.int (nI g), .int (nI (cp_st (cp_qY (u 3 g)) L i))]) (rest := []) ⟨hx, hb, hml, hown, hts⟩ (c_X1_nextPage l D cI cZ h a (cp_thw u 0) g (cp_st (cp_qY (u 3 g)) L i) L (by omega) hL1 hL3 (by omega)) (cwV 2 hts gX1_pageOf_X1_nextPage rfl rfl rfl (by decide +kernel) ⟨Nat.le_of_ble_eq_true rfl, Nat.le_of_ble_eq_true rfl⟩) hK hI hA ⟨_, cp_hY _ _ _ _ _⟩ rfl rfl rfl hl.1 rfl (Nat.le_of_ble_eq_true rfl) dX1_pageOf_70 ⟨Nat.le_of_ble_eq_true rfl, Nat.le_of_ble_eq_true rfl⟩ (fun r70 u70 H locs hp70 hI => ?_)
                obtain ⟨rfl, e9⟩ := hp70
                rw [e9] at hI
                refine lv_topi (fun x73 ex73 => ?_)
                refine lv_istore (lv' := [(4, .int x73), (3, .int x63), (0, .ref h), (1, .int (nI g)), (2, .int (nI m9))]) hx hb dX1_pageOf_73 hl (by decide) rfl (fun ls hl => ?_)
                refine lv_goto (tgt := 50) hx hb dX1_pageOf_75 (by decide) ?_
                obtain rfl : x63 = nI (i + 1) - 1 := by rw [ex63, show nI (i + 1) - 1 = nI i from nI_pred i]; exact cp_s1a _
                obtain rfl : x73 = nI (cp_st (cp_qY (u 3 g)) L (i + 1)) := ex73
                exact ih (i + 1) (by have h7 := cp_nx_gt (cp_qY (u 3 g)) (show cp_st (cp_qY (u 3 g)) L i < L from (by omega)); show L - cp_nx (cp_qY (u 3 g)) L (cp_st (cp_qY (u 3 g)) L i) < n9; omega) (fun j hj => by rcases Nat.lt_or_ge j i with q | q; exact hi j q; obtain rfl : j = i := (by omega); exact hlt) _ _ hI ls (lv_sub hl [0, 1, 2, 3, 4] rfl)
        exact L50 (L + 1) 0 (Nat.lt_succ_self _) (fun j hj => absurd hj (Nat.not_lt_zero j)) _ _ hI ls (lv_sub hl [0, 1, 2, 3, 4] rfl)
set_option maxHeartbeats 4000000 in
set_option maxRecDepth 100000 in
theorem c_X1_badTurns (l : Launch) (D : va_G) (cI cZ : ClassId) (h : Nat) (a : Nat → Nat) (u : cp_M) (x : Int32) (hN1 : cp_cn u 1 16) (hLn : ∀ g, g < cp_n u 1 → ∃ L, 1 ≤ L ∧ L ≤ 30 ∧ u 2 g = nI L) : ∀ sz : Nat, Met l yX1_badTurns wsX1_badTurns ({ frames := 2, cells := 0, slots := 0, locals := 47 } : Room) (va_Pc [.ref h, .int x] (cp_pre D [(cI, .int), (cZ, .boolean)] (cp_wY cI cZ h a u) sz)) (va_Qi (fun (r : Int32) (u1 : cp_M) => (¬ (cp_bw x 0 (u 14 1 - 1)) ∧ u1 = cp_thw u 1) ∨ (∃ g1 L1 i1, g1 < cp_n u 1 ∧ x = nI g1 ∧ u 2 g1 = nI L1 ∧ L1 ≤ 30 ∧ r = nI (cp_cnt (cp_bad (cp_qY (u 3 g1)) L1) i1) ∧ cp_pgs (cp_qY (u 3 g1)) L1 i1 ∧ u1 = cp_thw u 0)) (cp_at D [(cI, .int), (cZ, .boolean)] (va_A (cp_wY cI cZ h a u) sz) (cp_wY cI cZ h a)) (va_A (cp_wY cI cZ h a u) sz)) 0 0 (va_A (cp_wY cI cZ h a u) sz) := by
  refine cp_MetI (Qk := fun A => va_Qi (fun (r : Int32) (u1 : cp_M) => (¬ (cp_bw x 0 (u 14 1 - 1)) ∧ u1 = cp_thw u 1) ∨ (∃ g1 L1 i1, g1 < cp_n u 1 ∧ x = nI g1 ∧ u 2 g1 = nI L1 ∧ L1 ≤ 30 ∧ r = nI (cp_cnt (cp_bad (cp_qY (u 3 g1)) L1) i1) ∧ cp_pgs (cp_qY (u 3 g1)) L1 i1 ∧ u1 = cp_thw u 0)) (cp_at D [(cI, .int), (cZ, .boolean)] A (cp_wY cI cZ h a)) A) (by decide) rfl (Nat.le_of_ble_eq_true rfl) ?_
  intro p e s m args below meth c A hC hA hK hI ls hl
  obtain ⟨hx, hb, hml, hown, hts, hr, hlocks⟩ := hC
  have hown : s.vm.findClass RX1 = some m.cls := hown
  have hl : lv_has ls 5 [(0, .ref h), (1, .int x)] := hl
  have inW : ∀ w ∈ wsX10, w ∈ wsX1_badTurns := by decide +kernel
  have fl_lines : Cond.fieldLink RX1 16 "CanticlePressModel" "lines" "[I" ∈ wsX1_badTurns := by decide +kernel
  have fl_thrown : Cond.fieldLink RX1 53 "CanticlePressModel" "thrown" "I" ∈ wsX1_badTurns := by decide +kernel
  refine lv_aload_n hx hb dX1_badTurns_0 rfl (lv_at hl 0 rfl) ?_
  refine lv_aload_n hx hb dX1_badTurns_1 rfl (lv_at hl 0 rfl) ?_
  refine lv_iload_n hx hb dX1_badTurns_2 rfl (lv_at hl 1 rfl) ?_
  refine cp_cVi0 (wc := cp_wY cI cZ h a) (u := u) (As := [.int x]) (rest := [.ref h]) ⟨hx, hb, hml, hown, hts⟩ (c_X1_isHymn l D cI cZ h a u x) (cwV 1 hts gX1_badTurns_X1_isHymn rfl rfl rfl (by decide +kernel) ⟨Nat.le_of_ble_eq_true rfl, Nat.le_of_ble_eq_true rfl⟩) hK hI hA ⟨_, cp_hY _ _ _ _ _⟩ rfl rfl rfl hl.1 rfl (Nat.le_of_ble_eq_true rfl) dX1_badTurns_3 ⟨Nat.le_of_ble_eq_true rfl, Nat.le_of_ble_eq_true rfl⟩ (fun r3 u3 H locs hp3 hI => ?_)
  obtain ⟨rfl, e9⟩ := hp3
  rw [e9] at hI
  refine lv_if_eq (tgt := 13) hx hb dX1_badTurns_6 (by decide) (fun c6 => ?_) (fun c6 => ?_)
  · have c6 := cp_b0.mp c6
    refine lv_iconst (v := 1) hx hb dX1_badTurns_13 (by decide) ?_
    refine cp_puti hx hb hts inW tyX1 tyX1_ok nmX1 hown hK hI (cp_hY _ _ _ _ _) rfl 0 (by decide) fl_thrown rfl rfl (by decide +kernel) (Nat.le_of_ble_eq_true rfl) dX1_badTurns_14 (cp_tY _ _ _ _ _ _) (fun H locs hI => ?_)
    refine lv_iconst (v := 0) hx hb dX1_badTurns_17 (by decide) ?_
    refine lv_istore_n (lv' := [(2, .int 0), (0, .ref h), (1, .int x)]) hx hb dX1_badTurns_18 rfl hl (by decide) rfl (fun ls hl => ?_)
    refine lv_iconst (v := 0) hx hb dX1_badTurns_19 (by decide) ?_
    refine lv_istore_n (lv' := [(3, .int 0), (2, .int 0), (0, .ref h), (1, .int x)]) hx hb dX1_badTurns_20 rfl hl (by decide) rfl (fun ls hl => ?_)
    refine lv_aload_n hx hb dX1_badTurns_21 rfl (lv_at hl 2 rfl) ?_
    refine cp_get (v := .int 1) hx hb hts inW hown hK hI (cp_hY _ _ _ _ _) rfl 0 (by decide) fl_thrown rfl rfl dX1_badTurns_22 ?_
    refine lv_if_ne (tgt := 87) hx hb dX1_badTurns_25 (by decide) (fun c25 => ?_) (fun c25 => ?_)
    · refine lv_iload_n hx hb dX1_badTurns_87 rfl (lv_at hl 1 rfl) ?_
      exact cp_reti (u := (cp_thw u 1)) (v := 0) hx hb hr hlocks hK hI (Or.inl ⟨c6, rfl⟩) dX1_badTurns_88
    · exact absurd c25 (by decide)
  · have c6 := Classical.not_not.mp (fun h9 => c6 (cp_b0.mpr h9))
    refine lv_iconst (v := 0) hx hb dX1_badTurns_9 (by decide) ?_
    refine lv_goto (tgt := 14) hx hb dX1_badTurns_10 (by decide) ?_
    refine cp_puti hx hb hts inW tyX1 tyX1_ok nmX1 hown hK hI (cp_hY _ _ _ _ _) rfl 0 (by decide) fl_thrown rfl rfl (by decide +kernel) (Nat.le_of_ble_eq_true rfl) dX1_badTurns_14 (cp_tY _ _ _ _ _ _) (fun H locs hI => ?_)
    obtain ⟨g, hg, rfl⟩ := cp_idx hN1 c6
    have hN9 := hN1.2.1
    obtain ⟨L, hL0, hL3, hL1⟩ := hLn g hg
    refine lv_iconst (v := 0) hx hb dX1_badTurns_17 (by decide) ?_
    refine lv_istore_n (lv' := [(2, .int 0), (0, .ref h), (1, .int (nI g))]) hx hb dX1_badTurns_18 rfl hl (by decide) rfl (fun ls hl => ?_)
    refine lv_iconst (v := 0) hx hb dX1_badTurns_19 (by decide) ?_
    refine lv_istore_n (lv' := [(3, .int 0), (2, .int 0), (0, .ref h), (1, .int (nI g))]) hx hb dX1_badTurns_20 rfl hl (by decide) rfl (fun ls hl => ?_)
    have L21 : ∀ (n9 : Nat) (i : Nat) (hm9 : L - (cp_st (cp_qY (u 3 g)) L i) < n9) (hi : ∀ j, j < i → cp_st (cp_qY (u 3 g)) L j < L), ∀ (H : Heap) (locs : List Loc), cp_I D (cp_wY cI cZ h a (cp_thw u 0)) A s.heap H locs → ∀ ls, lv_has ls 5 [(3, .int (nI (cp_st (cp_qY (u 3 g)) L i))), (2, .int (nI (cp_cnt (cp_bad (cp_qY (u 3 g)) L) i))), (0, .ref h), (1, .int (nI g))] → W p l e ({ frames := 2, cells := 0, slots := 0, locals := 47 } : Room) s m args below meth c H locs 0 0 (MQ below (va_Qi (fun (r : Int32) (u1 : cp_M) => (¬ (cp_bw (nI g) 0 (u 14 1 - 1)) ∧ u1 = cp_thw u 1) ∨ (∃ g1 L1 i1, g1 < cp_n u 1 ∧ (nI g) = nI g1 ∧ u 2 g1 = nI L1 ∧ L1 ≤ 30 ∧ r = nI (cp_cnt (cp_bad (cp_qY (u 3 g1)) L1) i1) ∧ cp_pgs (cp_qY (u 3 g1)) L1 i1 ∧ u1 = cp_thw u 0)) (cp_at D [(cI, .int), (cZ, .boolean)] A (cp_wY cI cZ h a)) A) args s 0 0 A) (F0 m 21 ls []) := by
      intro n9
      induction n9 with
      | zero => intro i hm9; omega
      | succ n9 ih =>
        intro i hm9 hi H locs hI ls hl
        have hge := cp_st_ge (cp_qY (u 3 g)) L i hi
        refine lv_aload_n hx hb dX1_badTurns_21 rfl (lv_at hl 2 rfl) ?_
        refine cp_get (v := .int 0) hx hb hts inW hown hK hI (cp_hY _ _ _ _ _) rfl 0 (by decide) fl_thrown rfl rfl dX1_badTurns_22 ?_
        refine lv_if_ne (tgt := 87) hx hb dX1_badTurns_25 (by decide) (fun c25 => ?_) (fun c25 => ?_)
        · exact absurd rfl c25
        · refine lv_iload_n hx hb dX1_badTurns_28 rfl (lv_at hl 0 rfl) ?_
          refine lv_aload_n hx hb dX1_badTurns_29 rfl (lv_at hl 2 rfl) ?_
          refine cp_get (v := .ref (a 2)) hx hb hts inW hown hK hI (cp_hY _ _ _ _ _) rfl 5 (by decide) fl_lines rfl rfl dX1_badTurns_30 ?_
          refine lv_iload_n hx hb dX1_badTurns_33 rfl (lv_at hl 3 rfl) ?_
          refine cp_iald (f := u 2) hx hb hK hI 0 (cp_aY_2 _ _ _ _ _) rfl (j := g) (cp_ix_n (by omega) (by decide)) dX1_badTurns_34 ?_
          refine lv_icmp_ge (tgt := 87) hx hb dX1_badTurns_35 (by decide) (fun c35 => ?_) (fun c35 => ?_)
          · have hlt : L ≤ (cp_st (cp_qY (u 3 g)) L i) := by rw [hL1, nI_leI (by omega) (by omega)] at c35; exact c35
            refine lv_iload_n hx hb dX1_badTurns_87 rfl (lv_at hl 1 rfl) ?_
            exact cp_reti (u := (cp_thw u 0)) (v := (nI (cp_cnt (cp_bad (cp_qY (u 3 g)) L) i))) hx hb hr hlocks hK hI (Or.inr ⟨g, L, i, hg, rfl, hL1, hL3, rfl, ⟨by omega, hlt, hi⟩, rfl⟩) dX1_badTurns_88
          · have hlt : (cp_st (cp_qY (u 3 g)) L i) < L := by rw [hL1, nI_leI (by omega) (by omega)] at c35; omega
            have h77 := cp_nx_gt (cp_qY (u 3 g)) hlt
            have hpos : 0 < (cp_st (cp_qY (u 3 g)) L (i + 1)) := Nat.lt_of_le_of_lt (Nat.zero_le _) h77.1
            have hle : (cp_st (cp_qY (u 3 g)) L (i + 1)) ≤ L := h77.2
            refine lv_aload_n hx hb dX1_badTurns_38 rfl (lv_at hl 2 rfl) ?_
            refine lv_iload_n hx hb dX1_badTurns_39 rfl (lv_at hl 3 rfl) ?_
            refine lv_iload_n hx hb dX1_badTurns_40 rfl (lv_at hl 0 rfl) ?_
            refine cp_cVi0 (wc := cp_wY cI cZ h a) (u := (cp_thw u 0)) (As := [.int (nI g), .int (nI (cp_st (cp_qY (u 3 g)) L i))]) (rest := []) ⟨hx, hb, hml, hown, hts⟩ (c_X1_nextPage l D cI cZ h a (cp_thw u 0) g (cp_st (cp_qY (u 3 g)) L i) L (by omega) hL1 hL3 (by omega)) (cwV 2 hts gX1_badTurns_X1_nextPage rfl rfl rfl (by decide +kernel) ⟨Nat.le_of_ble_eq_true rfl, Nat.le_of_ble_eq_true rfl⟩) hK hI hA ⟨_, cp_hY _ _ _ _ _⟩ rfl rfl rfl hl.1 rfl (Nat.le_of_ble_eq_true rfl) dX1_badTurns_41 ⟨Nat.le_of_ble_eq_true rfl, Nat.le_of_ble_eq_true rfl⟩ (fun r41 u41 H locs hp41 hI => ?_)
            obtain ⟨rfl, e9⟩ := hp41
            rw [e9] at hI
            refine lv_topi (fun x44 ex44 => ?_)
            refine lv_istore (lv' := [(4, .int x44), (3, .int (nI (cp_st (cp_qY (u 3 g)) L i))), (2, .int (nI (cp_cnt (cp_bad (cp_qY (u 3 g)) L) i))), (0, .ref h), (1, .int (nI g))]) hx hb dX1_badTurns_44 hl (by decide) rfl (fun ls hl => ?_)
            obtain rfl : x44 = nI (cp_st (cp_qY (u 3 g)) L (i + 1)) := ex44
            refine lv_iload_n hx hb dX1_badTurns_46 rfl (lv_at hl 2 rfl) ?_
            refine lv_iload hx hb dX1_badTurns_47 (lv_at hl 0 rfl) ?_
            refine lv_aload_n hx hb dX1_badTurns_49 rfl (lv_at hl 3 rfl) ?_
            refine cp_get (v := .ref (a 2)) hx hb hts inW hown hK hI (cp_hY _ _ _ _ _) rfl 5 (by decide) fl_lines rfl rfl dX1_badTurns_50 ?_
            refine lv_iload_n hx hb dX1_badTurns_53 rfl (lv_at hl 4 rfl) ?_
            refine cp_iald (f := u 2) hx hb hK hI 0 (cp_aY_2 _ _ _ _ _) rfl (j := g) (cp_ix_n (by omega) (by decide)) dX1_badTurns_54 ?_
            refine lv_icmp_ge (tgt := 74) hx hb dX1_badTurns_55 (by decide) (fun c55 => ?_) (fun c55 => ?_)
            · have h55 : ¬ (cp_st (cp_qY (u 3 g)) L (i + 1)) < L := by rw [hL1, nI_leI (by omega) (by omega)] at c55; omega
              refine lv_iconst (v := 0) hx hb dX1_badTurns_74 (by decide) ?_
              refine lv_iadd hx hb dX1_badTurns_75 ?_
              refine lv_topi (fun x76 ex76 => ?_)
              refine lv_istore_n (lv' := [(2, .int x76), (4, .int (nI (cp_st (cp_qY (u 3 g)) L (i + 1)))), (3, .int (nI (cp_st (cp_qY (u 3 g)) L i))), (0, .ref h), (1, .int (nI g))]) hx hb dX1_badTurns_76 rfl hl (by decide) rfl (fun ls hl => ?_)
              refine lv_aload_n hx hb dX1_badTurns_77 rfl (lv_at hl 3 rfl) ?_
              refine lv_iload_n hx hb dX1_badTurns_78 rfl (lv_at hl 4 rfl) ?_
              refine lv_iload_n hx hb dX1_badTurns_79 rfl (lv_at hl 2 rfl) ?_
              refine cp_cVi0 (wc := cp_wY cI cZ h a) (u := (cp_thw u 0)) (As := [.int (nI g), .int (nI (cp_st (cp_qY (u 3 g)) L i))]) (rest := []) ⟨hx, hb, hml, hown, hts⟩ (c_X1_nextPage l D cI cZ h a (cp_thw u 0) g (cp_st (cp_qY (u 3 g)) L i) L (by omega) hL1 hL3 (by omega)) (cwV 2 hts gX1_badTurns_X1_nextPage rfl rfl rfl (by decide +kernel) ⟨Nat.le_of_ble_eq_true rfl, Nat.le_of_ble_eq_true rfl⟩) hK hI hA ⟨_, cp_hY _ _ _ _ _⟩ rfl rfl rfl hl.1 rfl (Nat.le_of_ble_eq_true rfl) dX1_badTurns_80 ⟨Nat.le_of_ble_eq_true rfl, Nat.le_of_ble_eq_true rfl⟩ (fun r80 u80 H locs hp80 hI => ?_)
              obtain ⟨rfl, e9⟩ := hp80
              rw [e9] at hI
              refine lv_topi (fun x83 ex83 => ?_)
              refine lv_istore_n (lv' := [(3, .int x83), (2, .int x76), (4, .int (nI (cp_st (cp_qY (u 3 g)) L (i + 1)))), (0, .ref h), (1, .int (nI g))]) hx hb dX1_badTurns_83 rfl hl (by decide) rfl (fun ls hl => ?_)
              refine lv_goto (tgt := 21) hx hb dX1_badTurns_84 (by decide) ?_
              obtain rfl : x76 = nI (cp_cnt (cp_bad (cp_qY (u 3 g)) L) (i + 1)) := by rw [ex76, cp_cnt_f (p := (cp_bad (cp_qY (u 3 g)) L)) (by first | exact fun hh => absurd hh.1 h55 | exact fun hh => hh.2 (by rw [cp_pred hpos] at c67; exact c67))]; exact cp_add0 _
              obtain rfl : x83 = nI (cp_st (cp_qY (u 3 g)) L (i + 1)) := ex83
              exact ih (i + 1) (by have h7 := cp_nx_gt (cp_qY (u 3 g)) hlt; show L - cp_nx (cp_qY (u 3 g)) L (cp_st (cp_qY (u 3 g)) L i) < n9; omega) (fun j hj => by rcases Nat.lt_or_ge j i with q | q; exact hi j q; obtain rfl : j = i := (by omega); exact hlt) _ _ hI ls (lv_sub hl [0, 1, 3, 4] rfl)
            · have h55 : (cp_st (cp_qY (u 3 g)) L (i + 1)) < L := by rw [hL1, nI_leI (by omega) (by omega)] at c55; omega
              refine lv_aload_n hx hb dX1_badTurns_58 rfl (lv_at hl 3 rfl) ?_
              refine lv_iload_n hx hb dX1_badTurns_59 rfl (lv_at hl 4 rfl) ?_
              refine lv_iload hx hb dX1_badTurns_60 (lv_at hl 0 rfl) ?_
              refine lv_iconst (v := 1) hx hb dX1_badTurns_62 (by decide) ?_
              refine lv_isub hx hb dX1_badTurns_63 ?_
              refine cp_cVi0 (wc := cp_wY cI cZ h a) (u := (cp_thw u 0)) (As := [.int (nI g), .int ((nI (cp_st (cp_qY (u 3 g)) L (i + 1))) - 1)]) (rest := [.int (nI (cp_cnt (cp_bad (cp_qY (u 3 g)) L) i))]) ⟨hx, hb, hml, hown, hts⟩ (c_X1_hasRest l D cI cZ h a (cp_thw u 0) g ((nI (cp_st (cp_qY (u 3 g)) L (i + 1))) - 1) (by omega)) (cwV 2 hts gX1_badTurns_X1_hasRest rfl rfl rfl (by decide +kernel) ⟨Nat.le_of_ble_eq_true rfl, Nat.le_of_ble_eq_true rfl⟩) hK hI hA ⟨_, cp_hY _ _ _ _ _⟩ rfl rfl rfl hl.1 rfl (Nat.le_of_ble_eq_true rfl) dX1_badTurns_64 ⟨Nat.le_of_ble_eq_true rfl, Nat.le_of_ble_eq_true rfl⟩ (fun r64 u64 H locs hp64 hI => ?_)
              obtain ⟨rfl, e9⟩ := hp64
              rw [e9] at hI
              refine lv_if_ne (tgt := 74) hx hb dX1_badTurns_67 (by decide) (fun c67 => ?_) (fun c67 => ?_)
              · have c67 := Classical.not_not.mp (fun h9 => c67 (cp_b0.mpr h9))
                refine lv_iconst (v := 0) hx hb dX1_badTurns_74 (by decide) ?_
                refine lv_iadd hx hb dX1_badTurns_75 ?_
                refine lv_topi (fun x76 ex76 => ?_)
                refine lv_istore_n (lv' := [(2, .int x76), (4, .int (nI (cp_st (cp_qY (u 3 g)) L (i + 1)))), (3, .int (nI (cp_st (cp_qY (u 3 g)) L i))), (0, .ref h), (1, .int (nI g))]) hx hb dX1_badTurns_76 rfl hl (by decide) rfl (fun ls hl => ?_)
                refine lv_aload_n hx hb dX1_badTurns_77 rfl (lv_at hl 3 rfl) ?_
                refine lv_iload_n hx hb dX1_badTurns_78 rfl (lv_at hl 4 rfl) ?_
                refine lv_iload_n hx hb dX1_badTurns_79 rfl (lv_at hl 2 rfl) ?_
                refine cp_cVi0 (wc := cp_wY cI cZ h a) (u := (cp_thw u 0)) (As := [.int (nI g), .int (nI (cp_st (cp_qY (u 3 g)) L i))]) (rest := []) ⟨hx, hb, hml, hown, hts⟩ (c_X1_nextPage l D cI cZ h a (cp_thw u 0) g (cp_st (cp_qY (u 3 g)) L i) L (by omega) hL1 hL3 (by omega)) (cwV 2 hts gX1_badTurns_X1_nextPage rfl rfl rfl (by decide +kernel) ⟨Nat.le_of_ble_eq_true rfl, Nat.le_of_ble_eq_true rfl⟩) hK hI hA ⟨_, cp_hY _ _ _ _ _⟩ rfl rfl rfl hl.1 rfl (Nat.le_of_ble_eq_true rfl) dX1_badTurns_80 ⟨Nat.le_of_ble_eq_true rfl, Nat.le_of_ble_eq_true rfl⟩ (fun r80 u80 H locs hp80 hI => ?_)
                obtain ⟨rfl, e9⟩ := hp80
                rw [e9] at hI
                refine lv_topi (fun x83 ex83 => ?_)
                refine lv_istore_n (lv' := [(3, .int x83), (2, .int x76), (4, .int (nI (cp_st (cp_qY (u 3 g)) L (i + 1)))), (0, .ref h), (1, .int (nI g))]) hx hb dX1_badTurns_83 rfl hl (by decide) rfl (fun ls hl => ?_)
                refine lv_goto (tgt := 21) hx hb dX1_badTurns_84 (by decide) ?_
                obtain rfl : x76 = nI (cp_cnt (cp_bad (cp_qY (u 3 g)) L) (i + 1)) := by rw [ex76, cp_cnt_f (p := (cp_bad (cp_qY (u 3 g)) L)) (by first | exact fun hh => absurd hh.1 h55 | exact fun hh => hh.2 (by rw [cp_pred hpos] at c67; exact c67))]; exact cp_add0 _
                obtain rfl : x83 = nI (cp_st (cp_qY (u 3 g)) L (i + 1)) := ex83
                exact ih (i + 1) (by have h7 := cp_nx_gt (cp_qY (u 3 g)) hlt; show L - cp_nx (cp_qY (u 3 g)) L (cp_st (cp_qY (u 3 g)) L i) < n9; omega) (fun j hj => by rcases Nat.lt_or_ge j i with q | q; exact hi j q; obtain rfl : j = i := (by omega); exact hlt) _ _ hI ls (lv_sub hl [0, 1, 3, 4] rfl)
              · have c67 := cp_b0.mp c67
                refine lv_iconst (v := 1) hx hb dX1_badTurns_70 (by decide) ?_
                refine lv_goto (tgt := 75) hx hb dX1_badTurns_71 (by decide) ?_
                refine lv_iadd hx hb dX1_badTurns_75 ?_
                refine lv_topi (fun x76 ex76 => ?_)
                refine lv_istore_n (lv' := [(2, .int x76), (4, .int (nI (cp_st (cp_qY (u 3 g)) L (i + 1)))), (3, .int (nI (cp_st (cp_qY (u 3 g)) L i))), (0, .ref h), (1, .int (nI g))]) hx hb dX1_badTurns_76 rfl hl (by decide) rfl (fun ls hl => ?_)
                refine lv_aload_n hx hb dX1_badTurns_77 rfl (lv_at hl 3 rfl) ?_
                refine lv_iload_n hx hb dX1_badTurns_78 rfl (lv_at hl 4 rfl) ?_
                refine lv_iload_n hx hb dX1_badTurns_79 rfl (lv_at hl 2 rfl) ?_
                refine cp_cVi0 (wc := cp_wY cI cZ h a) (u := (cp_thw u 0)) (As := [.int (nI g), .int (nI (cp_st (cp_qY (u 3 g)) L i))]) (rest := []) ⟨hx, hb, hml, hown, hts⟩ (c_X1_nextPage l D cI cZ h a (cp_thw u 0) g (cp_st (cp_qY (u 3 g)) L i) L (by omega) hL1 hL3 (by omega)) (cwV 2 hts gX1_badTurns_X1_nextPage rfl rfl rfl (by decide +kernel) ⟨Nat.le_of_ble_eq_true rfl, Nat.le_of_ble_eq_true rfl⟩) hK hI hA ⟨_, cp_hY _ _ _ _ _⟩ rfl rfl rfl hl.1 rfl (Nat.le_of_ble_eq_true rfl) dX1_badTurns_80 ⟨Nat.le_of_ble_eq_true rfl, Nat.le_of_ble_eq_true rfl⟩ (fun r80 u80 H locs hp80 hI => ?_)
                obtain ⟨rfl, e9⟩ := hp80
                rw [e9] at hI
                refine lv_topi (fun x83 ex83 => ?_)
                refine lv_istore_n (lv' := [(3, .int x83), (2, .int x76), (4, .int (nI (cp_st (cp_qY (u 3 g)) L (i + 1)))), (0, .ref h), (1, .int (nI g))]) hx hb dX1_badTurns_83 rfl hl (by decide) rfl (fun ls hl => ?_)
                refine lv_goto (tgt := 21) hx hb dX1_badTurns_84 (by decide) ?_
                obtain rfl : x76 = nI (cp_cnt (cp_bad (cp_qY (u 3 g)) L) (i + 1)) := by rw [ex76, cp_cnt_t (p := (cp_bad (cp_qY (u 3 g)) L)) ⟨h55, fun hq => c67 (by rw [cp_pred hpos]; exact hq)⟩]; exact nI_1 _
                obtain rfl : x83 = nI (cp_st (cp_qY (u 3 g)) L (i + 1)) := ex83
                exact ih (i + 1) (by have h7 := cp_nx_gt (cp_qY (u 3 g)) hlt; show L - cp_nx (cp_qY (u 3 g)) L (cp_st (cp_qY (u 3 g)) L i) < n9; omega) (fun j hj => by rcases Nat.lt_or_ge j i with q | q; exact hi j q; obtain rfl : j = i := (by omega); exact hlt) _ _ hI ls (lv_sub hl [0, 1, 3, 4] rfl)
    exact L21 (L + 1) 0 (Nat.lt_succ_self _) (fun j hj => absurd hj (Nat.not_lt_zero j)) _ _ hI ls (lv_sub hl [0, 1, 2, 3] rfl)
