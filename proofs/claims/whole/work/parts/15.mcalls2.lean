set_option maxHeartbeats 4000000 in
set_option maxRecDepth 100000 in
theorem c_X1_plan (l : Launch) (D : va_G) (cI cZ : ClassId) (h : Nat) (a : Nat → Nat) (u : cp_M) (x : Int32) (hN1 : cp_cn u 1 16) (hN2 : cp_cn u 2 40) (hN3 : cp_cn u 3 40) (cf : Nat → Nat) (hC : ∀ k, k < cp_n u 3 → cf k < 4 ∧ u 11 k = nI (cf k)) : ∀ sz : Nat, Met l yX1_plan wsX1_plan ({ frames := 3, cells := 0, slots := 0, locals := 72 } : Room) (va_Pc [.ref h, .int x] (cp_pre D [(cI, .int), (cZ, .boolean)] (cp_wY cI cZ h a u) sz)) (va_Qi (fun (r : Int32) (u1 : cp_M) => (¬ (cp_bw x 0 (u 14 3 - 1)) ∧ u1 = cp_thw u 1) ∨ (∃ g1, g1 < cp_n u 3 ∧ x = nI g1 ∧ ((u 12 g1 < u 14 0 ∧ u1 = cp_thw u 2) ∨ (¬ u 12 g1 < u 14 0 ∧ r = cp_planY (cp_thw u 0) g1 (cf g1) 13 g1 ∧ u1 = cp_planY (cp_thw u 0) g1 (cf g1))))) (cp_at D [(cI, .int), (cZ, .boolean)] (va_A (cp_wY cI cZ h a u) sz) (cp_wY cI cZ h a)) (va_A (cp_wY cI cZ h a u) sz)) 0 0 (va_A (cp_wY cI cZ h a u) sz) := by
  refine cp_MetI (Qk := fun A => va_Qi (fun (r : Int32) (u1 : cp_M) => (¬ (cp_bw x 0 (u 14 3 - 1)) ∧ u1 = cp_thw u 1) ∨ (∃ g1, g1 < cp_n u 3 ∧ x = nI g1 ∧ ((u 12 g1 < u 14 0 ∧ u1 = cp_thw u 2) ∨ (¬ u 12 g1 < u 14 0 ∧ r = cp_planY (cp_thw u 0) g1 (cf g1) 13 g1 ∧ u1 = cp_planY (cp_thw u 0) g1 (cf g1))))) (cp_at D [(cI, .int), (cZ, .boolean)] A (cp_wY cI cZ h a)) A) (by decide) rfl (Nat.le_of_ble_eq_true rfl) ?_
  intro p e s m args below meth c A hC hA hK hI ls hl
  obtain ⟨hx, hb, hml, hown, hts, hr, hlocks⟩ := hC
  have hown : s.vm.findClass RX1 = some m.cls := hown
  have hl : lv_has ls 2 [(0, .ref h), (1, .int x)] := hl
  have inW : ∀ w ∈ wsX10, w ∈ wsX1_plan := by decide +kernel
  have fl_day : Cond.fieldLink RX1 43 "CanticlePressModel" "day" "[I" ∈ wsX1_plan := by decide +kernel
  have fl_sung : Cond.fieldLink RX1 46 "CanticlePressModel" "sung" "[I" ∈ wsX1_plan := by decide +kernel
  have fl_thrown : Cond.fieldLink RX1 53 "CanticlePressModel" "thrown" "I" ∈ wsX1_plan := by decide +kernel
  have fl_today : Cond.fieldLink RX1 89 "CanticlePressModel" "today" "I" ∈ wsX1_plan := by decide +kernel
  refine lv_aload_n hx hb dX1_plan_0 rfl (lv_at hl 0 rfl) ?_
  refine lv_aload_n hx hb dX1_plan_1 rfl (lv_at hl 0 rfl) ?_
  refine lv_iload_n hx hb dX1_plan_2 rfl (lv_at hl 1 rfl) ?_
  refine cp_cVi0 (wc := cp_wY cI cZ h a) (u := u) (As := [.int x]) (rest := [.ref h]) ⟨hx, hb, hml, hown, hts⟩ (c_X1_isService l D cI cZ h a u x) (cwV 1 hts gX1_plan_X1_isService rfl rfl rfl (by decide +kernel) ⟨Nat.le_of_ble_eq_true rfl, Nat.le_of_ble_eq_true rfl⟩) hK hI hA ⟨_, cp_hY _ _ _ _ _⟩ rfl rfl rfl hl.1 rfl (Nat.le_of_ble_eq_true rfl) dX1_plan_3 ⟨Nat.le_of_ble_eq_true rfl, Nat.le_of_ble_eq_true rfl⟩ (fun r3 u3 H locs hp3 hI => ?_)
  obtain ⟨rfl, e9⟩ := hp3
  rw [e9] at hI
  refine lv_if_ne (tgt := 13) hx hb dX1_plan_6 (by decide) (fun c6 => ?_) (fun c6 => ?_)
  · have c6 := Classical.not_not.mp (fun h9 => c6 (cp_b0.mpr h9))
    obtain ⟨g, hg, rfl⟩ := cp_idx hN3 c6
    have hN9 := hN3.2.1
    obtain ⟨hc4, hcs⟩ := hC g hg
    refine lv_aload_n hx hb dX1_plan_13 rfl (lv_at hl 0 rfl) ?_
    refine cp_get (v := .ref (a 12)) hx hb hts inW hown hK hI (cp_hY _ _ _ _ _) rfl 16 (by decide) fl_day rfl rfl dX1_plan_14 ?_
    refine lv_iload_n hx hb dX1_plan_17 rfl (lv_at hl 1 rfl) ?_
    refine cp_iald (f := u 12) hx hb hK hI 0 (cp_aY_12 _ _ _ _ _) rfl (j := g) (cp_ix_n (by omega) (by decide)) dX1_plan_18 ?_
    refine lv_aload_n hx hb dX1_plan_19 rfl (lv_at hl 0 rfl) ?_
    refine cp_get (v := .int (u 14 0)) hx hb hts inW hown hK hI (cp_hY _ _ _ _ _) rfl 1 (by decide) fl_today rfl rfl dX1_plan_20 ?_
    refine lv_icmp_ge (tgt := 30) hx hb dX1_plan_23 (by decide) (fun c23 => ?_) (fun c23 => ?_)
    · refine lv_iconst (v := 0) hx hb dX1_plan_30 (by decide) ?_
      refine cp_puti hx hb hts inW tyX1 tyX1_ok nmX1 hown hK hI (cp_hY _ _ _ _ _) rfl 0 (by decide) fl_thrown rfl rfl (by decide +kernel) (Nat.le_of_ble_eq_true rfl) dX1_plan_31 (cp_tY _ _ _ _ _ _) (fun H locs hI => ?_)
      refine lv_aload_n hx hb dX1_plan_34 rfl (lv_at hl 0 rfl) ?_
      refine cp_get (v := .int 0) hx hb hts inW hown hK hI (cp_hY _ _ _ _ _) rfl 0 (by decide) fl_thrown rfl rfl dX1_plan_35 ?_
      refine lv_if_le (tgt := 43) hx hb dX1_plan_38 (by decide) (fun c38 => ?_) (fun c38 => ?_)
      · refine lv_aload_n hx hb dX1_plan_43 rfl (lv_at hl 0 rfl) ?_
        refine lv_iload_n hx hb dX1_plan_44 rfl (lv_at hl 1 rfl) ?_
        refine cp_cVv0 (wc := cp_wY cI cZ h a) (u := (cp_thw u 0)) (As := [.int (nI g)]) (rest := []) ⟨hx, hb, hml, hown, hts⟩ (c_X1_plans l D cI cZ h a (cp_thw u 0) g (cf g) (by omega) hc4 hcs hN1 hN2 hN3) (cwV 1 hts gX1_plan_X1_plans rfl rfl rfl (by decide +kernel) ⟨Nat.le_of_ble_eq_true rfl, Nat.le_of_ble_eq_true rfl⟩) hK hI hA ⟨_, cp_hY _ _ _ _ _⟩ rfl rfl rfl hl.1 rfl (Nat.le_of_ble_eq_true rfl) dX1_plan_45 ⟨Nat.le_of_ble_eq_true rfl, Nat.le_of_ble_eq_true rfl⟩ (fun u45 H locs hp45 hI => ?_)
        have eu45 := hp45
        refine lv_aload_n hx hb dX1_plan_48 rfl (lv_at hl 0 rfl) ?_
        refine cp_get (v := .ref (a 13)) hx hb hts inW hown hK hI (cp_hY _ _ _ _ _) rfl 17 (by decide) fl_sung rfl rfl dX1_plan_49 ?_
        refine lv_iload_n hx hb dX1_plan_52 rfl (lv_at hl 1 rfl) ?_
        refine cp_iald (f := u45 13) hx hb hK hI 0 (cp_aY_13 _ _ _ _ _) rfl (j := g) (cp_ix_n (by omega) (by decide)) dX1_plan_53 ?_
        exact cp_reti (u := u45) (v := (u45 13 g)) hx hb hr hlocks hK hI (Or.inr ⟨g, hg, rfl, Or.inr ⟨Int32.not_lt.mpr c23, by rw [eu45], eu45⟩⟩) dX1_plan_54
      · exact absurd (by decide) c38
    · refine lv_iconst (v := 2) hx hb dX1_plan_26 (by decide) ?_
      refine lv_goto (tgt := 31) hx hb dX1_plan_27 (by decide) ?_
      refine cp_puti hx hb hts inW tyX1 tyX1_ok nmX1 hown hK hI (cp_hY _ _ _ _ _) rfl 0 (by decide) fl_thrown rfl rfl (by decide +kernel) (Nat.le_of_ble_eq_true rfl) dX1_plan_31 (cp_tY _ _ _ _ _ _) (fun H locs hI => ?_)
      refine lv_aload_n hx hb dX1_plan_34 rfl (lv_at hl 0 rfl) ?_
      refine cp_get (v := .int 2) hx hb hts inW hown hK hI (cp_hY _ _ _ _ _) rfl 0 (by decide) fl_thrown rfl rfl dX1_plan_35 ?_
      refine lv_if_le (tgt := 43) hx hb dX1_plan_38 (by decide) (fun c38 => ?_) (fun c38 => ?_)
      · exact absurd c38 (by decide)
      · refine lv_iconst (v := 0) hx hb dX1_plan_41 (by decide) ?_
        exact cp_reti (u := (cp_thw u 2)) (v := 0) hx hb hr hlocks hK hI (Or.inr ⟨g, hg, rfl, Or.inl ⟨Int32.not_le.mp c23, rfl⟩⟩) dX1_plan_42
  · have c6 := cp_b0.mp c6
    refine lv_iconst (v := 1) hx hb dX1_plan_9 (by decide) ?_
    refine lv_goto (tgt := 31) hx hb dX1_plan_10 (by decide) ?_
    refine cp_puti hx hb hts inW tyX1 tyX1_ok nmX1 hown hK hI (cp_hY _ _ _ _ _) rfl 0 (by decide) fl_thrown rfl rfl (by decide +kernel) (Nat.le_of_ble_eq_true rfl) dX1_plan_31 (cp_tY _ _ _ _ _ _) (fun H locs hI => ?_)
    refine lv_aload_n hx hb dX1_plan_34 rfl (lv_at hl 0 rfl) ?_
    refine cp_get (v := .int 1) hx hb hts inW hown hK hI (cp_hY _ _ _ _ _) rfl 0 (by decide) fl_thrown rfl rfl dX1_plan_35 ?_
    refine lv_if_le (tgt := 43) hx hb dX1_plan_38 (by decide) (fun c38 => ?_) (fun c38 => ?_)
    · exact absurd c38 (by decide)
    · refine lv_iconst (v := 0) hx hb dX1_plan_41 (by decide) ?_
      exact cp_reti (u := (cp_thw u 1)) (v := 0) hx hb hr hlocks hK hI (Or.inl ⟨c6, rfl⟩) dX1_plan_42
set_option maxHeartbeats 4000000 in
set_option maxRecDepth 100000 in
theorem c_X1_hymnOf (l : Launch) (D : va_G) (cI cZ : ClassId) (h : Nat) (a : Nat → Nat) (u : cp_M) (x : Int32) (hN3 : cp_cn u 3 40) : ∀ sz : Nat, Met l yX1_hymnOf wsX1_hymnOf ({ frames := 2, cells := 0, slots := 0, locals := 43 } : Room) (va_Pc [.ref h, .int x] (cp_pre D [(cI, .int), (cZ, .boolean)] (cp_wY cI cZ h a u) sz)) (va_Qi (fun (r : Int32) (u1 : cp_M) => (¬ (cp_bw x 0 (u 14 3 - 1)) ∧ u1 = cp_thw u 1) ∨ (∃ g1, g1 < cp_n u 3 ∧ x = nI g1 ∧ r = u 13 g1 ∧ u1 = cp_thw u 0)) (cp_at D [(cI, .int), (cZ, .boolean)] (va_A (cp_wY cI cZ h a u) sz) (cp_wY cI cZ h a)) (va_A (cp_wY cI cZ h a u) sz)) 0 0 (va_A (cp_wY cI cZ h a u) sz) := by
  refine cp_MetI (Qk := fun A => va_Qi (fun (r : Int32) (u1 : cp_M) => (¬ (cp_bw x 0 (u 14 3 - 1)) ∧ u1 = cp_thw u 1) ∨ (∃ g1, g1 < cp_n u 3 ∧ x = nI g1 ∧ r = u 13 g1 ∧ u1 = cp_thw u 0)) (cp_at D [(cI, .int), (cZ, .boolean)] A (cp_wY cI cZ h a)) A) (by decide) rfl (Nat.le_of_ble_eq_true rfl) ?_
  intro p e s m args below meth c A hC hA hK hI ls hl
  obtain ⟨hx, hb, hml, hown, hts, hr, hlocks⟩ := hC
  have hown : s.vm.findClass RX1 = some m.cls := hown
  have hl : lv_has ls 2 [(0, .ref h), (1, .int x)] := hl
  have inW : ∀ w ∈ wsX10, w ∈ wsX1_hymnOf := by decide +kernel
  have fl_sung : Cond.fieldLink RX1 46 "CanticlePressModel" "sung" "[I" ∈ wsX1_hymnOf := by decide +kernel
  have fl_thrown : Cond.fieldLink RX1 53 "CanticlePressModel" "thrown" "I" ∈ wsX1_hymnOf := by decide +kernel
  refine lv_aload_n hx hb dX1_hymnOf_0 rfl (lv_at hl 0 rfl) ?_
  refine lv_aload_n hx hb dX1_hymnOf_1 rfl (lv_at hl 0 rfl) ?_
  refine lv_iload_n hx hb dX1_hymnOf_2 rfl (lv_at hl 1 rfl) ?_
  refine cp_cVi0 (wc := cp_wY cI cZ h a) (u := u) (As := [.int x]) (rest := [.ref h]) ⟨hx, hb, hml, hown, hts⟩ (c_X1_isService l D cI cZ h a u x) (cwV 1 hts gX1_hymnOf_X1_isService rfl rfl rfl (by decide +kernel) ⟨Nat.le_of_ble_eq_true rfl, Nat.le_of_ble_eq_true rfl⟩) hK hI hA ⟨_, cp_hY _ _ _ _ _⟩ rfl rfl rfl hl.1 rfl (Nat.le_of_ble_eq_true rfl) dX1_hymnOf_3 ⟨Nat.le_of_ble_eq_true rfl, Nat.le_of_ble_eq_true rfl⟩ (fun r3 u3 H locs hp3 hI => ?_)
  obtain ⟨rfl, e9⟩ := hp3
  rw [e9] at hI
  refine lv_if_eq (tgt := 13) hx hb dX1_hymnOf_6 (by decide) (fun c6 => ?_) (fun c6 => ?_)
  · have c6 := cp_b0.mp c6
    refine lv_iconst (v := 1) hx hb dX1_hymnOf_13 (by decide) ?_
    refine cp_puti hx hb hts inW tyX1 tyX1_ok nmX1 hown hK hI (cp_hY _ _ _ _ _) rfl 0 (by decide) fl_thrown rfl rfl (by decide +kernel) (Nat.le_of_ble_eq_true rfl) dX1_hymnOf_14 (cp_tY _ _ _ _ _ _) (fun H locs hI => ?_)
    refine lv_aload_n hx hb dX1_hymnOf_17 rfl (lv_at hl 0 rfl) ?_
    refine cp_get (v := .int 1) hx hb hts inW hown hK hI (cp_hY _ _ _ _ _) rfl 0 (by decide) fl_thrown rfl rfl dX1_hymnOf_18 ?_
    refine lv_if_le (tgt := 28) hx hb dX1_hymnOf_21 (by decide) (fun c21 => ?_) (fun c21 => ?_)
    · exact absurd c21 (by decide)
    · refine lv_iconst (v := 0) hx hb dX1_hymnOf_24 (by decide) ?_
      refine lv_goto (tgt := 34) hx hb dX1_hymnOf_25 (by decide) ?_
      exact cp_reti (u := (cp_thw u 1)) (v := 0) hx hb hr hlocks hK hI (Or.inl ⟨c6, rfl⟩) dX1_hymnOf_34
  · have c6 := Classical.not_not.mp (fun h9 => c6 (cp_b0.mpr h9))
    refine lv_iconst (v := 0) hx hb dX1_hymnOf_9 (by decide) ?_
    refine lv_goto (tgt := 14) hx hb dX1_hymnOf_10 (by decide) ?_
    refine cp_puti hx hb hts inW tyX1 tyX1_ok nmX1 hown hK hI (cp_hY _ _ _ _ _) rfl 0 (by decide) fl_thrown rfl rfl (by decide +kernel) (Nat.le_of_ble_eq_true rfl) dX1_hymnOf_14 (cp_tY _ _ _ _ _ _) (fun H locs hI => ?_)
    refine lv_aload_n hx hb dX1_hymnOf_17 rfl (lv_at hl 0 rfl) ?_
    refine cp_get (v := .int 0) hx hb hts inW hown hK hI (cp_hY _ _ _ _ _) rfl 0 (by decide) fl_thrown rfl rfl dX1_hymnOf_18 ?_
    refine lv_if_le (tgt := 28) hx hb dX1_hymnOf_21 (by decide) (fun c21 => ?_) (fun c21 => ?_)
    · obtain ⟨g, hg, rfl⟩ := cp_idx hN3 c6
      have hN9 := hN3.2.1
      refine lv_aload_n hx hb dX1_hymnOf_28 rfl (lv_at hl 0 rfl) ?_
      refine cp_get (v := .ref (a 13)) hx hb hts inW hown hK hI (cp_hY _ _ _ _ _) rfl 17 (by decide) fl_sung rfl rfl dX1_hymnOf_29 ?_
      refine lv_iload_n hx hb dX1_hymnOf_32 rfl (lv_at hl 1 rfl) ?_
      refine cp_iald (f := u 13) hx hb hK hI 0 (cp_aY_13 _ _ _ _ _) rfl (j := g) (cp_ix_n (by omega) (by decide)) dX1_hymnOf_33 ?_
      exact cp_reti (u := (cp_thw u 0)) (v := (u 13 g)) hx hb hr hlocks hK hI (Or.inr ⟨g, hg, rfl, rfl, rfl⟩) dX1_hymnOf_34
    · exact absurd (by decide) c21
set_option maxHeartbeats 4000000 in
set_option maxRecDepth 100000 in
theorem c_X1_silent (l : Launch) (D : va_G) (cI cZ : ClassId) (h : Nat) (a : Nat → Nat) (u : cp_M)  (hN3 : cp_cn u 3 40) : ∀ sz : Nat, Met l yX1_silent wsX1_silent ({ frames := 0, cells := 0, slots := 0, locals := 0 } : Room) (va_Pc [.ref h] (cp_pre D [(cI, .int), (cZ, .boolean)] (cp_wY cI cZ h a u) sz)) (va_Qi (fun (r : Int32) (u1 : cp_M) => r = nI (cp_cnt (fun k => u 12 k ≤ u 14 0 ∧ u 13 k = -1) (cp_n u 3)) ∧ u1 = cp_thw u 0) (cp_at D [(cI, .int), (cZ, .boolean)] (va_A (cp_wY cI cZ h a u) sz) (cp_wY cI cZ h a)) (va_A (cp_wY cI cZ h a u) sz)) 0 0 (va_A (cp_wY cI cZ h a u) sz) := by
  refine cp_MetI (Qk := fun A => va_Qi (fun (r : Int32) (u1 : cp_M) => r = nI (cp_cnt (fun k => u 12 k ≤ u 14 0 ∧ u 13 k = -1) (cp_n u 3)) ∧ u1 = cp_thw u 0) (cp_at D [(cI, .int), (cZ, .boolean)] A (cp_wY cI cZ h a)) A) (by decide) rfl (Nat.le_of_ble_eq_true rfl) ?_
  intro p e s m args below meth c A hC hA hK hI ls hl
  obtain ⟨hx, hb, hml, hown, hts, hr, hlocks⟩ := hC
  have hown : s.vm.findClass RX1 = some m.cls := hown
  have hl : lv_has ls 3 [(0, .ref h)] := hl
  have inW : ∀ w ∈ wsX10, w ∈ wsX1_silent := by decide +kernel
  have fl_day : Cond.fieldLink RX1 43 "CanticlePressModel" "day" "[I" ∈ wsX1_silent := by decide +kernel
  have fl_services : Cond.fieldLink RX1 92 "CanticlePressModel" "services" "I" ∈ wsX1_silent := by decide +kernel
  have fl_sung : Cond.fieldLink RX1 46 "CanticlePressModel" "sung" "[I" ∈ wsX1_silent := by decide +kernel
  have fl_thrown : Cond.fieldLink RX1 53 "CanticlePressModel" "thrown" "I" ∈ wsX1_silent := by decide +kernel
  have fl_today : Cond.fieldLink RX1 89 "CanticlePressModel" "today" "I" ∈ wsX1_silent := by decide +kernel
  refine lv_aload_n hx hb dX1_silent_0 rfl (lv_at hl 0 rfl) ?_
  refine lv_iconst (v := 0) hx hb dX1_silent_1 (by decide) ?_
  refine cp_puti hx hb hts inW tyX1 tyX1_ok nmX1 hown hK hI (cp_hY _ _ _ _ _) rfl 0 (by decide) fl_thrown rfl rfl (by decide +kernel) (Nat.le_of_ble_eq_true rfl) dX1_silent_2 (cp_tY _ _ _ _ _ _) (fun H locs hI => ?_)
  refine lv_iconst (v := 0) hx hb dX1_silent_5 (by decide) ?_
  refine lv_istore_n (lv' := [(1, .int 0), (0, .ref h)]) hx hb dX1_silent_6 rfl hl (by decide) rfl (fun ls hl => ?_)
  refine lv_iconst (v := 0) hx hb dX1_silent_7 (by decide) ?_
  refine lv_istore_n (lv' := [(2, .int 0), (1, .int 0), (0, .ref h)]) hx hb dX1_silent_8 rfl hl (by decide) rfl (fun ls hl => ?_)
  have L9 : ∀ (n9 : Nat) (k : Nat) (hm9 : cp_n u 3 - k < n9) (hk : k ≤ cp_n u 3), ∀ (H : Heap) (locs : List Loc), cp_I D (cp_wY cI cZ h a (cp_thw u 0)) A s.heap H locs → ∀ ls, lv_has ls 3 [(2, .int (nI k)), (1, .int (nI (cp_cnt (fun k => u 12 k ≤ u 14 0 ∧ u 13 k = -1) k))), (0, .ref h)] → W p l e ({ frames := 0, cells := 0, slots := 0, locals := 0 } : Room) s m args below meth c H locs 0 0 (MQ below (va_Qi (fun (r : Int32) (u1 : cp_M) => r = nI (cp_cnt (fun k => u 12 k ≤ u 14 0 ∧ u 13 k = -1) (cp_n u 3)) ∧ u1 = cp_thw u 0) (cp_at D [(cI, .int), (cZ, .boolean)] A (cp_wY cI cZ h a)) A) args s 0 0 A) (F0 m 9 ls []) := by
    intro n9
    induction n9 with
    | zero => intro k hm9; omega
    | succ n9 ih =>
      intro k hm9 hk H locs hI ls hl
      have hN9 := hN3.2.1
      refine lv_iload_n hx hb dX1_silent_9 rfl (lv_at hl 0 rfl) ?_
      refine lv_aload_n hx hb dX1_silent_10 rfl (lv_at hl 2 rfl) ?_
      refine cp_get (v := .int (u 14 3)) hx hb hts inW hown hK hI (cp_hY _ _ _ _ _) rfl 14 (by decide) fl_services rfl rfl dX1_silent_11 ?_
      refine lv_icmp_ge (tgt := 54) hx hb dX1_silent_14 (by decide) (fun c14 => ?_) (fun c14 => ?_)
      · have hk2 := cp_ex hN3 hk c14
        refine lv_iload_n hx hb dX1_silent_54 rfl (lv_at hl 1 rfl) ?_
        exact cp_reti (u := (cp_thw u 0)) (v := (nI (cp_cnt (fun k => u 12 k ≤ u 14 0 ∧ u 13 k = -1) k))) hx hb hr hlocks hK hI ⟨by rw [hk2], rfl⟩ dX1_silent_55
      · have hk2 := cp_in hN3 (by omega) c14
        refine lv_iload_n hx hb dX1_silent_17 rfl (lv_at hl 1 rfl) ?_
        refine lv_aload_n hx hb dX1_silent_18 rfl (lv_at hl 2 rfl) ?_
        refine cp_get (v := .ref (a 12)) hx hb hts inW hown hK hI (cp_hY _ _ _ _ _) rfl 16 (by decide) fl_day rfl rfl dX1_silent_19 ?_
        refine lv_iload_n hx hb dX1_silent_22 rfl (lv_at hl 0 rfl) ?_
        refine cp_iald (f := u 12) hx hb hK hI 0 (cp_aY_12 _ _ _ _ _) rfl (j := k) (cp_ix_n (by omega) (by decide)) dX1_silent_23 ?_
        refine lv_aload_n hx hb dX1_silent_24 rfl (lv_at hl 2 rfl) ?_
        refine cp_get (v := .int (u 14 0)) hx hb hts inW hown hK hI (cp_hY _ _ _ _ _) rfl 1 (by decide) fl_today rfl rfl dX1_silent_25 ?_
        refine lv_icmp_gt (tgt := 45) hx hb dX1_silent_28 (by decide) (fun c28 => ?_) (fun c28 => ?_)
        · refine lv_iconst (v := 0) hx hb dX1_silent_45 (by decide) ?_
          refine lv_iadd hx hb dX1_silent_46 ?_
          refine lv_topi (fun x47 ex47 => ?_)
          refine lv_istore_n (lv' := [(1, .int x47), (2, .int (nI k)), (0, .ref h)]) hx hb dX1_silent_47 rfl hl (by decide) rfl (fun ls hl => ?_)
          obtain ⟨x48, ex48⟩ : ∃ y9 : Int32, y9 = (nI k) + 1 := ⟨_, rfl⟩
          refine lv_iinc (v := x48) (lv' := [(2, .int x48), (1, .int x47), (0, .ref h)]) hx hb dX1_silent_48 hl (k := 1) rfl (by rw [ex48]; rfl) (by decide) rfl (fun ls hl => ?_)
          refine lv_goto (tgt := 9) hx hb dX1_silent_51 (by decide) ?_
          obtain rfl : x47 = nI (cp_cnt (fun k => u 12 k ≤ u 14 0 ∧ u 13 k = -1) (k + 1)) := by rw [ex47, cp_cnt_f (p := (fun k => u 12 k ≤ u 14 0 ∧ u 13 k = -1)) (by first | exact fun h => absurd h.1 (Int32.not_le.mpr c28) | exact fun h => c38 h.2)]; exact cp_add0 _
          obtain rfl : x48 = nI (k + 1) := by rw [ex48]; exact nI_1 k
          exact ih (k + 1) (by omega) (by omega) _ _ hI ls (lv_sub hl [0, 1, 2] rfl)
        · refine lv_aload_n hx hb dX1_silent_31 rfl (lv_at hl 2 rfl) ?_
          refine cp_get (v := .ref (a 13)) hx hb hts inW hown hK hI (cp_hY _ _ _ _ _) rfl 17 (by decide) fl_sung rfl rfl dX1_silent_32 ?_
          refine lv_iload_n hx hb dX1_silent_35 rfl (lv_at hl 0 rfl) ?_
          refine cp_iald (f := u 13) hx hb hK hI 0 (cp_aY_13 _ _ _ _ _) rfl (j := k) (cp_ix_n (by omega) (by decide)) dX1_silent_36 ?_
          refine lv_iconst (v := (-1)) hx hb dX1_silent_37 (by decide) ?_
          refine lv_icmp_ne (tgt := 45) hx hb dX1_silent_38 (by decide) (fun c38 => ?_) (fun c38 => ?_)
          · refine lv_iconst (v := 0) hx hb dX1_silent_45 (by decide) ?_
            refine lv_iadd hx hb dX1_silent_46 ?_
            refine lv_topi (fun x47 ex47 => ?_)
            refine lv_istore_n (lv' := [(1, .int x47), (2, .int (nI k)), (0, .ref h)]) hx hb dX1_silent_47 rfl hl (by decide) rfl (fun ls hl => ?_)
            obtain ⟨x48, ex48⟩ : ∃ y9 : Int32, y9 = (nI k) + 1 := ⟨_, rfl⟩
            refine lv_iinc (v := x48) (lv' := [(2, .int x48), (1, .int x47), (0, .ref h)]) hx hb dX1_silent_48 hl (k := 1) rfl (by rw [ex48]; rfl) (by decide) rfl (fun ls hl => ?_)
            refine lv_goto (tgt := 9) hx hb dX1_silent_51 (by decide) ?_
            obtain rfl : x47 = nI (cp_cnt (fun k => u 12 k ≤ u 14 0 ∧ u 13 k = -1) (k + 1)) := by rw [ex47, cp_cnt_f (p := (fun k => u 12 k ≤ u 14 0 ∧ u 13 k = -1)) (by first | exact fun h => absurd h.1 (Int32.not_le.mpr c28) | exact fun h => c38 h.2)]; exact cp_add0 _
            obtain rfl : x48 = nI (k + 1) := by rw [ex48]; exact nI_1 k
            exact ih (k + 1) (by omega) (by omega) _ _ hI ls (lv_sub hl [0, 1, 2] rfl)
          · refine lv_iconst (v := 1) hx hb dX1_silent_41 (by decide) ?_
            refine lv_goto (tgt := 46) hx hb dX1_silent_42 (by decide) ?_
            refine lv_iadd hx hb dX1_silent_46 ?_
            refine lv_topi (fun x47 ex47 => ?_)
            refine lv_istore_n (lv' := [(1, .int x47), (2, .int (nI k)), (0, .ref h)]) hx hb dX1_silent_47 rfl hl (by decide) rfl (fun ls hl => ?_)
            obtain ⟨x48, ex48⟩ : ∃ y9 : Int32, y9 = (nI k) + 1 := ⟨_, rfl⟩
            refine lv_iinc (v := x48) (lv' := [(2, .int x48), (1, .int x47), (0, .ref h)]) hx hb dX1_silent_48 hl (k := 1) rfl (by rw [ex48]; rfl) (by decide) rfl (fun ls hl => ?_)
            refine lv_goto (tgt := 9) hx hb dX1_silent_51 (by decide) ?_
            obtain rfl : x47 = nI (cp_cnt (fun k => u 12 k ≤ u 14 0 ∧ u 13 k = -1) (k + 1)) := by rw [ex47, cp_cnt_t (p := (fun k => u 12 k ≤ u 14 0 ∧ u 13 k = -1)) ⟨Int32.not_lt.mp c28, c38⟩]; exact nI_1 _
            obtain rfl : x48 = nI (k + 1) := by rw [ex48]; exact nI_1 k
            exact ih (k + 1) (by omega) (by omega) _ _ hI ls (lv_sub hl [0, 1, 2] rfl)
  exact L9 ((cp_n u 3) + 1) 0 (Nat.lt_succ_self _) (Nat.zero_le _) _ _ hI ls (lv_sub hl [0, 1, 2] rfl)
set_option maxHeartbeats 4000000 in
set_option maxRecDepth 100000 in
theorem c_X1_sung (l : Launch) (D : va_G) (cI cZ : ClassId) (h : Nat) (a : Nat → Nat) (u : cp_M) (ow : Int32) (y : Int32) (hN3 : cp_cn u 3 40) (hS : ∀ k, k < cp_n u 3 → u 13 k = -1 ∨ ∃ g, g < 16 ∧ u 13 k = nI g) : ∀ sz : Nat, Met l yX1_sung wsX1_sung ({ frames := 1, cells := 0, slots := 0, locals := 25 } : Room) (va_Pc [.ref h, .int ow, .int y] (cp_pre D [(cI, .int), (cZ, .boolean)] (cp_wY cI cZ h a u) sz)) (va_Qi (fun (r : Int32) (u1 : cp_M) => (¬ (cp_bw ow 0 4 ∧ cp_bw y 0 3) ∧ u1 = cp_thw u 1) ∨ ((cp_bw ow 0 4 ∧ cp_bw y 0 3) ∧ r = nI (cp_cnt (cp_sgY u ow y) (cp_n u 3)) ∧ u1 = cp_thw u 0)) (cp_at D [(cI, .int), (cZ, .boolean)] (va_A (cp_wY cI cZ h a u) sz) (cp_wY cI cZ h a)) (va_A (cp_wY cI cZ h a u) sz)) 0 0 (va_A (cp_wY cI cZ h a u) sz) := by
  refine cp_MetI (Qk := fun A => va_Qi (fun (r : Int32) (u1 : cp_M) => (¬ (cp_bw ow 0 4 ∧ cp_bw y 0 3) ∧ u1 = cp_thw u 1) ∨ ((cp_bw ow 0 4 ∧ cp_bw y 0 3) ∧ r = nI (cp_cnt (cp_sgY u ow y) (cp_n u 3)) ∧ u1 = cp_thw u 0)) (cp_at D [(cI, .int), (cZ, .boolean)] A (cp_wY cI cZ h a)) A) (by decide) rfl (Nat.le_of_ble_eq_true rfl) ?_
  intro p e s m args below meth c A hC hA hK hI ls hl
  obtain ⟨hx, hb, hml, hown, hts, hr, hlocks⟩ := hC
  have hown : s.vm.findClass RX1 = some m.cls := hown
  have hl : lv_has ls 3 [(0, .ref h), (1, .int ow), (2, .int y)] := hl
  have inW : ∀ w ∈ wsX10, w ∈ wsX1_sung := by decide +kernel
  have fl_thrown : Cond.fieldLink RX1 53 "CanticlePressModel" "thrown" "I" ∈ wsX1_sung := by decide +kernel
  refine lv_aload_n hx hb dX1_sung_0 rfl (lv_at hl 0 rfl) ?_
  refine lv_iload_n hx hb dX1_sung_1 rfl (lv_at hl 1 rfl) ?_
  refine lv_iconst (v := 0) hx hb dX1_sung_2 (by decide) ?_
  refine lv_iconst (v := 4) hx hb dX1_sung_3 (by decide) ?_
  refine cp_cSi0 (As := [.int ow, .int 0, .int 4]) (rest := [.ref h]) ⟨hx, hb, hml, hown, hts⟩ ((c_X1_isIn l ow 0 4) D) (va_cwS 3 hts gX1_sung_X1_isIn rfl rfl rfl (by decide +kernel) ⟨Nat.le_of_ble_eq_true rfl, Nat.le_of_ble_eq_true rfl⟩) hK hI hA rfl hl.1 rfl (Nat.le_of_ble_eq_true rfl) dX1_sung_4 ⟨Nat.le_of_ble_eq_true rfl, Nat.le_of_ble_eq_true rfl⟩ (fun r4 u4 H locs hp4 hI => ?_)
  obtain rfl := hp4
  refine lv_if_eq (tgt := 23) hx hb dX1_sung_7 (by decide) (fun c7 => ?_) (fun c7 => ?_)
  · have c7 := cp_b0.mp c7
    refine lv_iconst (v := 1) hx hb dX1_sung_23 (by decide) ?_
    refine cp_puti hx hb hts inW tyX1 tyX1_ok nmX1 hown hK hI (cp_hY _ _ _ _ _) rfl 0 (by decide) fl_thrown rfl rfl (by decide +kernel) (Nat.le_of_ble_eq_true rfl) dX1_sung_24 (cp_tY _ _ _ _ _ _) (fun H locs hI => ?_)
    refine lv_aload_n hx hb dX1_sung_27 rfl (lv_at hl 0 rfl) ?_
    refine cp_get (v := .int 1) hx hb hts inW hown hK hI (cp_hY _ _ _ _ _) rfl 0 (by decide) fl_thrown rfl rfl dX1_sung_28 ?_
    refine lv_if_le (tgt := 38) hx hb dX1_sung_31 (by decide) (fun c31 => ?_) (fun c31 => ?_)
    · exact absurd c31 (by decide)
    · refine lv_iconst (v := 0) hx hb dX1_sung_34 (by decide) ?_
      refine lv_goto (tgt := 44) hx hb dX1_sung_35 (by decide) ?_
      exact cp_reti (u := (cp_thw u 1)) (v := 0) hx hb hr hlocks hK hI (Or.inl ⟨by first | exact fun h => c7 h.1 | exact fun h => c16 h.2, rfl⟩) dX1_sung_44
  · have c7 := Classical.not_not.mp (fun h9 => c7 (cp_b0.mpr h9))
    refine lv_iload_n hx hb dX1_sung_10 rfl (lv_at hl 2 rfl) ?_
    refine lv_iconst (v := 0) hx hb dX1_sung_11 (by decide) ?_
    refine lv_iconst (v := 3) hx hb dX1_sung_12 (by decide) ?_
    refine cp_cSi0 (As := [.int y, .int 0, .int 3]) (rest := [.ref h]) ⟨hx, hb, hml, hown, hts⟩ ((c_X1_isIn l y 0 3) D) (va_cwS 3 hts gX1_sung_X1_isIn rfl rfl rfl (by decide +kernel) ⟨Nat.le_of_ble_eq_true rfl, Nat.le_of_ble_eq_true rfl⟩) hK hI hA rfl hl.1 rfl (Nat.le_of_ble_eq_true rfl) dX1_sung_13 ⟨Nat.le_of_ble_eq_true rfl, Nat.le_of_ble_eq_true rfl⟩ (fun r13 u13 H locs hp13 hI => ?_)
    obtain rfl := hp13
    refine lv_if_eq (tgt := 23) hx hb dX1_sung_16 (by decide) (fun c16 => ?_) (fun c16 => ?_)
    · have c16 := cp_b0.mp c16
      refine lv_iconst (v := 1) hx hb dX1_sung_23 (by decide) ?_
      refine cp_puti hx hb hts inW tyX1 tyX1_ok nmX1 hown hK hI (cp_hY _ _ _ _ _) rfl 0 (by decide) fl_thrown rfl rfl (by decide +kernel) (Nat.le_of_ble_eq_true rfl) dX1_sung_24 (cp_tY _ _ _ _ _ _) (fun H locs hI => ?_)
      refine lv_aload_n hx hb dX1_sung_27 rfl (lv_at hl 0 rfl) ?_
      refine cp_get (v := .int 1) hx hb hts inW hown hK hI (cp_hY _ _ _ _ _) rfl 0 (by decide) fl_thrown rfl rfl dX1_sung_28 ?_
      refine lv_if_le (tgt := 38) hx hb dX1_sung_31 (by decide) (fun c31 => ?_) (fun c31 => ?_)
      · exact absurd c31 (by decide)
      · refine lv_iconst (v := 0) hx hb dX1_sung_34 (by decide) ?_
        refine lv_goto (tgt := 44) hx hb dX1_sung_35 (by decide) ?_
        exact cp_reti (u := (cp_thw u 1)) (v := 0) hx hb hr hlocks hK hI (Or.inl ⟨by first | exact fun h => c7 h.1 | exact fun h => c16 h.2, rfl⟩) dX1_sung_44
    · have c16 := Classical.not_not.mp (fun h9 => c16 (cp_b0.mpr h9))
      refine lv_iconst (v := 0) hx hb dX1_sung_19 (by decide) ?_
      refine lv_goto (tgt := 24) hx hb dX1_sung_20 (by decide) ?_
      refine cp_puti hx hb hts inW tyX1 tyX1_ok nmX1 hown hK hI (cp_hY _ _ _ _ _) rfl 0 (by decide) fl_thrown rfl rfl (by decide +kernel) (Nat.le_of_ble_eq_true rfl) dX1_sung_24 (cp_tY _ _ _ _ _ _) (fun H locs hI => ?_)
      refine lv_aload_n hx hb dX1_sung_27 rfl (lv_at hl 0 rfl) ?_
      refine cp_get (v := .int 0) hx hb hts inW hown hK hI (cp_hY _ _ _ _ _) rfl 0 (by decide) fl_thrown rfl rfl dX1_sung_28 ?_
      refine lv_if_le (tgt := 38) hx hb dX1_sung_31 (by decide) (fun c31 => ?_) (fun c31 => ?_)
      · refine lv_aload_n hx hb dX1_sung_38 rfl (lv_at hl 0 rfl) ?_
        refine lv_iload_n hx hb dX1_sung_39 rfl (lv_at hl 1 rfl) ?_
        refine lv_iload_n hx hb dX1_sung_40 rfl (lv_at hl 2 rfl) ?_
        refine cp_cVi0 (wc := cp_wY cI cZ h a) (u := (cp_thw u 0)) (As := [.int ow, .int y]) (rest := []) ⟨hx, hb, hml, hown, hts⟩ (c_X1_sungOf l D cI cZ h a (cp_thw u 0) ow y hN3 hS) (cwV 2 hts gX1_sung_X1_sungOf rfl rfl rfl (by decide +kernel) ⟨Nat.le_of_ble_eq_true rfl, Nat.le_of_ble_eq_true rfl⟩) hK hI hA ⟨_, cp_hY _ _ _ _ _⟩ rfl rfl rfl hl.1 rfl (Nat.le_of_ble_eq_true rfl) dX1_sung_41 ⟨Nat.le_of_ble_eq_true rfl, Nat.le_of_ble_eq_true rfl⟩ (fun r41 u41 H locs hp41 hI => ?_)
        obtain ⟨rfl, e9⟩ := hp41
        rw [e9] at hI
        exact cp_reti (u := (cp_thw u 0)) (v := (nI (cp_cnt (cp_sgY u ow y) (cp_n u 3)))) hx hb hr hlocks hK hI (Or.inr ⟨⟨c7, c16⟩, rfl, rfl⟩) dX1_sung_44
      · exact absurd (by decide) c31
set_option maxHeartbeats 4000000 in
set_option maxRecDepth 100000 in
theorem c_X1_sungByHymns (l : Launch) (D : va_G) (cI cZ : ClassId) (h : Nat) (a : Nat → Nat) (u : cp_M) (ow : Int32) (y : Int32) (hN3 : cp_cn u 3 40) (hS : ∀ k, k < cp_n u 3 → u 13 k = -1 ∨ ∃ g, g < 16 ∧ u 13 k = nI g) : ∀ sz : Nat, Met l yX1_sungByHymns wsX1_sungByHymns ({ frames := 1, cells := 0, slots := 0, locals := 25 } : Room) (va_Pc [.ref h, .int ow, .int y] (cp_pre D [(cI, .int), (cZ, .boolean)] (cp_wY cI cZ h a u) sz)) (va_Qi (fun (r : Int32) (u1 : cp_M) => (¬ (cp_bw ow 0 4 ∧ cp_bw y 0 3) ∧ u1 = cp_thw u 1) ∨ ((cp_bw ow 0 4 ∧ cp_bw y 0 3) ∧ r = nI (cp_cnt (cp_sgY u ow y) (cp_n u 3)) ∧ u1 = cp_thw u 0)) (cp_at D [(cI, .int), (cZ, .boolean)] (va_A (cp_wY cI cZ h a u) sz) (cp_wY cI cZ h a)) (va_A (cp_wY cI cZ h a u) sz)) 0 0 (va_A (cp_wY cI cZ h a u) sz) := by
  refine cp_MetI (Qk := fun A => va_Qi (fun (r : Int32) (u1 : cp_M) => (¬ (cp_bw ow 0 4 ∧ cp_bw y 0 3) ∧ u1 = cp_thw u 1) ∨ ((cp_bw ow 0 4 ∧ cp_bw y 0 3) ∧ r = nI (cp_cnt (cp_sgY u ow y) (cp_n u 3)) ∧ u1 = cp_thw u 0)) (cp_at D [(cI, .int), (cZ, .boolean)] A (cp_wY cI cZ h a)) A) (by decide) rfl (Nat.le_of_ble_eq_true rfl) ?_
  intro p e s m args below meth c A hC hA hK hI ls hl
  obtain ⟨hx, hb, hml, hown, hts, hr, hlocks⟩ := hC
  have hown : s.vm.findClass RX1 = some m.cls := hown
  have hl : lv_has ls 3 [(0, .ref h), (1, .int ow), (2, .int y)] := hl
  have inW : ∀ w ∈ wsX10, w ∈ wsX1_sungByHymns := by decide +kernel
  have fl_thrown : Cond.fieldLink RX1 53 "CanticlePressModel" "thrown" "I" ∈ wsX1_sungByHymns := by decide +kernel
  refine lv_aload_n hx hb dX1_sungByHymns_0 rfl (lv_at hl 0 rfl) ?_
  refine lv_iload_n hx hb dX1_sungByHymns_1 rfl (lv_at hl 1 rfl) ?_
  refine lv_iconst (v := 0) hx hb dX1_sungByHymns_2 (by decide) ?_
  refine lv_iconst (v := 4) hx hb dX1_sungByHymns_3 (by decide) ?_
  refine cp_cSi0 (As := [.int ow, .int 0, .int 4]) (rest := [.ref h]) ⟨hx, hb, hml, hown, hts⟩ ((c_X1_isIn l ow 0 4) D) (va_cwS 3 hts gX1_sungByHymns_X1_isIn rfl rfl rfl (by decide +kernel) ⟨Nat.le_of_ble_eq_true rfl, Nat.le_of_ble_eq_true rfl⟩) hK hI hA rfl hl.1 rfl (Nat.le_of_ble_eq_true rfl) dX1_sungByHymns_4 ⟨Nat.le_of_ble_eq_true rfl, Nat.le_of_ble_eq_true rfl⟩ (fun r4 u4 H locs hp4 hI => ?_)
  obtain rfl := hp4
  refine lv_if_eq (tgt := 23) hx hb dX1_sungByHymns_7 (by decide) (fun c7 => ?_) (fun c7 => ?_)
  · have c7 := cp_b0.mp c7
    refine lv_iconst (v := 1) hx hb dX1_sungByHymns_23 (by decide) ?_
    refine cp_puti hx hb hts inW tyX1 tyX1_ok nmX1 hown hK hI (cp_hY _ _ _ _ _) rfl 0 (by decide) fl_thrown rfl rfl (by decide +kernel) (Nat.le_of_ble_eq_true rfl) dX1_sungByHymns_24 (cp_tY _ _ _ _ _ _) (fun H locs hI => ?_)
    refine lv_aload_n hx hb dX1_sungByHymns_27 rfl (lv_at hl 0 rfl) ?_
    refine cp_get (v := .int 1) hx hb hts inW hown hK hI (cp_hY _ _ _ _ _) rfl 0 (by decide) fl_thrown rfl rfl dX1_sungByHymns_28 ?_
    refine lv_if_le (tgt := 38) hx hb dX1_sungByHymns_31 (by decide) (fun c31 => ?_) (fun c31 => ?_)
    · exact absurd c31 (by decide)
    · refine lv_iconst (v := 0) hx hb dX1_sungByHymns_34 (by decide) ?_
      refine lv_goto (tgt := 44) hx hb dX1_sungByHymns_35 (by decide) ?_
      exact cp_reti (u := (cp_thw u 1)) (v := 0) hx hb hr hlocks hK hI (Or.inl ⟨by first | exact fun h => c7 h.1 | exact fun h => c16 h.2, rfl⟩) dX1_sungByHymns_44
  · have c7 := Classical.not_not.mp (fun h9 => c7 (cp_b0.mpr h9))
    refine lv_iload_n hx hb dX1_sungByHymns_10 rfl (lv_at hl 2 rfl) ?_
    refine lv_iconst (v := 0) hx hb dX1_sungByHymns_11 (by decide) ?_
    refine lv_iconst (v := 3) hx hb dX1_sungByHymns_12 (by decide) ?_
    refine cp_cSi0 (As := [.int y, .int 0, .int 3]) (rest := [.ref h]) ⟨hx, hb, hml, hown, hts⟩ ((c_X1_isIn l y 0 3) D) (va_cwS 3 hts gX1_sungByHymns_X1_isIn rfl rfl rfl (by decide +kernel) ⟨Nat.le_of_ble_eq_true rfl, Nat.le_of_ble_eq_true rfl⟩) hK hI hA rfl hl.1 rfl (Nat.le_of_ble_eq_true rfl) dX1_sungByHymns_13 ⟨Nat.le_of_ble_eq_true rfl, Nat.le_of_ble_eq_true rfl⟩ (fun r13 u13 H locs hp13 hI => ?_)
    obtain rfl := hp13
    refine lv_if_eq (tgt := 23) hx hb dX1_sungByHymns_16 (by decide) (fun c16 => ?_) (fun c16 => ?_)
    · have c16 := cp_b0.mp c16
      refine lv_iconst (v := 1) hx hb dX1_sungByHymns_23 (by decide) ?_
      refine cp_puti hx hb hts inW tyX1 tyX1_ok nmX1 hown hK hI (cp_hY _ _ _ _ _) rfl 0 (by decide) fl_thrown rfl rfl (by decide +kernel) (Nat.le_of_ble_eq_true rfl) dX1_sungByHymns_24 (cp_tY _ _ _ _ _ _) (fun H locs hI => ?_)
      refine lv_aload_n hx hb dX1_sungByHymns_27 rfl (lv_at hl 0 rfl) ?_
      refine cp_get (v := .int 1) hx hb hts inW hown hK hI (cp_hY _ _ _ _ _) rfl 0 (by decide) fl_thrown rfl rfl dX1_sungByHymns_28 ?_
      refine lv_if_le (tgt := 38) hx hb dX1_sungByHymns_31 (by decide) (fun c31 => ?_) (fun c31 => ?_)
      · exact absurd c31 (by decide)
      · refine lv_iconst (v := 0) hx hb dX1_sungByHymns_34 (by decide) ?_
        refine lv_goto (tgt := 44) hx hb dX1_sungByHymns_35 (by decide) ?_
        exact cp_reti (u := (cp_thw u 1)) (v := 0) hx hb hr hlocks hK hI (Or.inl ⟨by first | exact fun h => c7 h.1 | exact fun h => c16 h.2, rfl⟩) dX1_sungByHymns_44
    · have c16 := Classical.not_not.mp (fun h9 => c16 (cp_b0.mpr h9))
      refine lv_iconst (v := 0) hx hb dX1_sungByHymns_19 (by decide) ?_
      refine lv_goto (tgt := 24) hx hb dX1_sungByHymns_20 (by decide) ?_
      refine cp_puti hx hb hts inW tyX1 tyX1_ok nmX1 hown hK hI (cp_hY _ _ _ _ _) rfl 0 (by decide) fl_thrown rfl rfl (by decide +kernel) (Nat.le_of_ble_eq_true rfl) dX1_sungByHymns_24 (cp_tY _ _ _ _ _ _) (fun H locs hI => ?_)
      refine lv_aload_n hx hb dX1_sungByHymns_27 rfl (lv_at hl 0 rfl) ?_
      refine cp_get (v := .int 0) hx hb hts inW hown hK hI (cp_hY _ _ _ _ _) rfl 0 (by decide) fl_thrown rfl rfl dX1_sungByHymns_28 ?_
      refine lv_if_le (tgt := 38) hx hb dX1_sungByHymns_31 (by decide) (fun c31 => ?_) (fun c31 => ?_)
      · refine lv_aload_n hx hb dX1_sungByHymns_38 rfl (lv_at hl 0 rfl) ?_
        refine lv_iload_n hx hb dX1_sungByHymns_39 rfl (lv_at hl 1 rfl) ?_
        refine lv_iload_n hx hb dX1_sungByHymns_40 rfl (lv_at hl 2 rfl) ?_
        refine cp_cVi0 (wc := cp_wY cI cZ h a) (u := (cp_thw u 0)) (As := [.int ow, .int y]) (rest := []) ⟨hx, hb, hml, hown, hts⟩ (c_X1_sungOf l D cI cZ h a (cp_thw u 0) ow y hN3 hS) (cwV 2 hts gX1_sungByHymns_X1_sungOf rfl rfl rfl (by decide +kernel) ⟨Nat.le_of_ble_eq_true rfl, Nat.le_of_ble_eq_true rfl⟩) hK hI hA ⟨_, cp_hY _ _ _ _ _⟩ rfl rfl rfl hl.1 rfl (Nat.le_of_ble_eq_true rfl) dX1_sungByHymns_41 ⟨Nat.le_of_ble_eq_true rfl, Nat.le_of_ble_eq_true rfl⟩ (fun r41 u41 H locs hp41 hI => ?_)
        obtain ⟨rfl, e9⟩ := hp41
        rw [e9] at hI
        exact cp_reti (u := (cp_thw u 0)) (v := (nI (cp_cnt (cp_sgY u ow y) (cp_n u 3)))) hx hb hr hlocks hK hI (Or.inr ⟨⟨c7, c16⟩, rfl, rfl⟩) dX1_sungByHymns_44
      · exact absurd (by decide) c31
set_option maxHeartbeats 4000000 in
set_option maxRecDepth 100000 in
theorem c_X1_pass (l : Launch) (D : va_G) (cI cZ : ClassId) (h : Nat) (a : Nat → Nat) (u : cp_M) (d9 : Int32)  : ∀ sz : Nat, Met l yX1_pass wsX1_pass ({ frames := 1, cells := 0, slots := 0, locals := 22 } : Room) (va_Pc [.ref h, .int d9] (cp_pre D [(cI, .int), (cZ, .boolean)] (cp_wY cI cZ h a u) sz)) (va_Qi (fun (r : Int32) (u1 : cp_M) => (¬ (cp_bw d9 1 200) ∧ u1 = cp_thw u 1) ∨ ((cp_bw d9 1 200) ∧ ¬ ¬ (1459 : Int32) < u 14 0 + d9 ∧ u1 = cp_thw u 2) ∨ ((cp_bw d9 1 200) ∧ ¬ (1459 : Int32) < u 14 0 + d9 ∧ r = u 14 0 + d9 ∧ u1 = cp_up (cp_thw u 0) 14 (upd (cp_thw u 0 14) 0 (u 14 0 + d9)))) (cp_at D [(cI, .int), (cZ, .boolean)] (va_A (cp_wY cI cZ h a u) sz) (cp_wY cI cZ h a)) (va_A (cp_wY cI cZ h a u) sz)) 0 0 (va_A (cp_wY cI cZ h a u) sz) := by
  refine cp_MetI (Qk := fun A => va_Qi (fun (r : Int32) (u1 : cp_M) => (¬ (cp_bw d9 1 200) ∧ u1 = cp_thw u 1) ∨ ((cp_bw d9 1 200) ∧ ¬ ¬ (1459 : Int32) < u 14 0 + d9 ∧ u1 = cp_thw u 2) ∨ ((cp_bw d9 1 200) ∧ ¬ (1459 : Int32) < u 14 0 + d9 ∧ r = u 14 0 + d9 ∧ u1 = cp_up (cp_thw u 0) 14 (upd (cp_thw u 0 14) 0 (u 14 0 + d9)))) (cp_at D [(cI, .int), (cZ, .boolean)] A (cp_wY cI cZ h a)) A) (by decide) rfl (Nat.le_of_ble_eq_true rfl) ?_
  intro p e s m args below meth c A hC hA hK hI ls hl
  obtain ⟨hx, hb, hml, hown, hts, hr, hlocks⟩ := hC
  have hown : s.vm.findClass RX1 = some m.cls := hown
  have hl : lv_has ls 2 [(0, .ref h), (1, .int d9)] := hl
  have inW : ∀ w ∈ wsX10, w ∈ wsX1_pass := by decide +kernel
  have fl_thrown : Cond.fieldLink RX1 53 "CanticlePressModel" "thrown" "I" ∈ wsX1_pass := by decide +kernel
  have fl_today : Cond.fieldLink RX1 89 "CanticlePressModel" "today" "I" ∈ wsX1_pass := by decide +kernel
  refine lv_aload_n hx hb dX1_pass_0 rfl (lv_at hl 0 rfl) ?_
  refine lv_iload_n hx hb dX1_pass_1 rfl (lv_at hl 1 rfl) ?_
  refine lv_iconst (v := 1) hx hb dX1_pass_2 (by decide) ?_
  refine lv_sipush (v := 200) hx hb dX1_pass_3 (by decide) ?_
  refine cp_cSi0 (As := [.int d9, .int 1, .int 200]) (rest := [.ref h]) ⟨hx, hb, hml, hown, hts⟩ ((c_X1_isIn l d9 1 200) D) (va_cwS 3 hts gX1_pass_X1_isIn rfl rfl rfl (by decide +kernel) ⟨Nat.le_of_ble_eq_true rfl, Nat.le_of_ble_eq_true rfl⟩) hK hI hA rfl hl.1 rfl (Nat.le_of_ble_eq_true rfl) dX1_pass_6 ⟨Nat.le_of_ble_eq_true rfl, Nat.le_of_ble_eq_true rfl⟩ (fun r6 u6 H locs hp6 hI => ?_)
  obtain rfl := hp6
  refine lv_if_ne (tgt := 16) hx hb dX1_pass_9 (by decide) (fun c9 => ?_) (fun c9 => ?_)
  · have c9 := Classical.not_not.mp (fun h9 => c9 (cp_b0.mpr h9))
    refine lv_aload_n hx hb dX1_pass_16 rfl (lv_at hl 0 rfl) ?_
    refine cp_get (v := .int (u 14 0)) hx hb hts inW hown hK hI (cp_hY _ _ _ _ _) rfl 1 (by decide) fl_today rfl rfl dX1_pass_17 ?_
    refine lv_iload_n hx hb dX1_pass_20 rfl (lv_at hl 1 rfl) ?_
    refine lv_iadd hx hb dX1_pass_21 ?_
    refine lv_sipush (v := 1460) hx hb dX1_pass_22 (by decide) ?_
    refine lv_icmp_lt (tgt := 32) hx hb dX1_pass_25 (by decide) (fun c25 => ?_) (fun c25 => ?_)
    · refine lv_iconst (v := 0) hx hb dX1_pass_32 (by decide) ?_
      refine cp_puti hx hb hts inW tyX1 tyX1_ok nmX1 hown hK hI (cp_hY _ _ _ _ _) rfl 0 (by decide) fl_thrown rfl rfl (by decide +kernel) (Nat.le_of_ble_eq_true rfl) dX1_pass_33 (cp_tY _ _ _ _ _ _) (fun H locs hI => ?_)
      refine lv_aload_n hx hb dX1_pass_36 rfl (lv_at hl 0 rfl) ?_
      refine lv_dup hx hb dX1_pass_37 rfl ?_
      refine cp_get (v := .int (u 14 0)) hx hb hts inW hown hK hI (cp_hY _ _ _ _ _) rfl 1 (by decide) fl_today rfl rfl dX1_pass_38 ?_
      refine lv_aload_n hx hb dX1_pass_41 rfl (lv_at hl 0 rfl) ?_
      refine cp_get (v := .int 0) hx hb hts inW hown hK hI (cp_hY _ _ _ _ _) rfl 0 (by decide) fl_thrown rfl rfl dX1_pass_42 ?_
      refine lv_if_le (tgt := 52) hx hb dX1_pass_45 (by decide) (fun c45 => ?_) (fun c45 => ?_)
      · refine lv_iload_n hx hb dX1_pass_52 rfl (lv_at hl 1 rfl) ?_
        refine lv_iadd hx hb dX1_pass_53 ?_
        refine cp_puti hx hb hts inW tyX1 tyX1_ok nmX1 hown hK hI (cp_hY _ _ _ _ _) rfl 1 (by decide) fl_today rfl rfl (by decide +kernel) (Nat.le_of_ble_eq_true rfl) dX1_pass_54 (cp_iY_0 _ _ _ _ _ _) (fun H locs hI => ?_)
        obtain ⟨u54, eu54⟩ : ∃ z9, z9 = cp_up (cp_thw u 0) 14 (upd ((cp_thw u 0) 14) 0 ((u 14 0) + d9)) := ⟨_, rfl⟩
        rw [← eu54] at hI
        refine lv_aload_n hx hb dX1_pass_57 rfl (lv_at hl 0 rfl) ?_
        refine cp_get (v := .int (u54 14 0)) hx hb hts inW hown hK hI (cp_hY _ _ _ _ _) rfl 1 (by decide) fl_today rfl rfl dX1_pass_58 ?_
        exact cp_reti (u := u54) (v := (u54 14 0)) hx hb hr hlocks hK hI (by first | exact Or.inl ⟨c9, by rw [eu54]; exact cp_keep0 u 1⟩ | exact Or.inr (Or.inl ⟨c9, fun h => h (cp_pass_n c25), by rw [eu54]; exact cp_keep0 u 2⟩) | exact Or.inr (Or.inr ⟨c9, cp_pass_e c25, by rw [eu54, cp_up_s, cp_upd_s], eu54⟩)) dX1_pass_61
      · exact absurd (by decide) c45
    · refine lv_iconst (v := 2) hx hb dX1_pass_28 (by decide) ?_
      refine lv_goto (tgt := 33) hx hb dX1_pass_29 (by decide) ?_
      refine cp_puti hx hb hts inW tyX1 tyX1_ok nmX1 hown hK hI (cp_hY _ _ _ _ _) rfl 0 (by decide) fl_thrown rfl rfl (by decide +kernel) (Nat.le_of_ble_eq_true rfl) dX1_pass_33 (cp_tY _ _ _ _ _ _) (fun H locs hI => ?_)
      refine lv_aload_n hx hb dX1_pass_36 rfl (lv_at hl 0 rfl) ?_
      refine lv_dup hx hb dX1_pass_37 rfl ?_
      refine cp_get (v := .int (u 14 0)) hx hb hts inW hown hK hI (cp_hY _ _ _ _ _) rfl 1 (by decide) fl_today rfl rfl dX1_pass_38 ?_
      refine lv_aload_n hx hb dX1_pass_41 rfl (lv_at hl 0 rfl) ?_
      refine cp_get (v := .int 2) hx hb hts inW hown hK hI (cp_hY _ _ _ _ _) rfl 0 (by decide) fl_thrown rfl rfl dX1_pass_42 ?_
      refine lv_if_le (tgt := 52) hx hb dX1_pass_45 (by decide) (fun c45 => ?_) (fun c45 => ?_)
      · exact absurd c45 (by decide)
      · refine lv_iconst (v := 0) hx hb dX1_pass_48 (by decide) ?_
        refine lv_goto (tgt := 53) hx hb dX1_pass_49 (by decide) ?_
        refine lv_iadd hx hb dX1_pass_53 ?_
        refine cp_puti hx hb hts inW tyX1 tyX1_ok nmX1 hown hK hI (cp_hY _ _ _ _ _) rfl 1 (by decide) fl_today rfl rfl (by decide +kernel) (Nat.le_of_ble_eq_true rfl) dX1_pass_54 (cp_iY_0 _ _ _ _ _ _) (fun H locs hI => ?_)
        obtain ⟨u54, eu54⟩ : ∃ z9, z9 = cp_up (cp_thw u 2) 14 (upd ((cp_thw u 2) 14) 0 ((u 14 0) + 0)) := ⟨_, rfl⟩
        rw [← eu54] at hI
        refine lv_aload_n hx hb dX1_pass_57 rfl (lv_at hl 0 rfl) ?_
        refine cp_get (v := .int (u54 14 0)) hx hb hts inW hown hK hI (cp_hY _ _ _ _ _) rfl 1 (by decide) fl_today rfl rfl dX1_pass_58 ?_
        exact cp_reti (u := u54) (v := (u54 14 0)) hx hb hr hlocks hK hI (by first | exact Or.inl ⟨c9, by rw [eu54]; exact cp_keep0 u 1⟩ | exact Or.inr (Or.inl ⟨c9, fun h => h (cp_pass_n c25), by rw [eu54]; exact cp_keep0 u 2⟩) | exact Or.inr (Or.inr ⟨c9, cp_pass_e c25, by rw [eu54, cp_up_s, cp_upd_s], eu54⟩)) dX1_pass_61
  · have c9 := cp_b0.mp c9
    refine lv_iconst (v := 1) hx hb dX1_pass_12 (by decide) ?_
    refine lv_goto (tgt := 33) hx hb dX1_pass_13 (by decide) ?_
    refine cp_puti hx hb hts inW tyX1 tyX1_ok nmX1 hown hK hI (cp_hY _ _ _ _ _) rfl 0 (by decide) fl_thrown rfl rfl (by decide +kernel) (Nat.le_of_ble_eq_true rfl) dX1_pass_33 (cp_tY _ _ _ _ _ _) (fun H locs hI => ?_)
    refine lv_aload_n hx hb dX1_pass_36 rfl (lv_at hl 0 rfl) ?_
    refine lv_dup hx hb dX1_pass_37 rfl ?_
    refine cp_get (v := .int (u 14 0)) hx hb hts inW hown hK hI (cp_hY _ _ _ _ _) rfl 1 (by decide) fl_today rfl rfl dX1_pass_38 ?_
    refine lv_aload_n hx hb dX1_pass_41 rfl (lv_at hl 0 rfl) ?_
    refine cp_get (v := .int 1) hx hb hts inW hown hK hI (cp_hY _ _ _ _ _) rfl 0 (by decide) fl_thrown rfl rfl dX1_pass_42 ?_
    refine lv_if_le (tgt := 52) hx hb dX1_pass_45 (by decide) (fun c45 => ?_) (fun c45 => ?_)
    · exact absurd c45 (by decide)
    · refine lv_iconst (v := 0) hx hb dX1_pass_48 (by decide) ?_
      refine lv_goto (tgt := 53) hx hb dX1_pass_49 (by decide) ?_
      refine lv_iadd hx hb dX1_pass_53 ?_
      refine cp_puti hx hb hts inW tyX1 tyX1_ok nmX1 hown hK hI (cp_hY _ _ _ _ _) rfl 1 (by decide) fl_today rfl rfl (by decide +kernel) (Nat.le_of_ble_eq_true rfl) dX1_pass_54 (cp_iY_0 _ _ _ _ _ _) (fun H locs hI => ?_)
      obtain ⟨u54, eu54⟩ : ∃ z9, z9 = cp_up (cp_thw u 1) 14 (upd ((cp_thw u 1) 14) 0 ((u 14 0) + 0)) := ⟨_, rfl⟩
      rw [← eu54] at hI
      refine lv_aload_n hx hb dX1_pass_57 rfl (lv_at hl 0 rfl) ?_
      refine cp_get (v := .int (u54 14 0)) hx hb hts inW hown hK hI (cp_hY _ _ _ _ _) rfl 1 (by decide) fl_today rfl rfl dX1_pass_58 ?_
      exact cp_reti (u := u54) (v := (u54 14 0)) hx hb hr hlocks hK hI (by first | exact Or.inl ⟨c9, by rw [eu54]; exact cp_keep0 u 1⟩ | exact Or.inr (Or.inl ⟨c9, fun h => h (cp_pass_n c25), by rw [eu54]; exact cp_keep0 u 2⟩) | exact Or.inr (Or.inr ⟨c9, cp_pass_e c25, by rw [eu54, cp_up_s, cp_upd_s], eu54⟩)) dX1_pass_61
