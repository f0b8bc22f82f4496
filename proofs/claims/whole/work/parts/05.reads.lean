set_option maxHeartbeats 4000000 in
set_option maxRecDepth 100000 in
theorem c_X0_isBetween (l : Launch)  (x : Int32) (lo : Int32) (hi : Int32)  : ∀ (D : va_G) (sz : Nat), Met l yX0_isBetween wsX0_isBetween ({ frames := 0, cells := 0, slots := 0, locals := 0 } : Room) (va_Pc [.int x, .int lo, .int hi] (cp_pre D [] [] sz)) (va_Qi (fun (r : Int32) (u1 : cp_M) => r = cp_b (cp_bw x lo hi)) (cp_at D [] (va_A [] sz) (fun _ => [])) (va_A [] sz)) 0 0 (va_A [] sz) := by
  intro D
  refine cp_MetI (Qk := fun A => va_Qi (fun (r : Int32) (u1 : cp_M) => r = cp_b (cp_bw x lo hi)) (cp_at D [] A (fun _ => [])) A) (by decide) rfl (Nat.le_of_ble_eq_true rfl) ?_
  intro p e s m args below meth c A hC hA hK hI ls hl
  obtain ⟨hx, hb, hml, hown, hts, hr, hlocks⟩ := hC
  have hown : s.vm.findClass RX0 = some m.cls := hown
  have hl : lv_has ls 3 [(0, .int x), (1, .int lo), (2, .int hi)] := hl
  refine lv_iload_n hx hb dX0_isBetween_0 rfl (lv_at hl 1 rfl) ?_
  refine lv_iload_n hx hb dX0_isBetween_1 rfl (lv_at hl 0 rfl) ?_
  refine lv_icmp_gt (tgt := 14) hx hb dX0_isBetween_2 (by decide) (fun c2 => ?_) (fun c2 => ?_)
  · refine lv_iconst (v := 0) hx hb dX0_isBetween_14 (by decide) ?_
    exact cp_retz (u := (fun _ _ => 0)) (v := 0) hx hb hr hlocks hK hI rfl (cp_bf (by first | exact fun h => absurd h.1 (Int32.not_le.mpr c2) | exact fun h => absurd h.2 (Int32.not_le.mpr c7))).symm dX0_isBetween_15
  · refine lv_iload_n hx hb dX0_isBetween_5 rfl (lv_at hl 0 rfl) ?_
    refine lv_iload_n hx hb dX0_isBetween_6 rfl (lv_at hl 2 rfl) ?_
    refine lv_icmp_gt (tgt := 14) hx hb dX0_isBetween_7 (by decide) (fun c7 => ?_) (fun c7 => ?_)
    · refine lv_iconst (v := 0) hx hb dX0_isBetween_14 (by decide) ?_
      exact cp_retz (u := (fun _ _ => 0)) (v := 0) hx hb hr hlocks hK hI rfl (cp_bf (by first | exact fun h => absurd h.1 (Int32.not_le.mpr c2) | exact fun h => absurd h.2 (Int32.not_le.mpr c7))).symm dX0_isBetween_15
    · refine lv_iconst (v := 1) hx hb dX0_isBetween_10 (by decide) ?_
      refine lv_goto (tgt := 15) hx hb dX0_isBetween_11 (by decide) ?_
      exact cp_retz (u := (fun _ _ => 0)) (v := 1) hx hb hr hlocks hK hI rfl (cp_bt ⟨Int32.not_lt.mp c2, Int32.not_lt.mp c7⟩).symm dX0_isBetween_15
set_option maxHeartbeats 4000000 in
set_option maxRecDepth 100000 in
theorem c_X0_isInSet (l : Launch)  (el : Int32) (set : Int64)  : ∀ (D : va_G) (sz : Nat), Met l yX0_isInSet wsX0_isInSet ({ frames := 0, cells := 0, slots := 0, locals := 0 } : Room) (va_Pc [.int el, .long set] (cp_pre D [] [] sz)) (va_Qi (fun (r : Int32) (u1 : cp_M) => r = cp_b (cp_inS el set)) (cp_at D [] (va_A [] sz) (fun _ => [])) (va_A [] sz)) 0 0 (va_A [] sz) := by
  intro D
  refine cp_MetI (Qk := fun A => va_Qi (fun (r : Int32) (u1 : cp_M) => r = cp_b (cp_inS el set)) (cp_at D [] A (fun _ => [])) A) (by decide) rfl (Nat.le_of_ble_eq_true rfl) ?_
  intro p e s m args below meth c A hC hA hK hI ls hl
  obtain ⟨hx, hb, hml, hown, hts, hr, hlocks⟩ := hC
  have hown : s.vm.findClass RX0 = some m.cls := hown
  have hl : lv_has ls 3 [(0, .int el), (1, .long set)] := hl
  refine lv_lload_n hx hb dX0_isInSet_0 rfl (lv_at hl 1 rfl) ?_
  refine lv_iload_n hx hb dX0_isInSet_1 rfl (lv_at hl 0 rfl) ?_
  refine lv_lshr (v := (set >>> (el.toInt64 &&& 63))) hx hb dX0_isInSet_2 rfl ?_
  refine lv_lconst (v := 1) hx hb dX0_isInSet_3 (by decide) ?_
  refine lv_land hx hb dX0_isInSet_4 ?_
  refine lv_lconst (v := 1) hx hb dX0_isInSet_5 (by decide) ?_
  refine W.lcmp hx hb dX0_isInSet_6 ?_
  refine lv_if_ne (tgt := 14) hx hb dX0_isInSet_7 (by decide) (fun c7 => ?_) (fun c7 => ?_)
  · refine lv_iconst (v := 0) hx hb dX0_isInSet_14 (by decide) ?_
    exact cp_retz (u := (fun _ _ => 0)) (v := 0) hx hb hr hlocks hK hI rfl (cp_bf (by unfold cp_inS; exact fun h9 => c7 (cp_lcmp0 h9))).symm dX0_isInSet_15
  · refine lv_iconst (v := 1) hx hb dX0_isInSet_10 (by decide) ?_
    refine lv_goto (tgt := 15) hx hb dX0_isInSet_11 (by decide) ?_
    exact cp_retz (u := (fun _ _ => 0)) (v := 1) hx hb hr hlocks hK hI rfl (cp_bt (by unfold cp_inS; exact cp_lcmp c7)).symm dX0_isInSet_15
set_option maxHeartbeats 4000000 in
set_option maxRecDepth 100000 in
theorem c_X0_yearOf (l : Launch)  (x : Int32)  : ∀ (D : va_G) (sz : Nat), Met l yX0_yearOf wsX0_yearOf ({ frames := 0, cells := 0, slots := 0, locals := 0 } : Room) (va_Pc [.int x] (cp_pre D [] [] sz)) (va_Qi (fun (r : Int32) (u1 : cp_M) => r = cp_year x) (cp_at D [] (va_A [] sz) (fun _ => [])) (va_A [] sz)) 0 0 (va_A [] sz) := by
  intro D
  refine cp_MetI (Qk := fun A => va_Qi (fun (r : Int32) (u1 : cp_M) => r = cp_year x) (cp_at D [] A (fun _ => [])) A) (by decide) rfl (Nat.le_of_ble_eq_true rfl) ?_
  intro p e s m args below meth c A hC hA hK hI ls hl
  obtain ⟨hx, hb, hml, hown, hts, hr, hlocks⟩ := hC
  have hown : s.vm.findClass RX0 = some m.cls := hown
  have hl : lv_has ls 1 [(0, .int x)] := hl
  refine lv_iload_n hx hb dX0_yearOf_0 rfl (lv_at hl 0 rfl) ?_
  refine lv_sipush (v := 365) hx hb dX0_yearOf_1 (by decide) ?_
  refine lv_idiv hx hb dX0_yearOf_4 (by decide) ?_
  exact cp_reti (u := (fun _ _ => 0)) (v := (x / 365)) hx hb hr hlocks hK hI rfl dX0_yearOf_5
set_option maxHeartbeats 4000000 in
set_option maxRecDepth 100000 in
theorem c_X0_seasonOf (l : Launch)  (x : Int32)  : ∀ (D : va_G) (sz : Nat), Met l yX0_seasonOf wsX0_seasonOf ({ frames := 0, cells := 0, slots := 0, locals := 0 } : Room) (va_Pc [.int x] (cp_pre D [] [] sz)) (va_Qi (fun (r : Int32) (u1 : cp_M) => r = cp_season x) (cp_at D [] (va_A [] sz) (fun _ => [])) (va_A [] sz)) 0 0 (va_A [] sz) := by
  intro D
  refine cp_MetI (Qk := fun A => va_Qi (fun (r : Int32) (u1 : cp_M) => r = cp_season x) (cp_at D [] A (fun _ => [])) A) (by decide) rfl (Nat.le_of_ble_eq_true rfl) ?_
  intro p e s m args below meth c A hC hA hK hI ls hl
  obtain ⟨hx, hb, hml, hown, hts, hr, hlocks⟩ := hC
  have hown : s.vm.findClass RX0 = some m.cls := hown
  have hl : lv_has ls 1 [(0, .int x)] := hl
  refine lv_iload_n hx hb dX0_seasonOf_0 rfl (lv_at hl 0 rfl) ?_
  refine lv_sipush (v := 365) hx hb dX0_seasonOf_1 (by decide) ?_
  refine lv_irem hx hb dX0_seasonOf_4 (by decide) ?_
  refine lv_bipush (v := 92) hx hb dX0_seasonOf_5 (by decide) ?_
  refine lv_idiv hx hb dX0_seasonOf_7 (by decide) ?_
  exact cp_reti (u := (fun _ _ => 0)) (v := ((x - x / 365 * 365) / 92)) hx hb hr hlocks hK hI rfl dX0_seasonOf_8
set_option maxHeartbeats 4000000 in
set_option maxRecDepth 100000 in
theorem c_X0_isOwner (l : Launch)  (x : Int32)  : ∀ (D : va_G) (sz : Nat), Met l yX0_isOwner wsX0_isOwner ({ frames := 1, cells := 0, slots := 0, locals := 22 } : Room) (va_Pc [.int x] (cp_pre D [] [] sz)) (va_Qi (fun (r : Int32) (u1 : cp_M) => r = cp_b (cp_bw x 0 4)) (cp_at D [] (va_A [] sz) (fun _ => [])) (va_A [] sz)) 0 0 (va_A [] sz) := by
  intro D
  refine cp_MetI (Qk := fun A => va_Qi (fun (r : Int32) (u1 : cp_M) => r = cp_b (cp_bw x 0 4)) (cp_at D [] A (fun _ => [])) A) (by decide) rfl (Nat.le_of_ble_eq_true rfl) ?_
  intro p e s m args below meth c A hC hA hK hI ls hl
  obtain ⟨hx, hb, hml, hown, hts, hr, hlocks⟩ := hC
  have hown : s.vm.findClass RX0 = some m.cls := hown
  have hl : lv_has ls 1 [(0, .int x)] := hl
  refine lv_iload_n hx hb dX0_isOwner_0 rfl (lv_at hl 0 rfl) ?_
  refine lv_iconst (v := 0) hx hb dX0_isOwner_1 (by decide) ?_
  refine lv_iconst (v := 4) hx hb dX0_isOwner_2 (by decide) ?_
  refine cp_cSi0 (As := [.int x, .int 0, .int 4]) (rest := []) ⟨hx, hb, hml, hown, hts⟩ ((c_X0_isBetween l x 0 4) D) (va_cwS 3 hts gX0_isOwner_X0_isBetween rfl rfl rfl (by decide +kernel) ⟨Nat.le_of_ble_eq_true rfl, Nat.le_of_ble_eq_true rfl⟩) hK hI hA rfl hl.1 rfl (Nat.le_of_ble_eq_true rfl) dX0_isOwner_3 ⟨Nat.le_of_ble_eq_true rfl, Nat.le_of_ble_eq_true rfl⟩ (fun r3 u3 H locs hp3 hI => ?_)
  obtain rfl := hp3
  exact cp_retz (u := (fun _ _ => 0)) (v := (cp_b (cp_bw x 0 4))) hx hb hr hlocks hK hI (cp_bn _) rfl dX0_isOwner_6
set_option maxHeartbeats 4000000 in
set_option maxRecDepth 100000 in
theorem c_X0_isChoir (l : Launch)  (x : Int32)  : ∀ (D : va_G) (sz : Nat), Met l yX0_isChoir wsX0_isChoir ({ frames := 1, cells := 0, slots := 0, locals := 22 } : Room) (va_Pc [.int x] (cp_pre D [] [] sz)) (va_Qi (fun (r : Int32) (u1 : cp_M) => r = cp_b (cp_bw x 0 3)) (cp_at D [] (va_A [] sz) (fun _ => [])) (va_A [] sz)) 0 0 (va_A [] sz) := by
  intro D
  refine cp_MetI (Qk := fun A => va_Qi (fun (r : Int32) (u1 : cp_M) => r = cp_b (cp_bw x 0 3)) (cp_at D [] A (fun _ => [])) A) (by decide) rfl (Nat.le_of_ble_eq_true rfl) ?_
  intro p e s m args below meth c A hC hA hK hI ls hl
  obtain ⟨hx, hb, hml, hown, hts, hr, hlocks⟩ := hC
  have hown : s.vm.findClass RX0 = some m.cls := hown
  have hl : lv_has ls 1 [(0, .int x)] := hl
  refine lv_iload_n hx hb dX0_isChoir_0 rfl (lv_at hl 0 rfl) ?_
  refine lv_iconst (v := 0) hx hb dX0_isChoir_1 (by decide) ?_
  refine lv_iconst (v := 3) hx hb dX0_isChoir_2 (by decide) ?_
  refine cp_cSi0 (As := [.int x, .int 0, .int 3]) (rest := []) ⟨hx, hb, hml, hown, hts⟩ ((c_X0_isBetween l x 0 3) D) (va_cwS 3 hts gX0_isChoir_X0_isBetween rfl rfl rfl (by decide +kernel) ⟨Nat.le_of_ble_eq_true rfl, Nat.le_of_ble_eq_true rfl⟩) hK hI hA rfl hl.1 rfl (Nat.le_of_ble_eq_true rfl) dX0_isChoir_3 ⟨Nat.le_of_ble_eq_true rfl, Nat.le_of_ble_eq_true rfl⟩ (fun r3 u3 H locs hp3 hI => ?_)
  obtain rfl := hp3
  exact cp_retz (u := (fun _ _ => 0)) (v := (cp_b (cp_bw x 0 3))) hx hb hr hlocks hK hI (cp_bn _) rfl dX0_isChoir_6
set_option maxHeartbeats 4000000 in
set_option maxRecDepth 100000 in
theorem c_X0_isUse (l : Launch)  (x : Int32)  : ∀ (D : va_G) (sz : Nat), Met l yX0_isUse wsX0_isUse ({ frames := 1, cells := 0, slots := 0, locals := 22 } : Room) (va_Pc [.int x] (cp_pre D [] [] sz)) (va_Qi (fun (r : Int32) (u1 : cp_M) => r = cp_b (cp_bw x 0 1)) (cp_at D [] (va_A [] sz) (fun _ => [])) (va_A [] sz)) 0 0 (va_A [] sz) := by
  intro D
  refine cp_MetI (Qk := fun A => va_Qi (fun (r : Int32) (u1 : cp_M) => r = cp_b (cp_bw x 0 1)) (cp_at D [] A (fun _ => [])) A) (by decide) rfl (Nat.le_of_ble_eq_true rfl) ?_
  intro p e s m args below meth c A hC hA hK hI ls hl
  obtain ⟨hx, hb, hml, hown, hts, hr, hlocks⟩ := hC
  have hown : s.vm.findClass RX0 = some m.cls := hown
  have hl : lv_has ls 1 [(0, .int x)] := hl
  refine lv_iload_n hx hb dX0_isUse_0 rfl (lv_at hl 0 rfl) ?_
  refine lv_iconst (v := 0) hx hb dX0_isUse_1 (by decide) ?_
  refine lv_iconst (v := 1) hx hb dX0_isUse_2 (by decide) ?_
  refine cp_cSi0 (As := [.int x, .int 0, .int 1]) (rest := []) ⟨hx, hb, hml, hown, hts⟩ ((c_X0_isBetween l x 0 1) D) (va_cwS 3 hts gX0_isUse_X0_isBetween rfl rfl rfl (by decide +kernel) ⟨Nat.le_of_ble_eq_true rfl, Nat.le_of_ble_eq_true rfl⟩) hK hI hA rfl hl.1 rfl (Nat.le_of_ble_eq_true rfl) dX0_isUse_3 ⟨Nat.le_of_ble_eq_true rfl, Nat.le_of_ble_eq_true rfl⟩ (fun r3 u3 H locs hp3 hI => ?_)
  obtain rfl := hp3
  exact cp_retz (u := (fun _ _ => 0)) (v := (cp_b (cp_bw x 0 1))) hx hb hr hlocks hK hI (cp_bn _) rfl dX0_isUse_6
set_option maxHeartbeats 4000000 in
set_option maxRecDepth 100000 in
theorem c_X0_isDay (l : Launch)  (x : Int32)  : ∀ (D : va_G) (sz : Nat), Met l yX0_isDay wsX0_isDay ({ frames := 1, cells := 0, slots := 0, locals := 22 } : Room) (va_Pc [.int x] (cp_pre D [] [] sz)) (va_Qi (fun (r : Int32) (u1 : cp_M) => r = cp_b (cp_bw x 0 1459)) (cp_at D [] (va_A [] sz) (fun _ => [])) (va_A [] sz)) 0 0 (va_A [] sz) := by
  intro D
  refine cp_MetI (Qk := fun A => va_Qi (fun (r : Int32) (u1 : cp_M) => r = cp_b (cp_bw x 0 1459)) (cp_at D [] A (fun _ => [])) A) (by decide) rfl (Nat.le_of_ble_eq_true rfl) ?_
  intro p e s m args below meth c A hC hA hK hI ls hl
  obtain ⟨hx, hb, hml, hown, hts, hr, hlocks⟩ := hC
  have hown : s.vm.findClass RX0 = some m.cls := hown
  have hl : lv_has ls 1 [(0, .int x)] := hl
  refine lv_iload_n hx hb dX0_isDay_0 rfl (lv_at hl 0 rfl) ?_
  refine lv_iconst (v := 0) hx hb dX0_isDay_1 (by decide) ?_
  refine lv_sipush (v := 1459) hx hb dX0_isDay_2 (by decide) ?_
  refine cp_cSi0 (As := [.int x, .int 0, .int 1459]) (rest := []) ⟨hx, hb, hml, hown, hts⟩ ((c_X0_isBetween l x 0 1459) D) (va_cwS 3 hts gX0_isDay_X0_isBetween rfl rfl rfl (by decide +kernel) ⟨Nat.le_of_ble_eq_true rfl, Nat.le_of_ble_eq_true rfl⟩) hK hI hA rfl hl.1 rfl (Nat.le_of_ble_eq_true rfl) dX0_isDay_5 ⟨Nat.le_of_ble_eq_true rfl, Nat.le_of_ble_eq_true rfl⟩ (fun r5 u5 H locs hp5 hI => ?_)
  obtain rfl := hp5
  exact cp_retz (u := (fun _ _ => 0)) (v := (cp_b (cp_bw x 0 1459))) hx hb hr hlocks hK hI (cp_bn _) rfl dX0_isDay_8
set_option maxHeartbeats 4000000 in
set_option maxRecDepth 100000 in
theorem c_X0_isYear (l : Launch)  (x : Int32)  : ∀ (D : va_G) (sz : Nat), Met l yX0_isYear wsX0_isYear ({ frames := 1, cells := 0, slots := 0, locals := 22 } : Room) (va_Pc [.int x] (cp_pre D [] [] sz)) (va_Qi (fun (r : Int32) (u1 : cp_M) => r = cp_b (cp_bw x 0 3)) (cp_at D [] (va_A [] sz) (fun _ => [])) (va_A [] sz)) 0 0 (va_A [] sz) := by
  intro D
  refine cp_MetI (Qk := fun A => va_Qi (fun (r : Int32) (u1 : cp_M) => r = cp_b (cp_bw x 0 3)) (cp_at D [] A (fun _ => [])) A) (by decide) rfl (Nat.le_of_ble_eq_true rfl) ?_
  intro p e s m args below meth c A hC hA hK hI ls hl
  obtain ⟨hx, hb, hml, hown, hts, hr, hlocks⟩ := hC
  have hown : s.vm.findClass RX0 = some m.cls := hown
  have hl : lv_has ls 1 [(0, .int x)] := hl
  refine lv_iload_n hx hb dX0_isYear_0 rfl (lv_at hl 0 rfl) ?_
  refine lv_iconst (v := 0) hx hb dX0_isYear_1 (by decide) ?_
  refine lv_iconst (v := 3) hx hb dX0_isYear_2 (by decide) ?_
  refine cp_cSi0 (As := [.int x, .int 0, .int 3]) (rest := []) ⟨hx, hb, hml, hown, hts⟩ ((c_X0_isBetween l x 0 3) D) (va_cwS 3 hts gX0_isYear_X0_isBetween rfl rfl rfl (by decide +kernel) ⟨Nat.le_of_ble_eq_true rfl, Nat.le_of_ble_eq_true rfl⟩) hK hI hA rfl hl.1 rfl (Nat.le_of_ble_eq_true rfl) dX0_isYear_3 ⟨Nat.le_of_ble_eq_true rfl, Nat.le_of_ble_eq_true rfl⟩ (fun r3 u3 H locs hp3 hI => ?_)
  obtain rfl := hp3
  exact cp_retz (u := (fun _ _ => 0)) (v := (cp_b (cp_bw x 0 3))) hx hb hr hlocks hK hI (cp_bn _) rfl dX0_isYear_6
set_option maxHeartbeats 4000000 in
set_option maxRecDepth 100000 in
theorem c_X0_isHymn (l : Launch) (D : va_G) (cI : ClassId) (h : Nat) (a : Nat → Nat) (u : cp_M) (x : Int32)  : ∀ sz : Nat, Met l yX0_isHymn wsX0_isHymn ({ frames := 1, cells := 0, slots := 0, locals := 22 } : Room) (va_Pc [.ref h, .int x] (cp_pre D [(cI, .int)] (cp_wX cI h a u) sz)) (va_Qi (fun (r : Int32) (u1 : cp_M) => r = cp_b (cp_bw x 0 (u 14 1 - 1)) ∧ u1 = u) (cp_at D [(cI, .int)] (va_A (cp_wX cI h a u) sz) (cp_wX cI h a)) (va_A (cp_wX cI h a u) sz)) 0 0 (va_A (cp_wX cI h a u) sz) := by
  refine cp_MetI (Qk := fun A => va_Qi (fun (r : Int32) (u1 : cp_M) => r = cp_b (cp_bw x 0 (u 14 1 - 1)) ∧ u1 = u) (cp_at D [(cI, .int)] A (cp_wX cI h a)) A) (by decide) rfl (Nat.le_of_ble_eq_true rfl) ?_
  intro p e s m args below meth c A hC hA hK hI ls hl
  obtain ⟨hx, hb, hml, hown, hts, hr, hlocks⟩ := hC
  have hown : s.vm.findClass RX0 = some m.cls := hown
  have hl : lv_has ls 2 [(0, .ref h), (1, .int x)] := hl
  have inW : ∀ w ∈ wsX00, w ∈ wsX0_isHymn := by decide +kernel
  have fl_hymnCount : Cond.fieldLink RX0 67 "CanticlePress" "hymnCount" "I" ∈ wsX0_isHymn := by decide +kernel
  refine lv_iload_n hx hb dX0_isHymn_0 rfl (lv_at hl 1 rfl) ?_
  refine lv_iconst (v := 0) hx hb dX0_isHymn_1 (by decide) ?_
  refine lv_aload_n hx hb dX0_isHymn_2 rfl (lv_at hl 0 rfl) ?_
  refine cp_get (v := .int (u 14 1)) hx hb hts inW hown hK hI (cp_hX _ _ _ _) rfl 1 (by decide) fl_hymnCount rfl rfl dX0_isHymn_3 ?_
  refine lv_iconst (v := 1) hx hb dX0_isHymn_6 (by decide) ?_
  refine lv_isub hx hb dX0_isHymn_7 ?_
  refine cp_cSi0 (As := [.int x, .int 0, .int ((u 14 1) - 1)]) (rest := []) ⟨hx, hb, hml, hown, hts⟩ ((c_X0_isBetween l x 0 ((u 14 1) - 1)) D) (va_cwS 3 hts gX0_isHymn_X0_isBetween rfl rfl rfl (by decide +kernel) ⟨Nat.le_of_ble_eq_true rfl, Nat.le_of_ble_eq_true rfl⟩) hK hI hA rfl hl.1 rfl (Nat.le_of_ble_eq_true rfl) dX0_isHymn_8 ⟨Nat.le_of_ble_eq_true rfl, Nat.le_of_ble_eq_true rfl⟩ (fun r8 u8 H locs hp8 hI => ?_)
  obtain rfl := hp8
  exact cp_retz (u := u) (v := (cp_b (cp_bw x 0 ((u 14 1) - 1)))) hx hb hr hlocks hK hI (cp_bn _) ⟨rfl, rfl⟩ dX0_isHymn_11
set_option maxHeartbeats 4000000 in
set_option maxRecDepth 100000 in
theorem c_X0_isRight (l : Launch) (D : va_G) (cI : ClassId) (h : Nat) (a : Nat → Nat) (u : cp_M) (x : Int32)  : ∀ sz : Nat, Met l yX0_isRight wsX0_isRight ({ frames := 1, cells := 0, slots := 0, locals := 22 } : Room) (va_Pc [.ref h, .int x] (cp_pre D [(cI, .int)] (cp_wX cI h a u) sz)) (va_Qi (fun (r : Int32) (u1 : cp_M) => r = cp_b (cp_bw x 0 (u 14 2 - 1)) ∧ u1 = u) (cp_at D [(cI, .int)] (va_A (cp_wX cI h a u) sz) (cp_wX cI h a)) (va_A (cp_wX cI h a u) sz)) 0 0 (va_A (cp_wX cI h a u) sz) := by
  refine cp_MetI (Qk := fun A => va_Qi (fun (r : Int32) (u1 : cp_M) => r = cp_b (cp_bw x 0 (u 14 2 - 1)) ∧ u1 = u) (cp_at D [(cI, .int)] A (cp_wX cI h a)) A) (by decide) rfl (Nat.le_of_ble_eq_true rfl) ?_
  intro p e s m args below meth c A hC hA hK hI ls hl
  obtain ⟨hx, hb, hml, hown, hts, hr, hlocks⟩ := hC
  have hown : s.vm.findClass RX0 = some m.cls := hown
  have hl : lv_has ls 2 [(0, .ref h), (1, .int x)] := hl
  have inW : ∀ w ∈ wsX00, w ∈ wsX0_isRight := by decide +kernel
  have fl_rightCount : Cond.fieldLink RX0 103 "CanticlePress" "rightCount" "I" ∈ wsX0_isRight := by decide +kernel
  refine lv_iload_n hx hb dX0_isRight_0 rfl (lv_at hl 1 rfl) ?_
  refine lv_iconst (v := 0) hx hb dX0_isRight_1 (by decide) ?_
  refine lv_aload_n hx hb dX0_isRight_2 rfl (lv_at hl 0 rfl) ?_
  refine cp_get (v := .int (u 14 2)) hx hb hts inW hown hK hI (cp_hX _ _ _ _) rfl 9 (by decide) fl_rightCount rfl rfl dX0_isRight_3 ?_
  refine lv_iconst (v := 1) hx hb dX0_isRight_6 (by decide) ?_
  refine lv_isub hx hb dX0_isRight_7 ?_
  refine cp_cSi0 (As := [.int x, .int 0, .int ((u 14 2) - 1)]) (rest := []) ⟨hx, hb, hml, hown, hts⟩ ((c_X0_isBetween l x 0 ((u 14 2) - 1)) D) (va_cwS 3 hts gX0_isRight_X0_isBetween rfl rfl rfl (by decide +kernel) ⟨Nat.le_of_ble_eq_true rfl, Nat.le_of_ble_eq_true rfl⟩) hK hI hA rfl hl.1 rfl (Nat.le_of_ble_eq_true rfl) dX0_isRight_8 ⟨Nat.le_of_ble_eq_true rfl, Nat.le_of_ble_eq_true rfl⟩ (fun r8 u8 H locs hp8 hI => ?_)
  obtain rfl := hp8
  exact cp_retz (u := u) (v := (cp_b (cp_bw x 0 ((u 14 2) - 1)))) hx hb hr hlocks hK hI (cp_bn _) ⟨rfl, rfl⟩ dX0_isRight_11
set_option maxHeartbeats 4000000 in
set_option maxRecDepth 100000 in
theorem c_X0_isService (l : Launch) (D : va_G) (cI : ClassId) (h : Nat) (a : Nat → Nat) (u : cp_M) (x : Int32)  : ∀ sz : Nat, Met l yX0_isService wsX0_isService ({ frames := 1, cells := 0, slots := 0, locals := 22 } : Room) (va_Pc [.ref h, .int x] (cp_pre D [(cI, .int)] (cp_wX cI h a u) sz)) (va_Qi (fun (r : Int32) (u1 : cp_M) => r = cp_b (cp_bw x 0 (u 14 3 - 1)) ∧ u1 = u) (cp_at D [(cI, .int)] (va_A (cp_wX cI h a u) sz) (cp_wX cI h a)) (va_A (cp_wX cI h a u) sz)) 0 0 (va_A (cp_wX cI h a u) sz) := by
  refine cp_MetI (Qk := fun A => va_Qi (fun (r : Int32) (u1 : cp_M) => r = cp_b (cp_bw x 0 (u 14 3 - 1)) ∧ u1 = u) (cp_at D [(cI, .int)] A (cp_wX cI h a)) A) (by decide) rfl (Nat.le_of_ble_eq_true rfl) ?_
  intro p e s m args below meth c A hC hA hK hI ls hl
  obtain ⟨hx, hb, hml, hown, hts, hr, hlocks⟩ := hC
  have hown : s.vm.findClass RX0 = some m.cls := hown
  have hl : lv_has ls 2 [(0, .ref h), (1, .int x)] := hl
  have inW : ∀ w ∈ wsX00, w ∈ wsX0_isService := by decide +kernel
  have fl_serviceCount : Cond.fieldLink RX0 137 "CanticlePress" "serviceCount" "I" ∈ wsX0_isService := by decide +kernel
  refine lv_iload_n hx hb dX0_isService_0 rfl (lv_at hl 1 rfl) ?_
  refine lv_iconst (v := 0) hx hb dX0_isService_1 (by decide) ?_
  refine lv_aload_n hx hb dX0_isService_2 rfl (lv_at hl 0 rfl) ?_
  refine cp_get (v := .int (u 14 3)) hx hb hts inW hown hK hI (cp_hX _ _ _ _) rfl 14 (by decide) fl_serviceCount rfl rfl dX0_isService_3 ?_
  refine lv_iconst (v := 1) hx hb dX0_isService_6 (by decide) ?_
  refine lv_isub hx hb dX0_isService_7 ?_
  refine cp_cSi0 (As := [.int x, .int 0, .int ((u 14 3) - 1)]) (rest := []) ⟨hx, hb, hml, hown, hts⟩ ((c_X0_isBetween l x 0 ((u 14 3) - 1)) D) (va_cwS 3 hts gX0_isService_X0_isBetween rfl rfl rfl (by decide +kernel) ⟨Nat.le_of_ble_eq_true rfl, Nat.le_of_ble_eq_true rfl⟩) hK hI hA rfl hl.1 rfl (Nat.le_of_ble_eq_true rfl) dX0_isService_8 ⟨Nat.le_of_ble_eq_true rfl, Nat.le_of_ble_eq_true rfl⟩ (fun r8 u8 H locs hp8 hI => ?_)
  obtain rfl := hp8
  exact cp_retz (u := u) (v := (cp_b (cp_bw x 0 ((u 14 3) - 1)))) hx hb hr hlocks hK hI (cp_bn _) ⟨rfl, rfl⟩ dX0_isService_11
set_option maxHeartbeats 4000000 in
set_option maxRecDepth 100000 in
theorem c_X0_isAllowed (l : Launch) (D : va_G) (cI : ClassId) (h : Nat) (a : Nat → Nat) (u : cp_M) (x : Int32) (y : Int32) (z : Int32) (hN2 : cp_cn u 2 40) : ∀ sz : Nat, Met l yX0_isAllowed wsX0_isAllowed ({ frames := 1, cells := 0, slots := 0, locals := 22 } : Room) (va_Pc [.ref h, .int x, .int y, .int z] (cp_pre D [(cI, .int)] (cp_wX cI h a u) sz)) (va_Qi (fun (r : Int32) (u1 : cp_M) => r = cp_b (cp_may u x y z) ∧ u1 = u) (cp_at D [(cI, .int)] (va_A (cp_wX cI h a u) sz) (cp_wX cI h a)) (va_A (cp_wX cI h a u) sz)) 0 0 (va_A (cp_wX cI h a u) sz) := by
  refine cp_MetI (Qk := fun A => va_Qi (fun (r : Int32) (u1 : cp_M) => r = cp_b (cp_may u x y z) ∧ u1 = u) (cp_at D [(cI, .int)] A (cp_wX cI h a)) A) (by decide) rfl (Nat.le_of_ble_eq_true rfl) ?_
  intro p e s m args below meth c A hC hA hK hI ls hl
  obtain ⟨hx, hb, hml, hown, hts, hr, hlocks⟩ := hC
  have hown : s.vm.findClass RX0 = some m.cls := hown
  have hl : lv_has ls 5 [(0, .ref h), (1, .int x), (2, .int y), (3, .int z)] := hl
  have inW : ∀ w ∈ wsX00, w ∈ wsX0_isAllowed := by decide +kernel
  have fl_firstOfRight : Cond.fieldLink RX0 37 "CanticlePress" "firstOfRight" "[I" ∈ wsX0_isAllowed := by decide +kernel
  have fl_hymnOfRight : Cond.fieldLink RX0 31 "CanticlePress" "hymnOfRight" "[I" ∈ wsX0_isAllowed := by decide +kernel
  have fl_lastOfRight : Cond.fieldLink RX0 40 "CanticlePress" "lastOfRight" "[I" ∈ wsX0_isAllowed := by decide +kernel
  have fl_rightCount : Cond.fieldLink RX0 103 "CanticlePress" "rightCount" "I" ∈ wsX0_isAllowed := by decide +kernel
  have fl_useOfRight : Cond.fieldLink RX0 34 "CanticlePress" "useOfRight" "[I" ∈ wsX0_isAllowed := by decide +kernel
  refine lv_iconst (v := 0) hx hb dX0_isAllowed_0 (by decide) ?_
  refine lv_istore (lv' := [(4, .int 0), (0, .ref h), (1, .int x), (2, .int y), (3, .int z)]) hx hb dX0_isAllowed_1 hl (by decide) rfl (fun ls hl => ?_)
  have L3 : ∀ (n9 : Nat) (k : Nat) (hm9 : cp_n u 2 - k < n9) (hk : k ≤ cp_n u 2) (hno : ∀ r, r < k → ¬ (u 7 r = x ∧ u 8 r = y ∧ cp_bw z (u 9 r) (u 10 r))), ∀ (H : Heap) (locs : List Loc), cp_I D (cp_wX cI h a u) A s.heap H locs → ∀ ls, lv_has ls 5 [(4, .int (nI k)), (0, .ref h), (1, .int x), (2, .int y), (3, .int z)] → W p l e ({ frames := 1, cells := 0, slots := 0, locals := 22 } : Room) s m args below meth c H locs 0 0 (MQ below (va_Qi (fun (r : Int32) (u1 : cp_M) => r = cp_b (cp_may u x y z) ∧ u1 = u) (cp_at D [(cI, .int)] A (cp_wX cI h a)) A) args s 0 0 A) (F0 m 3 ls []) := by
    intro n9
    induction n9 with
    | zero => intro k hm9; omega
    | succ n9 ih =>
      intro k hm9 hk hno H locs hI ls hl
      have hN9 := hN2.2.1
      refine lv_iload hx hb dX0_isAllowed_3 (lv_at hl 0 rfl) ?_
      refine lv_aload_n hx hb dX0_isAllowed_5 rfl (lv_at hl 1 rfl) ?_
      refine cp_get (v := .int (u 14 2)) hx hb hts inW hown hK hI (cp_hX _ _ _ _) rfl 9 (by decide) fl_rightCount rfl rfl dX0_isAllowed_6 ?_
      refine lv_icmp_ge (tgt := 63) hx hb dX0_isAllowed_9 (by decide) (fun c9 => ?_) (fun c9 => ?_)
      · have hk2 := cp_ex hN2 hk c9
        refine lv_iconst (v := 0) hx hb dX0_isAllowed_63 (by decide) ?_
        exact cp_retz (u := u) (v := 0) hx hb hr hlocks hK hI rfl ⟨(cp_bf (fun ⟨r, hr, h⟩ => hno r (by omega) h)).symm, rfl⟩ dX0_isAllowed_64
      · have hk2 := cp_in hN2 (by omega) c9
        refine lv_aload_n hx hb dX0_isAllowed_12 rfl (lv_at hl 1 rfl) ?_
        refine cp_get (v := .ref (a 7)) hx hb hts inW hown hK hI (cp_hX _ _ _ _) rfl 10 (by decide) fl_hymnOfRight rfl rfl dX0_isAllowed_13 ?_
        refine lv_iload hx hb dX0_isAllowed_16 (lv_at hl 0 rfl) ?_
        refine cp_iald (f := u 7) hx hb hK hI 0 (cp_aX_7 _ _ _ _) rfl (j := k) (cp_ix_n (by omega) (by decide)) dX0_isAllowed_18 ?_
        refine lv_iload_n hx hb dX0_isAllowed_19 rfl (lv_at hl 2 rfl) ?_
        refine lv_icmp_ne (tgt := 57) hx hb dX0_isAllowed_20 (by decide) (fun c20 => ?_) (fun c20 => ?_)
        · obtain ⟨x57, ex57⟩ : ∃ y9 : Int32, y9 = (nI k) + 1 := ⟨_, rfl⟩
          refine lv_iinc (v := x57) (lv' := [(4, .int x57), (0, .ref h), (1, .int x), (2, .int y), (3, .int z)]) hx hb dX0_isAllowed_57 hl (k := 0) rfl (by rw [ex57]; rfl) (by decide) rfl (fun ls hl => ?_)
          refine lv_goto (tgt := 3) hx hb dX0_isAllowed_60 (by decide) ?_
          obtain rfl : x57 = nI (k + 1) := by rw [ex57]; exact nI_1 k
          exact ih (k + 1) (by omega) (by omega) (cp_no_s hno (by first | exact fun h => c20 h.1 | exact fun h => c31 h.2.1 | exact fun h => c52 h.2.2)) _ _ hI ls (lv_sub hl [0, 1, 2, 3, 4] rfl)
        · refine lv_aload_n hx hb dX0_isAllowed_23 rfl (lv_at hl 1 rfl) ?_
          refine cp_get (v := .ref (a 8)) hx hb hts inW hown hK hI (cp_hX _ _ _ _) rfl 11 (by decide) fl_useOfRight rfl rfl dX0_isAllowed_24 ?_
          refine lv_iload hx hb dX0_isAllowed_27 (lv_at hl 0 rfl) ?_
          refine cp_iald (f := u 8) hx hb hK hI 0 (cp_aX_8 _ _ _ _) rfl (j := k) (cp_ix_n (by omega) (by decide)) dX0_isAllowed_29 ?_
          refine lv_iload_n hx hb dX0_isAllowed_30 rfl (lv_at hl 3 rfl) ?_
          refine lv_icmp_ne (tgt := 57) hx hb dX0_isAllowed_31 (by decide) (fun c31 => ?_) (fun c31 => ?_)
          · obtain ⟨x57, ex57⟩ : ∃ y9 : Int32, y9 = (nI k) + 1 := ⟨_, rfl⟩
            refine lv_iinc (v := x57) (lv' := [(4, .int x57), (0, .ref h), (1, .int x), (2, .int y), (3, .int z)]) hx hb dX0_isAllowed_57 hl (k := 0) rfl (by rw [ex57]; rfl) (by decide) rfl (fun ls hl => ?_)
            refine lv_goto (tgt := 3) hx hb dX0_isAllowed_60 (by decide) ?_
            obtain rfl : x57 = nI (k + 1) := by rw [ex57]; exact nI_1 k
            exact ih (k + 1) (by omega) (by omega) (cp_no_s hno (by first | exact fun h => c20 h.1 | exact fun h => c31 h.2.1 | exact fun h => c52 h.2.2)) _ _ hI ls (lv_sub hl [0, 1, 2, 3, 4] rfl)
          · refine lv_iload_n hx hb dX0_isAllowed_34 rfl (lv_at hl 4 rfl) ?_
            refine lv_aload_n hx hb dX0_isAllowed_35 rfl (lv_at hl 1 rfl) ?_
            refine cp_get (v := .ref (a 9)) hx hb hts inW hown hK hI (cp_hX _ _ _ _) rfl 12 (by decide) fl_firstOfRight rfl rfl dX0_isAllowed_36 ?_
            refine lv_iload hx hb dX0_isAllowed_39 (lv_at hl 0 rfl) ?_
            refine cp_iald (f := u 9) hx hb hK hI 0 (cp_aX_9 _ _ _ _) rfl (j := k) (cp_ix_n (by omega) (by decide)) dX0_isAllowed_41 ?_
            refine lv_aload_n hx hb dX0_isAllowed_42 rfl (lv_at hl 1 rfl) ?_
            refine cp_get (v := .ref (a 10)) hx hb hts inW hown hK hI (cp_hX _ _ _ _) rfl 13 (by decide) fl_lastOfRight rfl rfl dX0_isAllowed_43 ?_
            refine lv_iload hx hb dX0_isAllowed_46 (lv_at hl 0 rfl) ?_
            refine cp_iald (f := u 10) hx hb hK hI 0 (cp_aX_10 _ _ _ _) rfl (j := k) (cp_ix_n (by omega) (by decide)) dX0_isAllowed_48 ?_
            refine cp_cSi0 (As := [.int z, .int (u 9 k), .int (u 10 k)]) (rest := []) ⟨hx, hb, hml, hown, hts⟩ ((c_X0_isBetween l z (u 9 k) (u 10 k)) D) (va_cwS 3 hts gX0_isAllowed_X0_isBetween rfl rfl rfl (by decide +kernel) ⟨Nat.le_of_ble_eq_true rfl, Nat.le_of_ble_eq_true rfl⟩) hK hI hA rfl hl.1 rfl (Nat.le_of_ble_eq_true rfl) dX0_isAllowed_49 ⟨Nat.le_of_ble_eq_true rfl, Nat.le_of_ble_eq_true rfl⟩ (fun r49 u49 H locs hp49 hI => ?_)
            obtain rfl := hp49
            refine lv_if_eq (tgt := 57) hx hb dX0_isAllowed_52 (by decide) (fun c52 => ?_) (fun c52 => ?_)
            · have c52 := cp_b0.mp c52
              obtain ⟨x57, ex57⟩ : ∃ y9 : Int32, y9 = (nI k) + 1 := ⟨_, rfl⟩
              refine lv_iinc (v := x57) (lv' := [(4, .int x57), (0, .ref h), (1, .int x), (2, .int y), (3, .int z)]) hx hb dX0_isAllowed_57 hl (k := 0) rfl (by rw [ex57]; rfl) (by decide) rfl (fun ls hl => ?_)
              refine lv_goto (tgt := 3) hx hb dX0_isAllowed_60 (by decide) ?_
              obtain rfl : x57 = nI (k + 1) := by rw [ex57]; exact nI_1 k
              exact ih (k + 1) (by omega) (by omega) (cp_no_s hno (by first | exact fun h => c20 h.1 | exact fun h => c31 h.2.1 | exact fun h => c52 h.2.2)) _ _ hI ls (lv_sub hl [0, 1, 2, 3, 4] rfl)
            · have c52 := Classical.not_not.mp (fun h9 => c52 (cp_b0.mpr h9))
              refine lv_iconst (v := 1) hx hb dX0_isAllowed_55 (by decide) ?_
              exact cp_retz (u := u) (v := 1) hx hb hr hlocks hK hI rfl ⟨(cp_bt ⟨k, hk2, c20, c31, c52⟩).symm, rfl⟩ dX0_isAllowed_56
  exact L3 ((cp_n u 2) + 1) 0 (Nat.lt_succ_self _) (Nat.zero_le _) (fun r hr => absurd hr (Nat.not_lt_zero _)) _ _ hI ls (lv_sub hl [0, 1, 2, 3, 4] rfl)
set_option maxHeartbeats 4000000 in
set_option maxRecDepth 100000 in
theorem c_X0_hasServiceOn (l : Launch) (D : va_G) (cI : ClassId) (h : Nat) (a : Nat → Nat) (u : cp_M) (x : Int32) (z : Int32) (hN3 : cp_cn u 3 40) : ∀ sz : Nat, Met l yX0_hasServiceOn wsX0_hasServiceOn ({ frames := 0, cells := 0, slots := 0, locals := 0 } : Room) (va_Pc [.ref h, .int x, .int z] (cp_pre D [(cI, .int)] (cp_wX cI h a u) sz)) (va_Qi (fun (r : Int32) (u1 : cp_M) => r = cp_b (cp_hasS u x z) ∧ u1 = u) (cp_at D [(cI, .int)] (va_A (cp_wX cI h a u) sz) (cp_wX cI h a)) (va_A (cp_wX cI h a u) sz)) 0 0 (va_A (cp_wX cI h a u) sz) := by
  refine cp_MetI (Qk := fun A => va_Qi (fun (r : Int32) (u1 : cp_M) => r = cp_b (cp_hasS u x z) ∧ u1 = u) (cp_at D [(cI, .int)] A (cp_wX cI h a)) A) (by decide) rfl (Nat.le_of_ble_eq_true rfl) ?_
  intro p e s m args below meth c A hC hA hK hI ls hl
  obtain ⟨hx, hb, hml, hown, hts, hr, hlocks⟩ := hC
  have hown : s.vm.findClass RX0 = some m.cls := hown
  have hl : lv_has ls 4 [(0, .ref h), (1, .int x), (2, .int z)] := hl
  have inW : ∀ w ∈ wsX00, w ∈ wsX0_hasServiceOn := by decide +kernel
  have fl_choirOfService : Cond.fieldLink RX0 43 "CanticlePress" "choirOfService" "[I" ∈ wsX0_hasServiceOn := by decide +kernel
  have fl_dayOfService : Cond.fieldLink RX0 46 "CanticlePress" "dayOfService" "[I" ∈ wsX0_hasServiceOn := by decide +kernel
  have fl_serviceCount : Cond.fieldLink RX0 137 "CanticlePress" "serviceCount" "I" ∈ wsX0_hasServiceOn := by decide +kernel
  refine lv_iconst (v := 0) hx hb dX0_hasServiceOn_0 (by decide) ?_
  refine lv_istore_n (lv' := [(3, .int 0), (0, .ref h), (1, .int x), (2, .int z)]) hx hb dX0_hasServiceOn_1 rfl hl (by decide) rfl (fun ls hl => ?_)
  have L2 : ∀ (n9 : Nat) (k : Nat) (hm9 : cp_n u 3 - k < n9) (hk : k ≤ cp_n u 3) (hno : ∀ r, r < k → ¬ (u 11 r = x ∧ u 12 r = z)), ∀ (H : Heap) (locs : List Loc), cp_I D (cp_wX cI h a u) A s.heap H locs → ∀ ls, lv_has ls 4 [(3, .int (nI k)), (0, .ref h), (1, .int x), (2, .int z)] → W p l e ({ frames := 0, cells := 0, slots := 0, locals := 0 } : Room) s m args below meth c H locs 0 0 (MQ below (va_Qi (fun (r : Int32) (u1 : cp_M) => r = cp_b (cp_hasS u x z) ∧ u1 = u) (cp_at D [(cI, .int)] A (cp_wX cI h a)) A) args s 0 0 A) (F0 m 2 ls []) := by
    intro n9
    induction n9 with
    | zero => intro k hm9; omega
    | succ n9 ih =>
      intro k hm9 hk hno H locs hI ls hl
      have hN9 := hN3.2.1
      refine lv_iload_n hx hb dX0_hasServiceOn_2 rfl (lv_at hl 0 rfl) ?_
      refine lv_aload_n hx hb dX0_hasServiceOn_3 rfl (lv_at hl 1 rfl) ?_
      refine cp_get (v := .int (u 14 3)) hx hb hts inW hown hK hI (cp_hX _ _ _ _) rfl 14 (by decide) fl_serviceCount rfl rfl dX0_hasServiceOn_4 ?_
      refine lv_icmp_ge (tgt := 38) hx hb dX0_hasServiceOn_7 (by decide) (fun c7 => ?_) (fun c7 => ?_)
      · have hk2 := cp_ex hN3 hk c7
        refine lv_iconst (v := 0) hx hb dX0_hasServiceOn_38 (by decide) ?_
        exact cp_retz (u := u) (v := 0) hx hb hr hlocks hK hI rfl ⟨(cp_bf (fun ⟨r, hr, h⟩ => hno r (by omega) h)).symm, rfl⟩ dX0_hasServiceOn_39
      · have hk2 := cp_in hN3 (by omega) c7
        refine lv_aload_n hx hb dX0_hasServiceOn_10 rfl (lv_at hl 1 rfl) ?_
        refine cp_get (v := .ref (a 11)) hx hb hts inW hown hK hI (cp_hX _ _ _ _) rfl 15 (by decide) fl_choirOfService rfl rfl dX0_hasServiceOn_11 ?_
        refine lv_iload_n hx hb dX0_hasServiceOn_14 rfl (lv_at hl 0 rfl) ?_
        refine cp_iald (f := u 11) hx hb hK hI 0 (cp_aX_11 _ _ _ _) rfl (j := k) (cp_ix_n (by omega) (by decide)) dX0_hasServiceOn_15 ?_
        refine lv_iload_n hx hb dX0_hasServiceOn_16 rfl (lv_at hl 2 rfl) ?_
        refine lv_icmp_ne (tgt := 32) hx hb dX0_hasServiceOn_17 (by decide) (fun c17 => ?_) (fun c17 => ?_)
        · obtain ⟨x32, ex32⟩ : ∃ y9 : Int32, y9 = (nI k) + 1 := ⟨_, rfl⟩
          refine lv_iinc (v := x32) (lv' := [(3, .int x32), (0, .ref h), (1, .int x), (2, .int z)]) hx hb dX0_hasServiceOn_32 hl (k := 0) rfl (by rw [ex32]; rfl) (by decide) rfl (fun ls hl => ?_)
          refine lv_goto (tgt := 2) hx hb dX0_hasServiceOn_35 (by decide) ?_
          obtain rfl : x32 = nI (k + 1) := by rw [ex32]; exact nI_1 k
          exact ih (k + 1) (by omega) (by omega) (cp_no_s hno (by first | exact fun h => c17 h.1 | exact fun h => c27 h.2)) _ _ hI ls (lv_sub hl [0, 1, 2, 3] rfl)
        · refine lv_aload_n hx hb dX0_hasServiceOn_20 rfl (lv_at hl 1 rfl) ?_
          refine cp_get (v := .ref (a 12)) hx hb hts inW hown hK hI (cp_hX _ _ _ _) rfl 16 (by decide) fl_dayOfService rfl rfl dX0_hasServiceOn_21 ?_
          refine lv_iload_n hx hb dX0_hasServiceOn_24 rfl (lv_at hl 0 rfl) ?_
          refine cp_iald (f := u 12) hx hb hK hI 0 (cp_aX_12 _ _ _ _) rfl (j := k) (cp_ix_n (by omega) (by decide)) dX0_hasServiceOn_25 ?_
          refine lv_iload_n hx hb dX0_hasServiceOn_26 rfl (lv_at hl 3 rfl) ?_
          refine lv_icmp_ne (tgt := 32) hx hb dX0_hasServiceOn_27 (by decide) (fun c27 => ?_) (fun c27 => ?_)
          · obtain ⟨x32, ex32⟩ : ∃ y9 : Int32, y9 = (nI k) + 1 := ⟨_, rfl⟩
            refine lv_iinc (v := x32) (lv' := [(3, .int x32), (0, .ref h), (1, .int x), (2, .int z)]) hx hb dX0_hasServiceOn_32 hl (k := 0) rfl (by rw [ex32]; rfl) (by decide) rfl (fun ls hl => ?_)
            refine lv_goto (tgt := 2) hx hb dX0_hasServiceOn_35 (by decide) ?_
            obtain rfl : x32 = nI (k + 1) := by rw [ex32]; exact nI_1 k
            exact ih (k + 1) (by omega) (by omega) (cp_no_s hno (by first | exact fun h => c17 h.1 | exact fun h => c27 h.2)) _ _ hI ls (lv_sub hl [0, 1, 2, 3] rfl)
          · refine lv_iconst (v := 1) hx hb dX0_hasServiceOn_30 (by decide) ?_
            exact cp_retz (u := u) (v := 1) hx hb hr hlocks hK hI rfl ⟨(cp_bt ⟨k, hk2, c17, c27⟩).symm, rfl⟩ dX0_hasServiceOn_31
  exact L2 ((cp_n u 3) + 1) 0 (Nat.lt_succ_self _) (Nat.zero_le _) (fun r hr => absurd hr (Nat.not_lt_zero _)) _ _ hI ls (lv_sub hl [0, 1, 2, 3] rfl)
set_option maxHeartbeats 4000000 in
set_option maxRecDepth 100000 in
theorem c_X0_isRested (l : Launch) (D : va_G) (cI : ClassId) (h : Nat) (a : Nat → Nat) (u : cp_M) (x : Int32) (ch : Int32) (z : Int32) (hN3 : cp_cn u 3 40) : ∀ sz : Nat, Met l yX0_isRested wsX0_isRested ({ frames := 1, cells := 0, slots := 0, locals := 21 } : Room) (va_Pc [.ref h, .int x, .int ch, .int z] (cp_pre D [(cI, .int)] (cp_wX cI h a u) sz)) (va_Qi (fun (r : Int32) (u1 : cp_M) => r = cp_b (cp_rst u ch x z) ∧ u1 = u) (cp_at D [(cI, .int)] (va_A (cp_wX cI h a u) sz) (cp_wX cI h a)) (va_A (cp_wX cI h a u) sz)) 0 0 (va_A (cp_wX cI h a u) sz) := by
  refine cp_MetI (Qk := fun A => va_Qi (fun (r : Int32) (u1 : cp_M) => r = cp_b (cp_rst u ch x z) ∧ u1 = u) (cp_at D [(cI, .int)] A (cp_wX cI h a)) A) (by decide) rfl (Nat.le_of_ble_eq_true rfl) ?_
  intro p e s m args below meth c A hC hA hK hI ls hl
  obtain ⟨hx, hb, hml, hown, hts, hr, hlocks⟩ := hC
  have hown : s.vm.findClass RX0 = some m.cls := hown
  have hl : lv_has ls 5 [(0, .ref h), (1, .int x), (2, .int ch), (3, .int z)] := hl
  have inW : ∀ w ∈ wsX00, w ∈ wsX0_isRested := by decide +kernel
  have fl_choirOfService : Cond.fieldLink RX0 43 "CanticlePress" "choirOfService" "[I" ∈ wsX0_isRested := by decide +kernel
  have fl_dayOfService : Cond.fieldLink RX0 46 "CanticlePress" "dayOfService" "[I" ∈ wsX0_isRested := by decide +kernel
  have fl_hymnOfService : Cond.fieldLink RX0 49 "CanticlePress" "hymnOfService" "[I" ∈ wsX0_isRested := by decide +kernel
  have fl_serviceCount : Cond.fieldLink RX0 137 "CanticlePress" "serviceCount" "I" ∈ wsX0_isRested := by decide +kernel
  refine lv_iconst (v := 0) hx hb dX0_isRested_0 (by decide) ?_
  refine lv_istore (lv' := [(4, .int 0), (0, .ref h), (1, .int x), (2, .int ch), (3, .int z)]) hx hb dX0_isRested_1 hl (by decide) rfl (fun ls hl => ?_)
  have L3 : ∀ (n9 : Nat) (k : Nat) (hm9 : cp_n u 3 - k < n9) (hk : k ≤ cp_n u 3) (hno : ∀ r, r < k → ¬ (u 11 r = ch ∧ u 13 r = x ∧ cp_near (u 12 r) z)), ∀ (H : Heap) (locs : List Loc), cp_I D (cp_wX cI h a u) A s.heap H locs → ∀ ls, lv_has ls 5 [(4, .int (nI k)), (0, .ref h), (1, .int x), (2, .int ch), (3, .int z)] → W p l e ({ frames := 1, cells := 0, slots := 0, locals := 21 } : Room) s m args below meth c H locs 0 0 (MQ below (va_Qi (fun (r : Int32) (u1 : cp_M) => r = cp_b (cp_rst u ch x z) ∧ u1 = u) (cp_at D [(cI, .int)] A (cp_wX cI h a)) A) args s 0 0 A) (F0 m 3 ls []) := by
    intro n9
    induction n9 with
    | zero => intro k hm9; omega
    | succ n9 ih =>
      intro k hm9 hk hno H locs hI ls hl
      have hN9 := hN3.2.1
      refine lv_iload hx hb dX0_isRested_3 (lv_at hl 0 rfl) ?_
      refine lv_aload_n hx hb dX0_isRested_5 rfl (lv_at hl 1 rfl) ?_
      refine cp_get (v := .int (u 14 3)) hx hb hts inW hown hK hI (cp_hX _ _ _ _) rfl 14 (by decide) fl_serviceCount rfl rfl dX0_isRested_6 ?_
      refine lv_icmp_ge (tgt := 59) hx hb dX0_isRested_9 (by decide) (fun c9 => ?_) (fun c9 => ?_)
      · have hk2 := cp_ex hN3 hk c9
        refine lv_iconst (v := 1) hx hb dX0_isRested_59 (by decide) ?_
        exact cp_retz (u := u) (v := 1) hx hb hr hlocks hK hI rfl ⟨(cp_bt (fun r hr => hno r (by omega))).symm, rfl⟩ dX0_isRested_60
      · have hk2 := cp_in hN3 (by omega) c9
        refine lv_aload_n hx hb dX0_isRested_12 rfl (lv_at hl 1 rfl) ?_
        refine cp_get (v := .ref (a 11)) hx hb hts inW hown hK hI (cp_hX _ _ _ _) rfl 15 (by decide) fl_choirOfService rfl rfl dX0_isRested_13 ?_
        refine lv_iload hx hb dX0_isRested_16 (lv_at hl 0 rfl) ?_
        refine cp_iald (f := u 11) hx hb hK hI 0 (cp_aX_11 _ _ _ _) rfl (j := k) (cp_ix_n (by omega) (by decide)) dX0_isRested_18 ?_
        refine lv_iload_n hx hb dX0_isRested_19 rfl (lv_at hl 3 rfl) ?_
        refine lv_icmp_ne (tgt := 53) hx hb dX0_isRested_20 (by decide) (fun c20 => ?_) (fun c20 => ?_)
        · obtain ⟨x53, ex53⟩ : ∃ y9 : Int32, y9 = (nI k) + 1 := ⟨_, rfl⟩
          refine lv_iinc (v := x53) (lv' := [(4, .int x53), (0, .ref h), (1, .int x), (2, .int ch), (3, .int z)]) hx hb dX0_isRested_53 hl (k := 0) rfl (by rw [ex53]; rfl) (by decide) rfl (fun ls hl => ?_)
          refine lv_goto (tgt := 3) hx hb dX0_isRested_56 (by decide) ?_
          obtain rfl : x53 = nI (k + 1) := by rw [ex53]; exact nI_1 k
          exact ih (k + 1) (by omega) (by omega) (cp_no_s hno (by first | exact fun h => c20 h.1 | exact fun h => c31 h.2.1 | exact fun h => absurd h.2.2 (Int32.not_lt.mpr c48))) _ _ hI ls (lv_sub hl [0, 1, 2, 3, 4] rfl)
        · refine lv_aload_n hx hb dX0_isRested_23 rfl (lv_at hl 1 rfl) ?_
          refine cp_get (v := .ref (a 13)) hx hb hts inW hown hK hI (cp_hX _ _ _ _) rfl 17 (by decide) fl_hymnOfService rfl rfl dX0_isRested_24 ?_
          refine lv_iload hx hb dX0_isRested_27 (lv_at hl 0 rfl) ?_
          refine cp_iald (f := u 13) hx hb hK hI 0 (cp_aX_13 _ _ _ _) rfl (j := k) (cp_ix_n (by omega) (by decide)) dX0_isRested_29 ?_
          refine lv_iload_n hx hb dX0_isRested_30 rfl (lv_at hl 2 rfl) ?_
          refine lv_icmp_ne (tgt := 53) hx hb dX0_isRested_31 (by decide) (fun c31 => ?_) (fun c31 => ?_)
          · obtain ⟨x53, ex53⟩ : ∃ y9 : Int32, y9 = (nI k) + 1 := ⟨_, rfl⟩
            refine lv_iinc (v := x53) (lv' := [(4, .int x53), (0, .ref h), (1, .int x), (2, .int ch), (3, .int z)]) hx hb dX0_isRested_53 hl (k := 0) rfl (by rw [ex53]; rfl) (by decide) rfl (fun ls hl => ?_)
            refine lv_goto (tgt := 3) hx hb dX0_isRested_56 (by decide) ?_
            obtain rfl : x53 = nI (k + 1) := by rw [ex53]; exact nI_1 k
            exact ih (k + 1) (by omega) (by omega) (cp_no_s hno (by first | exact fun h => c20 h.1 | exact fun h => c31 h.2.1 | exact fun h => absurd h.2.2 (Int32.not_lt.mpr c48))) _ _ hI ls (lv_sub hl [0, 1, 2, 3, 4] rfl)
          · refine lv_aload_n hx hb dX0_isRested_34 rfl (lv_at hl 1 rfl) ?_
            refine cp_get (v := .ref (a 12)) hx hb hts inW hown hK hI (cp_hX _ _ _ _) rfl 16 (by decide) fl_dayOfService rfl rfl dX0_isRested_35 ?_
            refine lv_iload hx hb dX0_isRested_38 (lv_at hl 0 rfl) ?_
            refine cp_iald (f := u 12) hx hb hK hI 0 (cp_aX_12 _ _ _ _) rfl (j := k) (cp_ix_n (by omega) (by decide)) dX0_isRested_40 ?_
            refine lv_iload_n hx hb dX0_isRested_41 rfl (lv_at hl 4 rfl) ?_
            refine lv_isub hx hb dX0_isRested_42 ?_
            refine va_mabs hx hb (hml.trans hl.1.symm) hown (hts _ (by decide +kernel)) (hts _ (by decide +kernel)) (hts _ (by decide +kernel)) (hts _ (by decide +kernel)) (Nat.le_of_ble_eq_true rfl) (Nat.le_of_ble_eq_true rfl) (Nat.le_of_ble_eq_true rfl) (Nat.le_of_ble_eq_true rfl) dX0_isRested_43 ?_
            refine lv_bipush (v := 28) hx hb dX0_isRested_46 (by decide) ?_
            refine lv_icmp_ge (tgt := 53) hx hb dX0_isRested_48 (by decide) (fun c48 => ?_) (fun c48 => ?_)
            · obtain ⟨x53, ex53⟩ : ∃ y9 : Int32, y9 = (nI k) + 1 := ⟨_, rfl⟩
              refine lv_iinc (v := x53) (lv' := [(4, .int x53), (0, .ref h), (1, .int x), (2, .int ch), (3, .int z)]) hx hb dX0_isRested_53 hl (k := 0) rfl (by rw [ex53]; rfl) (by decide) rfl (fun ls hl => ?_)
              refine lv_goto (tgt := 3) hx hb dX0_isRested_56 (by decide) ?_
              obtain rfl : x53 = nI (k + 1) := by rw [ex53]; exact nI_1 k
              exact ih (k + 1) (by omega) (by omega) (cp_no_s hno (by first | exact fun h => c20 h.1 | exact fun h => c31 h.2.1 | exact fun h => absurd h.2.2 (Int32.not_lt.mpr c48))) _ _ hI ls (lv_sub hl [0, 1, 2, 3, 4] rfl)
            · refine lv_iconst (v := 0) hx hb dX0_isRested_51 (by decide) ?_
              exact cp_retz (u := u) (v := 0) hx hb hr hlocks hK hI rfl ⟨(cp_bf (fun hh => hh k hk2 ⟨c20, c31, Int32.not_le.mp c48⟩)).symm, rfl⟩ dX0_isRested_52
  exact L3 ((cp_n u 3) + 1) 0 (Nat.lt_succ_self _) (Nat.zero_le _) (fun r hr => absurd hr (Nat.not_lt_zero _)) _ _ hI ls (lv_sub hl [0, 1, 2, 3, 4] rfl)
set_option maxHeartbeats 4000000 in
set_option maxRecDepth 100000 in
theorem c_X0_servicesWith (l : Launch) (D : va_G) (cI : ClassId) (h : Nat) (a : Nat → Nat) (u : cp_M) (x : Int32) (hN3 : cp_cn u 3 40) : ∀ sz : Nat, Met l yX0_servicesWith wsX0_servicesWith ({ frames := 0, cells := 0, slots := 0, locals := 0 } : Room) (va_Pc [.ref h, .int x] (cp_pre D [(cI, .int)] (cp_wX cI h a u) sz)) (va_Qi (fun (r : Int32) (u1 : cp_M) => r = nI (cp_with u x) ∧ u1 = u) (cp_at D [(cI, .int)] (va_A (cp_wX cI h a u) sz) (cp_wX cI h a)) (va_A (cp_wX cI h a u) sz)) 0 0 (va_A (cp_wX cI h a u) sz) := by
  refine cp_MetI (Qk := fun A => va_Qi (fun (r : Int32) (u1 : cp_M) => r = nI (cp_with u x) ∧ u1 = u) (cp_at D [(cI, .int)] A (cp_wX cI h a)) A) (by decide) rfl (Nat.le_of_ble_eq_true rfl) ?_
  intro p e s m args below meth c A hC hA hK hI ls hl
  obtain ⟨hx, hb, hml, hown, hts, hr, hlocks⟩ := hC
  have hown : s.vm.findClass RX0 = some m.cls := hown
  have hl : lv_has ls 4 [(0, .ref h), (1, .int x)] := hl
  have inW : ∀ w ∈ wsX00, w ∈ wsX0_servicesWith := by decide +kernel
  have fl_hymnOfService : Cond.fieldLink RX0 49 "CanticlePress" "hymnOfService" "[I" ∈ wsX0_servicesWith := by decide +kernel
  have fl_serviceCount : Cond.fieldLink RX0 137 "CanticlePress" "serviceCount" "I" ∈ wsX0_servicesWith := by decide +kernel
  refine lv_iconst (v := 0) hx hb dX0_servicesWith_0 (by decide) ?_
  refine lv_istore_n (lv' := [(2, .int 0), (0, .ref h), (1, .int x)]) hx hb dX0_servicesWith_1 rfl hl (by decide) rfl (fun ls hl => ?_)
  refine lv_iconst (v := 0) hx hb dX0_servicesWith_2 (by decide) ?_
  refine lv_istore_n (lv' := [(3, .int 0), (2, .int 0), (0, .ref h), (1, .int x)]) hx hb dX0_servicesWith_3 rfl hl (by decide) rfl (fun ls hl => ?_)
  have L4 : ∀ (n9 : Nat) (k : Nat) (hm9 : cp_n u 3 - k < n9) (hk : k ≤ cp_n u 3), ∀ (H : Heap) (locs : List Loc), cp_I D (cp_wX cI h a u) A s.heap H locs → ∀ ls, lv_has ls 4 [(3, .int (nI k)), (2, .int (nI (cp_cnt (fun k => u 13 k = x) k))), (0, .ref h), (1, .int x)] → W p l e ({ frames := 0, cells := 0, slots := 0, locals := 0 } : Room) s m args below meth c H locs 0 0 (MQ below (va_Qi (fun (r : Int32) (u1 : cp_M) => r = nI (cp_with u x) ∧ u1 = u) (cp_at D [(cI, .int)] A (cp_wX cI h a)) A) args s 0 0 A) (F0 m 4 ls []) := by
    intro n9
    induction n9 with
    | zero => intro k hm9; omega
    | succ n9 ih =>
      intro k hm9 hk H locs hI ls hl
      have hN9 := hN3.2.1
      refine lv_iload_n hx hb dX0_servicesWith_4 rfl (lv_at hl 0 rfl) ?_
      refine lv_aload_n hx hb dX0_servicesWith_5 rfl (lv_at hl 2 rfl) ?_
      refine cp_get (v := .int (u 14 3)) hx hb hts inW hown hK hI (cp_hX _ _ _ _) rfl 14 (by decide) fl_serviceCount rfl rfl dX0_servicesWith_6 ?_
      refine lv_icmp_ge (tgt := 31) hx hb dX0_servicesWith_9 (by decide) (fun c9 => ?_) (fun c9 => ?_)
      · have hk2 := cp_ex hN3 hk c9
        refine lv_iload_n hx hb dX0_servicesWith_31 rfl (lv_at hl 1 rfl) ?_
        exact cp_reti (u := u) (v := (nI (cp_cnt (fun k => u 13 k = x) k))) hx hb hr hlocks hK hI ⟨by rw [hk2]; rfl, rfl⟩ dX0_servicesWith_32
      · have hk2 := cp_in hN3 (by omega) c9
        refine lv_aload_n hx hb dX0_servicesWith_12 rfl (lv_at hl 2 rfl) ?_
        refine cp_get (v := .ref (a 13)) hx hb hts inW hown hK hI (cp_hX _ _ _ _) rfl 17 (by decide) fl_hymnOfService rfl rfl dX0_servicesWith_13 ?_
        refine lv_iload_n hx hb dX0_servicesWith_16 rfl (lv_at hl 0 rfl) ?_
        refine cp_iald (f := u 13) hx hb hK hI 0 (cp_aX_13 _ _ _ _) rfl (j := k) (cp_ix_n (by omega) (by decide)) dX0_servicesWith_17 ?_
        refine lv_iload_n hx hb dX0_servicesWith_18 rfl (lv_at hl 3 rfl) ?_
        refine lv_icmp_ne (tgt := 25) hx hb dX0_servicesWith_19 (by decide) (fun c19 => ?_) (fun c19 => ?_)
        · obtain ⟨x25, ex25⟩ : ∃ y9 : Int32, y9 = (nI k) + 1 := ⟨_, rfl⟩
          refine lv_iinc (v := x25) (lv' := [(3, .int x25), (2, .int (nI (cp_cnt (fun k => u 13 k = x) k))), (0, .ref h), (1, .int x)]) hx hb dX0_servicesWith_25 hl (k := 0) rfl (by rw [ex25]; rfl) (by decide) rfl (fun ls hl => ?_)
          refine lv_goto (tgt := 4) hx hb dX0_servicesWith_28 (by decide) ?_
          rw [← cp_cnt_f (p := fun k => u 13 k = x) c19] at hl
          obtain rfl : x25 = nI (k + 1) := by rw [ex25]; exact nI_1 k
          exact ih (k + 1) (by omega) (by omega) _ _ hI ls (lv_sub hl [0, 1, 2, 3] rfl)
        · obtain ⟨x22, ex22⟩ : ∃ y9 : Int32, y9 = (nI (cp_cnt (fun k => u 13 k = x) k)) + 1 := ⟨_, rfl⟩
          refine lv_iinc (v := x22) (lv' := [(2, .int x22), (3, .int (nI k)), (0, .ref h), (1, .int x)]) hx hb dX0_servicesWith_22 hl (k := 1) rfl (by rw [ex22]; rfl) (by decide) rfl (fun ls hl => ?_)
          obtain ⟨x25, ex25⟩ : ∃ y9 : Int32, y9 = (nI k) + 1 := ⟨_, rfl⟩
          refine lv_iinc (v := x25) (lv' := [(3, .int x25), (2, .int x22), (0, .ref h), (1, .int x)]) hx hb dX0_servicesWith_25 hl (k := 1) rfl (by rw [ex25]; rfl) (by decide) rfl (fun ls hl => ?_)
          refine lv_goto (tgt := 4) hx hb dX0_servicesWith_28 (by decide) ?_
          obtain rfl : x22 = nI (cp_cnt (fun k => u 13 k = x) (k + 1)) := by rw [ex22, cp_cnt_t (p := fun k => u 13 k = x) c19]; exact nI_1 _
          obtain rfl : x25 = nI (k + 1) := by rw [ex25]; exact nI_1 k
          exact ih (k + 1) (by omega) (by omega) _ _ hI ls (lv_sub hl [0, 1, 2, 3] rfl)
  exact L4 ((cp_n u 3) + 1) 0 (Nat.lt_succ_self _) (Nat.zero_le _) _ _ hI ls (lv_sub hl [0, 1, 2, 3] rfl)
set_option maxHeartbeats 4000000 in
set_option maxRecDepth 100000 in
theorem c_X0_isSuitable (l : Launch) (D : va_G) (cI : ClassId) (h : Nat) (a : Nat → Nat) (u : cp_M) (g : Nat) (ch : Int32) (z : Int32) (hg : g < 16) (hN2 : cp_cn u 2 40) (hN3 : cp_cn u 3 40) : ∀ sz : Nat, Met l yX0_isSuitable wsX0_isSuitable ({ frames := 2, cells := 0, slots := 0, locals := 46 } : Room) (va_Pc [.ref h, .int (nI g), .int ch, .int z] (cp_pre D [(cI, .int)] (cp_wX cI h a u) sz)) (va_Qi (fun (r : Int32) (u1 : cp_M) => r = cp_b (cp_suit u ch g z) ∧ u1 = u) (cp_at D [(cI, .int)] (va_A (cp_wX cI h a u) sz) (cp_wX cI h a)) (va_A (cp_wX cI h a u) sz)) 0 0 (va_A (cp_wX cI h a u) sz) := by
  refine cp_MetI (Qk := fun A => va_Qi (fun (r : Int32) (u1 : cp_M) => r = cp_b (cp_suit u ch g z) ∧ u1 = u) (cp_at D [(cI, .int)] A (cp_wX cI h a)) A) (by decide) rfl (Nat.le_of_ble_eq_true rfl) ?_
  intro p e s m args below meth c A hC hA hK hI ls hl
  obtain ⟨hx, hb, hml, hown, hts, hr, hlocks⟩ := hC
  have hown : s.vm.findClass RX0 = some m.cls := hown
  have hl : lv_has ls 4 [(0, .ref h), (1, .int (nI g)), (2, .int ch), (3, .int z)] := hl
  have inW : ∀ w ∈ wsX00, w ∈ wsX0_isSuitable := by decide +kernel
  have fl_choirsOfHymn : Cond.fieldLink RX0 25 "CanticlePress" "choirsOfHymn" "[I" ∈ wsX0_isSuitable := by decide +kernel
  have fl_seasonsOfHymn : Cond.fieldLink RX0 13 "CanticlePress" "seasonsOfHymn" "[I" ∈ wsX0_isSuitable := by decide +kernel
  refine lv_iload_n hx hb dX0_isSuitable_0 rfl (lv_at hl 2 rfl) ?_
  refine lv_aload_n hx hb dX0_isSuitable_1 rfl (lv_at hl 0 rfl) ?_
  refine cp_get (v := .ref (a 5)) hx hb hts inW hown hK hI (cp_hX _ _ _ _) rfl 7 (by decide) fl_choirsOfHymn rfl rfl dX0_isSuitable_2 ?_
  refine lv_iload_n hx hb dX0_isSuitable_5 rfl (lv_at hl 1 rfl) ?_
  refine cp_iald (f := u 5) hx hb hK hI 0 (cp_aX_5 _ _ _ _) rfl (j := g) (cp_ix_n (by omega) (by decide)) dX0_isSuitable_6 ?_
  refine lv_i2l (v := (u 5 g).toInt64) hx hb dX0_isSuitable_7 rfl ?_
  refine cp_cSi0 (As := [.int ch, .long ((u 5 g).toInt64)]) (rest := []) ⟨hx, hb, hml, hown, hts⟩ ((c_X0_isInSet l ch ((u 5 g).toInt64)) D) (va_cwS 2 hts gX0_isSuitable_X0_isInSet rfl rfl rfl (by decide +kernel) ⟨Nat.le_of_ble_eq_true rfl, Nat.le_of_ble_eq_true rfl⟩) hK hI hA rfl hl.1 rfl (Nat.le_of_ble_eq_true rfl) dX0_isSuitable_8 ⟨Nat.le_of_ble_eq_true rfl, Nat.le_of_ble_eq_true rfl⟩ (fun r8 u8 H locs hp8 hI => ?_)
  obtain rfl := hp8
  refine lv_if_eq (tgt := 55) hx hb dX0_isSuitable_11 (by decide) (fun c11 => ?_) (fun c11 => ?_)
  · have c11 := cp_b0.mp c11
    refine lv_iconst (v := 0) hx hb dX0_isSuitable_55 (by decide) ?_
    exact cp_retz (u := u) (v := 0) hx hb hr hlocks hK hI rfl ⟨(cp_bf (by first | exact fun h => c11 h.1 | exact fun h => c28 h.2.1 | exact fun h => c38 h.2.2.1 | exact fun h => c48 h.2.2.2)).symm, rfl⟩ dX0_isSuitable_56
  · have c11 := Classical.not_not.mp (fun h9 => c11 (cp_b0.mpr h9))
    refine lv_iload_n hx hb dX0_isSuitable_14 rfl (lv_at hl 3 rfl) ?_
    refine cp_cSi0 (As := [.int z]) (rest := []) ⟨hx, hb, hml, hown, hts⟩ ((c_X0_seasonOf l z) D) (va_cwS 1 hts gX0_isSuitable_X0_seasonOf rfl rfl rfl (by decide +kernel) ⟨Nat.le_of_ble_eq_true rfl, Nat.le_of_ble_eq_true rfl⟩) hK hI hA rfl hl.1 rfl (Nat.le_of_ble_eq_true rfl) dX0_isSuitable_15 ⟨Nat.le_of_ble_eq_true rfl, Nat.le_of_ble_eq_true rfl⟩ (fun r15 u15 H locs hp15 hI => ?_)
    obtain rfl := hp15
    refine lv_aload_n hx hb dX0_isSuitable_18 rfl (lv_at hl 0 rfl) ?_
    refine cp_get (v := .ref (a 1)) hx hb hts inW hown hK hI (cp_hX _ _ _ _) rfl 3 (by decide) fl_seasonsOfHymn rfl rfl dX0_isSuitable_19 ?_
    refine lv_iload_n hx hb dX0_isSuitable_22 rfl (lv_at hl 1 rfl) ?_
    refine cp_iald (f := u 1) hx hb hK hI 0 (cp_aX_1 _ _ _ _) rfl (j := g) (cp_ix_n (by omega) (by decide)) dX0_isSuitable_23 ?_
    refine lv_i2l (v := (u 1 g).toInt64) hx hb dX0_isSuitable_24 rfl ?_
    refine cp_cSi0 (As := [.int (cp_season z), .long ((u 1 g).toInt64)]) (rest := []) ⟨hx, hb, hml, hown, hts⟩ ((c_X0_isInSet l (cp_season z) ((u 1 g).toInt64)) D) (va_cwS 2 hts gX0_isSuitable_X0_isInSet rfl rfl rfl (by decide +kernel) ⟨Nat.le_of_ble_eq_true rfl, Nat.le_of_ble_eq_true rfl⟩) hK hI hA rfl hl.1 rfl (Nat.le_of_ble_eq_true rfl) dX0_isSuitable_25 ⟨Nat.le_of_ble_eq_true rfl, Nat.le_of_ble_eq_true rfl⟩ (fun r25 u25 H locs hp25 hI => ?_)
    obtain rfl := hp25
    refine lv_if_eq (tgt := 55) hx hb dX0_isSuitable_28 (by decide) (fun c28 => ?_) (fun c28 => ?_)
    · have c28 := cp_b0.mp c28
      refine lv_iconst (v := 0) hx hb dX0_isSuitable_55 (by decide) ?_
      exact cp_retz (u := u) (v := 0) hx hb hr hlocks hK hI rfl ⟨(cp_bf (by first | exact fun h => c11 h.1 | exact fun h => c28 h.2.1 | exact fun h => c38 h.2.2.1 | exact fun h => c48 h.2.2.2)).symm, rfl⟩ dX0_isSuitable_56
    · have c28 := Classical.not_not.mp (fun h9 => c28 (cp_b0.mpr h9))
      refine lv_aload_n hx hb dX0_isSuitable_31 rfl (lv_at hl 0 rfl) ?_
      refine lv_iload_n hx hb dX0_isSuitable_32 rfl (lv_at hl 1 rfl) ?_
      refine lv_iconst (v := 0) hx hb dX0_isSuitable_33 (by decide) ?_
      refine lv_iload_n hx hb dX0_isSuitable_34 rfl (lv_at hl 3 rfl) ?_
      refine cp_cVi0 (wc := cp_wX cI h a) (u := u) (As := [.int (nI g), .int 0, .int z]) (rest := []) ⟨hx, hb, hml, hown, hts⟩ (c_X0_isAllowed l D cI h a u (nI g) 0 z hN2) (cwV 3 hts gX0_isSuitable_X0_isAllowed rfl rfl rfl (by decide +kernel) ⟨Nat.le_of_ble_eq_true rfl, Nat.le_of_ble_eq_true rfl⟩) hK hI hA ⟨_, cp_hX _ _ _ _⟩ rfl rfl rfl hl.1 rfl (Nat.le_of_ble_eq_true rfl) dX0_isSuitable_35 ⟨Nat.le_of_ble_eq_true rfl, Nat.le_of_ble_eq_true rfl⟩ (fun r35 u35 H locs hp35 hI => ?_)
      obtain ⟨rfl, e9⟩ := hp35
      rw [e9] at hI
      refine lv_if_eq (tgt := 55) hx hb dX0_isSuitable_38 (by decide) (fun c38 => ?_) (fun c38 => ?_)
      · have c38 := cp_b0.mp c38
        refine lv_iconst (v := 0) hx hb dX0_isSuitable_55 (by decide) ?_
        exact cp_retz (u := u) (v := 0) hx hb hr hlocks hK hI rfl ⟨(cp_bf (by first | exact fun h => c11 h.1 | exact fun h => c28 h.2.1 | exact fun h => c38 h.2.2.1 | exact fun h => c48 h.2.2.2)).symm, rfl⟩ dX0_isSuitable_56
      · have c38 := Classical.not_not.mp (fun h9 => c38 (cp_b0.mpr h9))
        refine lv_aload_n hx hb dX0_isSuitable_41 rfl (lv_at hl 0 rfl) ?_
        refine lv_iload_n hx hb dX0_isSuitable_42 rfl (lv_at hl 1 rfl) ?_
        refine lv_iload_n hx hb dX0_isSuitable_43 rfl (lv_at hl 2 rfl) ?_
        refine lv_iload_n hx hb dX0_isSuitable_44 rfl (lv_at hl 3 rfl) ?_
        refine cp_cVi0 (wc := cp_wX cI h a) (u := u) (As := [.int (nI g), .int ch, .int z]) (rest := []) ⟨hx, hb, hml, hown, hts⟩ (c_X0_isRested l D cI h a u (nI g) ch z hN3) (cwV 3 hts gX0_isSuitable_X0_isRested rfl rfl rfl (by decide +kernel) ⟨Nat.le_of_ble_eq_true rfl, Nat.le_of_ble_eq_true rfl⟩) hK hI hA ⟨_, cp_hX _ _ _ _⟩ rfl rfl rfl hl.1 rfl (Nat.le_of_ble_eq_true rfl) dX0_isSuitable_45 ⟨Nat.le_of_ble_eq_true rfl, Nat.le_of_ble_eq_true rfl⟩ (fun r45 u45 H locs hp45 hI => ?_)
        obtain ⟨rfl, e9⟩ := hp45
        rw [e9] at hI
        refine lv_if_eq (tgt := 55) hx hb dX0_isSuitable_48 (by decide) (fun c48 => ?_) (fun c48 => ?_)
        · have c48 := cp_b0.mp c48
          refine lv_iconst (v := 0) hx hb dX0_isSuitable_55 (by decide) ?_
          exact cp_retz (u := u) (v := 0) hx hb hr hlocks hK hI rfl ⟨(cp_bf (by first | exact fun h => c11 h.1 | exact fun h => c28 h.2.1 | exact fun h => c38 h.2.2.1 | exact fun h => c48 h.2.2.2)).symm, rfl⟩ dX0_isSuitable_56
        · have c48 := Classical.not_not.mp (fun h9 => c48 (cp_b0.mpr h9))
          refine lv_iconst (v := 1) hx hb dX0_isSuitable_51 (by decide) ?_
          refine lv_goto (tgt := 56) hx hb dX0_isSuitable_52 (by decide) ?_
          exact cp_retz (u := u) (v := 1) hx hb hr hlocks hK hI rfl ⟨(cp_bt ⟨c11, c28, c38, c48⟩).symm, rfl⟩ dX0_isSuitable_56
set_option maxHeartbeats 4000000 in
set_option maxRecDepth 100000 in
theorem c_X0_bestHymn (l : Launch) (D : va_G) (cI : ClassId) (h : Nat) (a : Nat → Nat) (u : cp_M) (ch : Int32) (z : Int32) (hN1 : cp_cn u 1 16) (hN2 : cp_cn u 2 40) (hN3 : cp_cn u 3 40) : ∀ sz : Nat, Met l yX0_bestHymn wsX0_bestHymn ({ frames := 3, cells := 0, slots := 0, locals := 69 } : Room) (va_Pc [.ref h, .int ch, .int z] (cp_pre D [(cI, .int)] (cp_wX cI h a u) sz)) (va_Qi (fun (r : Int32) (u1 : cp_M) => r = cp_o (cp_best u ch z) ∧ u1 = u) (cp_at D [(cI, .int)] (va_A (cp_wX cI h a u) sz) (cp_wX cI h a)) (va_A (cp_wX cI h a u) sz)) 0 0 (va_A (cp_wX cI h a u) sz) := by
  refine cp_MetI (Qk := fun A => va_Qi (fun (r : Int32) (u1 : cp_M) => r = cp_o (cp_best u ch z) ∧ u1 = u) (cp_at D [(cI, .int)] A (cp_wX cI h a)) A) (by decide) rfl (Nat.le_of_ble_eq_true rfl) ?_
  intro p e s m args below meth c A hC hA hK hI ls hl
  obtain ⟨hx, hb, hml, hown, hts, hr, hlocks⟩ := hC
  have hown : s.vm.findClass RX0 = some m.cls := hown
  have hl : lv_has ls 7 [(0, .ref h), (1, .int ch), (2, .int z)] := hl
  have inW : ∀ w ∈ wsX00, w ∈ wsX0_bestHymn := by decide +kernel
  have fl_hymnCount : Cond.fieldLink RX0 67 "CanticlePress" "hymnCount" "I" ∈ wsX0_bestHymn := by decide +kernel
  refine lv_iconst (v := (-1)) hx hb dX0_bestHymn_0 (by decide) ?_
  refine lv_istore_n (lv' := [(3, .int (-1)), (0, .ref h), (1, .int ch), (2, .int z)]) hx hb dX0_bestHymn_1 rfl hl (by decide) rfl (fun ls hl => ?_)
  refine lv_iconst (v := 0) hx hb dX0_bestHymn_2 (by decide) ?_
  refine lv_istore (lv' := [(4, .int 0), (3, .int (-1)), (0, .ref h), (1, .int ch), (2, .int z)]) hx hb dX0_bestHymn_3 hl (by decide) rfl (fun ls hl => ?_)
  refine lv_iconst (v := 0) hx hb dX0_bestHymn_5 (by decide) ?_
  refine lv_istore (lv' := [(5, .int 0), (4, .int 0), (3, .int (-1)), (0, .ref h), (1, .int ch), (2, .int z)]) hx hb dX0_bestHymn_6 hl (by decide) rfl (fun ls hl => ?_)
  have L8 : ∀ (n9 : Nat) (k : Nat) (y : Int32) (hm9 : cp_n u 1 - k < n9) (hk : k ≤ cp_n u 1) (hy : ∀ b, cp_bst (fun g => cp_suit u ch g z) (fun g => cp_with u (nI g)) k = some b → y = nI (cp_with u (nI b))), ∀ (H : Heap) (locs : List Loc), cp_I D (cp_wX cI h a u) A s.heap H locs → ∀ ls, lv_has ls 7 [(5, .int (nI k)), (4, .int y), (3, .int (cp_o (cp_bst (fun g => cp_suit u ch g z) (fun g => cp_with u (nI g)) k))), (0, .ref h), (1, .int ch), (2, .int z)] → W p l e ({ frames := 3, cells := 0, slots := 0, locals := 69 } : Room) s m args below meth c H locs 0 0 (MQ below (va_Qi (fun (r : Int32) (u1 : cp_M) => r = cp_o (cp_best u ch z) ∧ u1 = u) (cp_at D [(cI, .int)] A (cp_wX cI h a)) A) args s 0 0 A) (F0 m 8 ls []) := by
    intro n9
    induction n9 with
    | zero => intro k y hm9; omega
    | succ n9 ih =>
      intro k y hm9 hk hy H locs hI ls hl
      have hN9 := hN1.2.1
      refine lv_iload hx hb dX0_bestHymn_8 (lv_at hl 0 rfl) ?_
      refine lv_aload_n hx hb dX0_bestHymn_10 rfl (lv_at hl 3 rfl) ?_
      refine cp_get (v := .int (u 14 1)) hx hb hts inW hown hK hI (cp_hX _ _ _ _) rfl 1 (by decide) fl_hymnCount rfl rfl dX0_bestHymn_11 ?_
      refine lv_icmp_ge (tgt := 61) hx hb dX0_bestHymn_14 (by decide) (fun c14 => ?_) (fun c14 => ?_)
      · have hk2 := cp_ex hN1 hk c14
        refine lv_iload_n hx hb dX0_bestHymn_61 rfl (lv_at hl 2 rfl) ?_
        exact cp_reti (u := u) (v := (cp_o (cp_bst (fun g => cp_suit u ch g z) (fun g => cp_with u (nI g)) k))) hx hb hr hlocks hK hI ⟨by rw [hk2]; rfl, rfl⟩ dX0_bestHymn_62
      · have hk2 := cp_in hN1 (by omega) c14
        refine lv_aload_n hx hb dX0_bestHymn_17 rfl (lv_at hl 3 rfl) ?_
        refine lv_iload hx hb dX0_bestHymn_18 (lv_at hl 0 rfl) ?_
        refine lv_iload_n hx hb dX0_bestHymn_20 rfl (lv_at hl 4 rfl) ?_
        refine lv_iload_n hx hb dX0_bestHymn_21 rfl (lv_at hl 5 rfl) ?_
        refine cp_cVi0 (wc := cp_wX cI h a) (u := u) (As := [.int (nI k), .int ch, .int z]) (rest := []) ⟨hx, hb, hml, hown, hts⟩ (c_X0_isSuitable l D cI h a u k ch z (by omega) hN2 hN3) (cwV 3 hts gX0_bestHymn_X0_isSuitable rfl rfl rfl (by decide +kernel) ⟨Nat.le_of_ble_eq_true rfl, Nat.le_of_ble_eq_true rfl⟩) hK hI hA ⟨_, cp_hX _ _ _ _⟩ rfl rfl rfl hl.1 rfl (Nat.le_of_ble_eq_true rfl) dX0_bestHymn_22 ⟨Nat.le_of_ble_eq_true rfl, Nat.le_of_ble_eq_true rfl⟩ (fun r22 u22 H locs hp22 hI => ?_)
        obtain ⟨rfl, e9⟩ := hp22
        rw [e9] at hI
        refine lv_if_eq (tgt := 55) hx hb dX0_bestHymn_25 (by decide) (fun c25 => ?_) (fun c25 => ?_)
        · have c25 := cp_b0.mp c25
          obtain ⟨x55, ex55⟩ : ∃ y9 : Int32, y9 = (nI k) + 1 := ⟨_, rfl⟩
          refine lv_iinc (v := x55) (lv' := [(5, .int x55), (4, .int y), (3, .int (cp_o (cp_bst (fun g => cp_suit u ch g z) (fun g => cp_with u (nI g)) k))), (0, .ref h), (1, .int ch), (2, .int z)]) hx hb dX0_bestHymn_55 hl (k := 0) rfl (by rw [ex55]; rfl) (by decide) rfl (fun ls hl => ?_)
          refine lv_goto (tgt := 8) hx hb dX0_bestHymn_58 (by decide) ?_
          have e9 : cp_bst (fun g => cp_suit u ch g z) (fun g => cp_with u (nI g)) (k + 1) = cp_bst (fun g => cp_suit u ch g z) (fun g => cp_with u (nI g)) k := cp_bst_f (fun hh => c25 hh.1)
          obtain rfl : x55 = nI (k + 1) := by rw [ex55]; exact nI_1 k
          have hl : lv_has ls 7 [(5, .int (nI (k + 1))), (4, .int y), (3, .int (cp_o (cp_bst (fun g => cp_suit u ch g z) (fun g => cp_with u (nI g)) (k + 1)))), (0, .ref h), (1, .int ch), (2, .int z)] := by rw [e9]; exact hl
          exact ih (k + 1) y (by omega) (by omega) (fun b hb => hy b (e9 ▸ hb)) _ _ hI ls (lv_sub hl [0, 1, 2, 3, 4, 5] rfl)
        · have c25 := Classical.not_not.mp (fun h9 => c25 (cp_b0.mpr h9))
          refine lv_aload_n hx hb dX0_bestHymn_28 rfl (lv_at hl 3 rfl) ?_
          refine lv_iload hx hb dX0_bestHymn_29 (lv_at hl 0 rfl) ?_
          refine cp_cVi0 (wc := cp_wX cI h a) (u := u) (As := [.int (nI k)]) (rest := []) ⟨hx, hb, hml, hown, hts⟩ (c_X0_servicesWith l D cI h a u (nI k) hN3) (cwV 1 hts gX0_bestHymn_X0_servicesWith rfl rfl rfl (by decide +kernel) ⟨Nat.le_of_ble_eq_true rfl, Nat.le_of_ble_eq_true rfl⟩) hK hI hA ⟨_, cp_hX _ _ _ _⟩ rfl rfl rfl hl.1 rfl (Nat.le_of_ble_eq_true rfl) dX0_bestHymn_31 ⟨Nat.le_of_ble_eq_true rfl, Nat.le_of_ble_eq_true rfl⟩ (fun r31 u31 H locs hp31 hI => ?_)
          obtain ⟨rfl, e9⟩ := hp31
          rw [e9] at hI
          refine lv_topi (fun x34 ex34 => ?_)
          refine lv_istore (lv' := [(6, .int x34), (5, .int (nI k)), (4, .int y), (3, .int (cp_o (cp_bst (fun g => cp_suit u ch g z) (fun g => cp_with u (nI g)) k))), (0, .ref h), (1, .int ch), (2, .int z)]) hx hb dX0_bestHymn_34 hl (by decide) rfl (fun ls hl => ?_)
          refine lv_iload_n hx hb dX0_bestHymn_36 rfl (lv_at hl 3 rfl) ?_
          refine lv_iconst (v := (-1)) hx hb dX0_bestHymn_37 (by decide) ?_
          refine lv_icmp_eq (tgt := 48) hx hb dX0_bestHymn_38 (by decide) (fun c38 => ?_) (fun c38 => ?_)
          · refine lv_iload hx hb dX0_bestHymn_48 (lv_at hl 1 rfl) ?_
            refine lv_istore_n (lv' := [(3, .int (nI k)), (6, .int x34), (5, .int (nI k)), (4, .int y), (0, .ref h), (1, .int ch), (2, .int z)]) hx hb dX0_bestHymn_50 rfl hl (by decide) rfl (fun ls hl => ?_)
            refine lv_iload hx hb dX0_bestHymn_51 (lv_at hl 1 rfl) ?_
            refine lv_istore (lv' := [(4, .int x34), (3, .int (nI k)), (6, .int x34), (5, .int (nI k)), (0, .ref h), (1, .int ch), (2, .int z)]) hx hb dX0_bestHymn_53 hl (by decide) rfl (fun ls hl => ?_)
            obtain ⟨x55, ex55⟩ : ∃ y9 : Int32, y9 = (nI k) + 1 := ⟨_, rfl⟩
            refine lv_iinc (v := x55) (lv' := [(5, .int x55), (4, .int x34), (3, .int (nI k)), (6, .int x34), (0, .ref h), (1, .int ch), (2, .int z)]) hx hb dX0_bestHymn_55 hl (k := 3) rfl (by rw [ex55]; rfl) (by decide) rfl (fun ls hl => ?_)
            refine lv_goto (tgt := 8) hx hb dX0_bestHymn_58 (by decide) ?_
            have e9 : cp_bst (fun g => cp_suit u ch g z) (fun g => cp_with u (nI g)) (k + 1) = some k := cp_bst_t ⟨c25, fun b hb => by first | (rw [hb] at c38; exact absurd c38 (cp_ne_m1 (by have := cp_bst_lt hb; omega))) | (have h45 := Int32.not_le.mp c45; rw [hy b hb, ex34, nI_ltI (by have := cp_with_le hN3 (nI k); omega) (by have := cp_with_le hN3 (nI b); omega)] at h45; exact h45)⟩
            obtain rfl : x55 = nI (k + 1) := by rw [ex55]; exact nI_1 k
            have hl : lv_has ls 7 [(5, .int (nI (k + 1))), (4, .int x34), (3, .int (cp_o (cp_bst (fun g => cp_suit u ch g z) (fun g => cp_with u (nI g)) (k + 1)))), (6, .int x34), (0, .ref h), (1, .int ch), (2, .int z)] := by rw [e9]; exact hl
            exact ih (k + 1) x34 (by omega) (by omega) (fun b hb => by rw [e9] at hb; cases hb; exact ex34) _ _ hI ls (lv_sub hl [0, 1, 2, 4, 5, 6] rfl)
          · refine lv_iload hx hb dX0_bestHymn_41 (lv_at hl 0 rfl) ?_
            refine lv_iload hx hb dX0_bestHymn_43 (lv_at hl 2 rfl) ?_
            refine lv_icmp_ge (tgt := 55) hx hb dX0_bestHymn_45 (by decide) (fun c45 => ?_) (fun c45 => ?_)
            · obtain ⟨x55, ex55⟩ : ∃ y9 : Int32, y9 = (nI k) + 1 := ⟨_, rfl⟩
              refine lv_iinc (v := x55) (lv' := [(5, .int x55), (6, .int x34), (4, .int y), (3, .int (cp_o (cp_bst (fun g => cp_suit u ch g z) (fun g => cp_with u (nI g)) k))), (0, .ref h), (1, .int ch), (2, .int z)]) hx hb dX0_bestHymn_55 hl (k := 1) rfl (by rw [ex55]; rfl) (by decide) rfl (fun ls hl => ?_)
              refine lv_goto (tgt := 8) hx hb dX0_bestHymn_58 (by decide) ?_
              have e9 : cp_bst (fun g => cp_suit u ch g z) (fun g => cp_with u (nI g)) (k + 1) = cp_bst (fun g => cp_suit u ch g z) (fun g => cp_with u (nI g)) k := cp_bst_f (fun hh => by
                rcases hb : cp_bst (fun g => cp_suit u ch g z) (fun g => cp_with u (nI g)) k with _ | b
                · exact c38 (by rw [hb]; rfl)
                · have h9 := hh.2 b hb
                  rw [hy b hb, ex34, nI_leI (by have := cp_with_le hN3 (nI b); omega) (by have := cp_with_le hN3 (nI k); omega)] at c45
                  omega)
              obtain rfl : x55 = nI (k + 1) := by rw [ex55]; exact nI_1 k
              have hl : lv_has ls 7 [(5, .int (nI (k + 1))), (6, .int x34), (4, .int y), (3, .int (cp_o (cp_bst (fun g => cp_suit u ch g z) (fun g => cp_with u (nI g)) (k + 1)))), (0, .ref h), (1, .int ch), (2, .int z)] := by rw [e9]; exact hl
              exact ih (k + 1) y (by omega) (by omega) (fun b hb => hy b (e9 ▸ hb)) _ _ hI ls (lv_sub hl [0, 2, 3, 4, 5, 6] rfl)
            · refine lv_iload hx hb dX0_bestHymn_48 (lv_at hl 1 rfl) ?_
              refine lv_istore_n (lv' := [(3, .int (nI k)), (6, .int x34), (5, .int (nI k)), (4, .int y), (0, .ref h), (1, .int ch), (2, .int z)]) hx hb dX0_bestHymn_50 rfl hl (by decide) rfl (fun ls hl => ?_)
              refine lv_iload hx hb dX0_bestHymn_51 (lv_at hl 1 rfl) ?_
              refine lv_istore (lv' := [(4, .int x34), (3, .int (nI k)), (6, .int x34), (5, .int (nI k)), (0, .ref h), (1, .int ch), (2, .int z)]) hx hb dX0_bestHymn_53 hl (by decide) rfl (fun ls hl => ?_)
              obtain ⟨x55, ex55⟩ : ∃ y9 : Int32, y9 = (nI k) + 1 := ⟨_, rfl⟩
              refine lv_iinc (v := x55) (lv' := [(5, .int x55), (4, .int x34), (3, .int (nI k)), (6, .int x34), (0, .ref h), (1, .int ch), (2, .int z)]) hx hb dX0_bestHymn_55 hl (k := 3) rfl (by rw [ex55]; rfl) (by decide) rfl (fun ls hl => ?_)
              refine lv_goto (tgt := 8) hx hb dX0_bestHymn_58 (by decide) ?_
              have e9 : cp_bst (fun g => cp_suit u ch g z) (fun g => cp_with u (nI g)) (k + 1) = some k := cp_bst_t ⟨c25, fun b hb => by first | (rw [hb] at c38; exact absurd c38 (cp_ne_m1 (by have := cp_bst_lt hb; omega))) | (have h45 := Int32.not_le.mp c45; rw [hy b hb, ex34, nI_ltI (by have := cp_with_le hN3 (nI k); omega) (by have := cp_with_le hN3 (nI b); omega)] at h45; exact h45)⟩
              obtain rfl : x55 = nI (k + 1) := by rw [ex55]; exact nI_1 k
              have hl : lv_has ls 7 [(5, .int (nI (k + 1))), (4, .int x34), (3, .int (cp_o (cp_bst (fun g => cp_suit u ch g z) (fun g => cp_with u (nI g)) (k + 1)))), (6, .int x34), (0, .ref h), (1, .int ch), (2, .int z)] := by rw [e9]; exact hl
              exact ih (k + 1) x34 (by omega) (by omega) (fun b hb => by rw [e9] at hb; cases hb; exact ex34) _ _ hI ls (lv_sub hl [0, 1, 2, 4, 5, 6] rfl)
  exact L8 ((cp_n u 1) + 1) 0 0 (Nat.lt_succ_self _) (Nat.zero_le _) (fun b hb => nomatch hb) _ _ hI ls (lv_sub hl [0, 1, 2, 3, 4, 5] rfl)
set_option maxHeartbeats 4000000 in
set_option maxRecDepth 100000 in
theorem c_X0_isHeldIn (l : Launch) (D : va_G) (cI : ClassId) (h : Nat) (a : Nat → Nat) (u : cp_M) (g : Nat) (y : Int32) (hg : g < 40) : ∀ sz : Nat, Met l yX0_isHeldIn wsX0_isHeldIn ({ frames := 1, cells := 0, slots := 0, locals := 20 } : Room) (va_Pc [.ref h, .int (nI g), .int y] (cp_pre D [(cI, .int)] (cp_wX cI h a u) sz)) (va_Qi (fun (r : Int32) (u1 : cp_M) => r = cp_b (cp_held u g y) ∧ u1 = u) (cp_at D [(cI, .int)] (va_A (cp_wX cI h a u) sz) (cp_wX cI h a)) (va_A (cp_wX cI h a u) sz)) 0 0 (va_A (cp_wX cI h a u) sz) := by
  refine cp_MetI (Qk := fun A => va_Qi (fun (r : Int32) (u1 : cp_M) => r = cp_b (cp_held u g y) ∧ u1 = u) (cp_at D [(cI, .int)] A (cp_wX cI h a)) A) (by decide) rfl (Nat.le_of_ble_eq_true rfl) ?_
  intro p e s m args below meth c A hC hA hK hI ls hl
  obtain ⟨hx, hb, hml, hown, hts, hr, hlocks⟩ := hC
  have hown : s.vm.findClass RX0 = some m.cls := hown
  have hl : lv_has ls 4 [(0, .ref h), (1, .int (nI g)), (2, .int y)] := hl
  have inW : ∀ w ∈ wsX00, w ∈ wsX0_isHeldIn := by decide +kernel
  have fl_dayOfService : Cond.fieldLink RX0 46 "CanticlePress" "dayOfService" "[I" ∈ wsX0_isHeldIn := by decide +kernel
  have fl_today : Cond.fieldLink RX0 109 "CanticlePress" "today" "I" ∈ wsX0_isHeldIn := by decide +kernel
  refine lv_aload_n hx hb dX0_isHeldIn_0 rfl (lv_at hl 0 rfl) ?_
  refine cp_get (v := .ref (a 12)) hx hb hts inW hown hK hI (cp_hX _ _ _ _) rfl 16 (by decide) fl_dayOfService rfl rfl dX0_isHeldIn_1 ?_
  refine lv_iload_n hx hb dX0_isHeldIn_4 rfl (lv_at hl 1 rfl) ?_
  refine cp_iald (f := u 12) hx hb hK hI 0 (cp_aX_12 _ _ _ _) rfl (j := g) (cp_ix_n (by omega) (by decide)) dX0_isHeldIn_5 ?_
  refine lv_topi (fun x6 ex6 => ?_)
  refine lv_istore_n (lv' := [(3, .int x6), (0, .ref h), (1, .int (nI g)), (2, .int y)]) hx hb dX0_isHeldIn_6 rfl hl (by decide) rfl (fun ls hl => ?_)
  obtain rfl := ex6
  refine lv_iload_n hx hb dX0_isHeldIn_7 rfl (lv_at hl 0 rfl) ?_
  refine lv_aload_n hx hb dX0_isHeldIn_8 rfl (lv_at hl 1 rfl) ?_
  refine cp_get (v := .int (u 14 0)) hx hb hts inW hown hK hI (cp_hX _ _ _ _) rfl 0 (by decide) fl_today rfl rfl dX0_isHeldIn_9 ?_
  refine lv_icmp_gt (tgt := 27) hx hb dX0_isHeldIn_12 (by decide) (fun c12 => ?_) (fun c12 => ?_)
  · refine lv_iconst (v := 0) hx hb dX0_isHeldIn_27 (by decide) ?_
    exact cp_retz (u := u) (v := 0) hx hb hr hlocks hK hI rfl ⟨(cp_bf (by first | exact fun h => absurd h.1 (Int32.not_le.mpr c12) | exact fun h => c20 h.2)).symm, rfl⟩ dX0_isHeldIn_28
  · refine lv_iload_n hx hb dX0_isHeldIn_15 rfl (lv_at hl 0 rfl) ?_
    refine cp_cSi0 (As := [.int (u 12 g)]) (rest := []) ⟨hx, hb, hml, hown, hts⟩ ((c_X0_yearOf l (u 12 g)) D) (va_cwS 1 hts gX0_isHeldIn_X0_yearOf rfl rfl rfl (by decide +kernel) ⟨Nat.le_of_ble_eq_true rfl, Nat.le_of_ble_eq_true rfl⟩) hK hI hA rfl hl.1 rfl (Nat.le_of_ble_eq_true rfl) dX0_isHeldIn_16 ⟨Nat.le_of_ble_eq_true rfl, Nat.le_of_ble_eq_true rfl⟩ (fun r16 u16 H locs hp16 hI => ?_)
    obtain rfl := hp16
    refine lv_iload_n hx hb dX0_isHeldIn_19 rfl (lv_at hl 3 rfl) ?_
    refine lv_icmp_ne (tgt := 27) hx hb dX0_isHeldIn_20 (by decide) (fun c20 => ?_) (fun c20 => ?_)
    · refine lv_iconst (v := 0) hx hb dX0_isHeldIn_27 (by decide) ?_
      exact cp_retz (u := u) (v := 0) hx hb hr hlocks hK hI rfl ⟨(cp_bf (by first | exact fun h => absurd h.1 (Int32.not_le.mpr c12) | exact fun h => c20 h.2)).symm, rfl⟩ dX0_isHeldIn_28
    · refine lv_iconst (v := 1) hx hb dX0_isHeldIn_23 (by decide) ?_
      refine lv_goto (tgt := 28) hx hb dX0_isHeldIn_24 (by decide) ?_
      exact cp_retz (u := u) (v := 1) hx hb hr hlocks hK hI rfl ⟨(cp_bt ⟨Int32.not_lt.mp c12, c20⟩).symm, rfl⟩ dX0_isHeldIn_28
set_option maxHeartbeats 4000000 in
set_option maxRecDepth 100000 in
theorem c_X0_timesSung (l : Launch) (D : va_G) (cI : ClassId) (h : Nat) (a : Nat → Nat) (u : cp_M) (x : Int32) (y : Int32) (hN3 : cp_cn u 3 40) : ∀ sz : Nat, Met l yX0_timesSung wsX0_timesSung ({ frames := 2, cells := 0, slots := 0, locals := 43 } : Room) (va_Pc [.ref h, .int x, .int y] (cp_pre D [(cI, .int)] (cp_wX cI h a u) sz)) (va_Qi (fun (r : Int32) (u1 : cp_M) => r = nI (cp_times u x y) ∧ u1 = u) (cp_at D [(cI, .int)] (va_A (cp_wX cI h a u) sz) (cp_wX cI h a)) (va_A (cp_wX cI h a u) sz)) 0 0 (va_A (cp_wX cI h a u) sz) := by
  refine cp_MetI (Qk := fun A => va_Qi (fun (r : Int32) (u1 : cp_M) => r = nI (cp_times u x y) ∧ u1 = u) (cp_at D [(cI, .int)] A (cp_wX cI h a)) A) (by decide) rfl (Nat.le_of_ble_eq_true rfl) ?_
  intro p e s m args below meth c A hC hA hK hI ls hl
  obtain ⟨hx, hb, hml, hown, hts, hr, hlocks⟩ := hC
  have hown : s.vm.findClass RX0 = some m.cls := hown
  have hl : lv_has ls 5 [(0, .ref h), (1, .int x), (2, .int y)] := hl
  have inW : ∀ w ∈ wsX00, w ∈ wsX0_timesSung := by decide +kernel
  have fl_hymnOfService : Cond.fieldLink RX0 49 "CanticlePress" "hymnOfService" "[I" ∈ wsX0_timesSung := by decide +kernel
  have fl_serviceCount : Cond.fieldLink RX0 137 "CanticlePress" "serviceCount" "I" ∈ wsX0_timesSung := by decide +kernel
  refine lv_iconst (v := 0) hx hb dX0_timesSung_0 (by decide) ?_
  refine lv_istore_n (lv' := [(3, .int 0), (0, .ref h), (1, .int x), (2, .int y)]) hx hb dX0_timesSung_1 rfl hl (by decide) rfl (fun ls hl => ?_)
  refine lv_iconst (v := 0) hx hb dX0_timesSung_2 (by decide) ?_
  refine lv_istore (lv' := [(4, .int 0), (3, .int 0), (0, .ref h), (1, .int x), (2, .int y)]) hx hb dX0_timesSung_3 hl (by decide) rfl (fun ls hl => ?_)
  have L5 : ∀ (n9 : Nat) (k : Nat) (hm9 : cp_n u 3 - k < n9) (hk : k ≤ cp_n u 3), ∀ (H : Heap) (locs : List Loc), cp_I D (cp_wX cI h a u) A s.heap H locs → ∀ ls, lv_has ls 5 [(4, .int (nI k)), (3, .int (nI (cp_cnt (fun k => cp_held u k y ∧ u 13 k = x) k))), (0, .ref h), (1, .int x), (2, .int y)] → W p l e ({ frames := 2, cells := 0, slots := 0, locals := 43 } : Room) s m args below meth c H locs 0 0 (MQ below (va_Qi (fun (r : Int32) (u1 : cp_M) => r = nI (cp_times u x y) ∧ u1 = u) (cp_at D [(cI, .int)] A (cp_wX cI h a)) A) args s 0 0 A) (F0 m 5 ls []) := by
    intro n9
    induction n9 with
    | zero => intro k hm9; omega
    | succ n9 ih =>
      intro k hm9 hk H locs hI ls hl
      have hN9 := hN3.2.1
      refine lv_iload hx hb dX0_timesSung_5 (lv_at hl 0 rfl) ?_
      refine lv_aload_n hx hb dX0_timesSung_7 rfl (lv_at hl 2 rfl) ?_
      refine cp_get (v := .int (u 14 3)) hx hb hts inW hown hK hI (cp_hX _ _ _ _) rfl 14 (by decide) fl_serviceCount rfl rfl dX0_timesSung_8 ?_
      refine lv_icmp_ge (tgt := 44) hx hb dX0_timesSung_11 (by decide) (fun c11 => ?_) (fun c11 => ?_)
      · have hk2 := cp_ex hN3 hk c11
        refine lv_iload_n hx hb dX0_timesSung_44 rfl (lv_at hl 1 rfl) ?_
        exact cp_reti (u := u) (v := (nI (cp_cnt (fun k => cp_held u k y ∧ u 13 k = x) k))) hx hb hr hlocks hK hI ⟨by rw [hk2]; rfl, rfl⟩ dX0_timesSung_45
      · have hk2 := cp_in hN3 (by omega) c11
        refine lv_aload_n hx hb dX0_timesSung_14 rfl (lv_at hl 2 rfl) ?_
        refine lv_iload hx hb dX0_timesSung_15 (lv_at hl 0 rfl) ?_
        refine lv_iload_n hx hb dX0_timesSung_17 rfl (lv_at hl 4 rfl) ?_
        refine cp_cVi0 (wc := cp_wX cI h a) (u := u) (As := [.int (nI k), .int y]) (rest := []) ⟨hx, hb, hml, hown, hts⟩ (c_X0_isHeldIn l D cI h a u k y (by omega)) (cwV 2 hts gX0_timesSung_X0_isHeldIn rfl rfl rfl (by decide +kernel) ⟨Nat.le_of_ble_eq_true rfl, Nat.le_of_ble_eq_true rfl⟩) hK hI hA ⟨_, cp_hX _ _ _ _⟩ rfl rfl rfl hl.1 rfl (Nat.le_of_ble_eq_true rfl) dX0_timesSung_18 ⟨Nat.le_of_ble_eq_true rfl, Nat.le_of_ble_eq_true rfl⟩ (fun r18 u18 H locs hp18 hI => ?_)
        obtain ⟨rfl, e9⟩ := hp18
        rw [e9] at hI
        refine lv_if_eq (tgt := 38) hx hb dX0_timesSung_21 (by decide) (fun c21 => ?_) (fun c21 => ?_)
        · have c21 := cp_b0.mp c21
          obtain ⟨x38, ex38⟩ : ∃ y9 : Int32, y9 = (nI k) + 1 := ⟨_, rfl⟩
          refine lv_iinc (v := x38) (lv' := [(4, .int x38), (3, .int (nI (cp_cnt (fun k => cp_held u k y ∧ u 13 k = x) k))), (0, .ref h), (1, .int x), (2, .int y)]) hx hb dX0_timesSung_38 hl (k := 0) rfl (by rw [ex38]; rfl) (by decide) rfl (fun ls hl => ?_)
          refine lv_goto (tgt := 5) hx hb dX0_timesSung_41 (by decide) ?_
          rw [← cp_cnt_f (p := fun k => cp_held u k y ∧ u 13 k = x) (by first | exact fun h => c21 h.1 | exact fun h => c32 h.2)] at hl
          obtain rfl : x38 = nI (k + 1) := by rw [ex38]; exact nI_1 k
          exact ih (k + 1) (by omega) (by omega) _ _ hI ls (lv_sub hl [0, 1, 2, 3, 4] rfl)
        · have c21 := Classical.not_not.mp (fun h9 => c21 (cp_b0.mpr h9))
          refine lv_aload_n hx hb dX0_timesSung_24 rfl (lv_at hl 2 rfl) ?_
          refine cp_get (v := .ref (a 13)) hx hb hts inW hown hK hI (cp_hX _ _ _ _) rfl 17 (by decide) fl_hymnOfService rfl rfl dX0_timesSung_25 ?_
          refine lv_iload hx hb dX0_timesSung_28 (lv_at hl 0 rfl) ?_
          refine cp_iald (f := u 13) hx hb hK hI 0 (cp_aX_13 _ _ _ _) rfl (j := k) (cp_ix_n (by omega) (by decide)) dX0_timesSung_30 ?_
          refine lv_iload_n hx hb dX0_timesSung_31 rfl (lv_at hl 3 rfl) ?_
          refine lv_icmp_ne (tgt := 38) hx hb dX0_timesSung_32 (by decide) (fun c32 => ?_) (fun c32 => ?_)
          · obtain ⟨x38, ex38⟩ : ∃ y9 : Int32, y9 = (nI k) + 1 := ⟨_, rfl⟩
            refine lv_iinc (v := x38) (lv' := [(4, .int x38), (3, .int (nI (cp_cnt (fun k => cp_held u k y ∧ u 13 k = x) k))), (0, .ref h), (1, .int x), (2, .int y)]) hx hb dX0_timesSung_38 hl (k := 0) rfl (by rw [ex38]; rfl) (by decide) rfl (fun ls hl => ?_)
            refine lv_goto (tgt := 5) hx hb dX0_timesSung_41 (by decide) ?_
            rw [← cp_cnt_f (p := fun k => cp_held u k y ∧ u 13 k = x) (by first | exact fun h => c21 h.1 | exact fun h => c32 h.2)] at hl
            obtain rfl : x38 = nI (k + 1) := by rw [ex38]; exact nI_1 k
            exact ih (k + 1) (by omega) (by omega) _ _ hI ls (lv_sub hl [0, 1, 2, 3, 4] rfl)
          · obtain ⟨x35, ex35⟩ : ∃ y9 : Int32, y9 = (nI (cp_cnt (fun k => cp_held u k y ∧ u 13 k = x) k)) + 1 := ⟨_, rfl⟩
            refine lv_iinc (v := x35) (lv' := [(3, .int x35), (4, .int (nI k)), (0, .ref h), (1, .int x), (2, .int y)]) hx hb dX0_timesSung_35 hl (k := 1) rfl (by rw [ex35]; rfl) (by decide) rfl (fun ls hl => ?_)
            obtain ⟨x38, ex38⟩ : ∃ y9 : Int32, y9 = (nI k) + 1 := ⟨_, rfl⟩
            refine lv_iinc (v := x38) (lv' := [(4, .int x38), (3, .int x35), (0, .ref h), (1, .int x), (2, .int y)]) hx hb dX0_timesSung_38 hl (k := 1) rfl (by rw [ex38]; rfl) (by decide) rfl (fun ls hl => ?_)
            refine lv_goto (tgt := 5) hx hb dX0_timesSung_41 (by decide) ?_
            obtain rfl : x35 = nI (cp_cnt (fun k => cp_held u k y ∧ u 13 k = x) (k + 1)) := by rw [ex35, cp_cnt_t (p := fun k => cp_held u k y ∧ u 13 k = x) ⟨c21, c32⟩]; exact nI_1 _
            obtain rfl : x38 = nI (k + 1) := by rw [ex38]; exact nI_1 k
            exact ih (k + 1) (by omega) (by omega) _ _ hI ls (lv_sub hl [0, 1, 2, 3, 4] rfl)
  exact L5 ((cp_n u 3) + 1) 0 (Nat.lt_succ_self _) (Nat.zero_le _) _ _ hI ls (lv_sub hl [0, 1, 2, 3, 4] rfl)
set_option maxHeartbeats 4000000 in
set_option maxRecDepth 100000 in
theorem c_X0_hasLostItsRight (l : Launch) (D : va_G) (cI : ClassId) (h : Nat) (a : Nat → Nat) (u : cp_M) (g : Nat) (hg : g < 40) (hN2 : cp_cn u 2 40) : ∀ sz : Nat, Met l yX0_hasLostItsRight wsX0_hasLostItsRight ({ frames := 2, cells := 0, slots := 0, locals := 46 } : Room) (va_Pc [.ref h, .int (nI g)] (cp_pre D [(cI, .int)] (cp_wX cI h a u) sz)) (va_Qi (fun (r : Int32) (u1 : cp_M) => r = cp_b (cp_lost u g) ∧ u1 = u) (cp_at D [(cI, .int)] (va_A (cp_wX cI h a u) sz) (cp_wX cI h a)) (va_A (cp_wX cI h a u) sz)) 0 0 (va_A (cp_wX cI h a u) sz) := by
  refine cp_MetI (Qk := fun A => va_Qi (fun (r : Int32) (u1 : cp_M) => r = cp_b (cp_lost u g) ∧ u1 = u) (cp_at D [(cI, .int)] A (cp_wX cI h a)) A) (by decide) rfl (Nat.le_of_ble_eq_true rfl) ?_
  intro p e s m args below meth c A hC hA hK hI ls hl
  obtain ⟨hx, hb, hml, hown, hts, hr, hlocks⟩ := hC
  have hown : s.vm.findClass RX0 = some m.cls := hown
  have hl : lv_has ls 4 [(0, .ref h), (1, .int (nI g))] := hl
  have inW : ∀ w ∈ wsX00, w ∈ wsX0_hasLostItsRight := by decide +kernel
  have fl_dayOfService : Cond.fieldLink RX0 46 "CanticlePress" "dayOfService" "[I" ∈ wsX0_hasLostItsRight := by decide +kernel
  have fl_hymnOfService : Cond.fieldLink RX0 49 "CanticlePress" "hymnOfService" "[I" ∈ wsX0_hasLostItsRight := by decide +kernel
  have fl_today : Cond.fieldLink RX0 109 "CanticlePress" "today" "I" ∈ wsX0_hasLostItsRight := by decide +kernel
  refine lv_aload_n hx hb dX0_hasLostItsRight_0 rfl (lv_at hl 0 rfl) ?_
  refine cp_get (v := .ref (a 13)) hx hb hts inW hown hK hI (cp_hX _ _ _ _) rfl 17 (by decide) fl_hymnOfService rfl rfl dX0_hasLostItsRight_1 ?_
  refine lv_iload_n hx hb dX0_hasLostItsRight_4 rfl (lv_at hl 1 rfl) ?_
  refine cp_iald (f := u 13) hx hb hK hI 0 (cp_aX_13 _ _ _ _) rfl (j := g) (cp_ix_n (by omega) (by decide)) dX0_hasLostItsRight_5 ?_
  refine lv_topi (fun x6 ex6 => ?_)
  refine lv_istore_n (lv' := [(2, .int x6), (0, .ref h), (1, .int (nI g))]) hx hb dX0_hasLostItsRight_6 rfl hl (by decide) rfl (fun ls hl => ?_)
  obtain rfl := ex6
  refine lv_aload_n hx hb dX0_hasLostItsRight_7 rfl (lv_at hl 1 rfl) ?_
  refine cp_get (v := .ref (a 12)) hx hb hts inW hown hK hI (cp_hX _ _ _ _) rfl 16 (by decide) fl_dayOfService rfl rfl dX0_hasLostItsRight_8 ?_
  refine lv_iload_n hx hb dX0_hasLostItsRight_11 rfl (lv_at hl 2 rfl) ?_
  refine cp_iald (f := u 12) hx hb hK hI 0 (cp_aX_12 _ _ _ _) rfl (j := g) (cp_ix_n (by omega) (by decide)) dX0_hasLostItsRight_12 ?_
  refine lv_topi (fun x13 ex13 => ?_)
  refine lv_istore_n (lv' := [(3, .int x13), (2, .int (u 13 g)), (0, .ref h), (1, .int (nI g))]) hx hb dX0_hasLostItsRight_13 rfl hl (by decide) rfl (fun ls hl => ?_)
  obtain rfl := ex13
  refine lv_iload_n hx hb dX0_hasLostItsRight_14 rfl (lv_at hl 0 rfl) ?_
  refine lv_aload_n hx hb dX0_hasLostItsRight_15 rfl (lv_at hl 2 rfl) ?_
  refine cp_get (v := .int (u 14 0)) hx hb hts inW hown hK hI (cp_hX _ _ _ _) rfl 0 (by decide) fl_today rfl rfl dX0_hasLostItsRight_16 ?_
  refine lv_icmp_lt (tgt := 41) hx hb dX0_hasLostItsRight_19 (by decide) (fun c19 => ?_) (fun c19 => ?_)
  · refine lv_iconst (v := 0) hx hb dX0_hasLostItsRight_41 (by decide) ?_
    exact cp_retz (u := u) (v := 0) hx hb hr hlocks hK hI rfl ⟨(cp_bf (by first | exact fun h => absurd h.1 (Int32.not_le.mpr c19) | exact fun h => h.2.1 c24 | exact fun h => h.2.2 c34)).symm, rfl⟩ dX0_hasLostItsRight_42
  · refine lv_iload_n hx hb dX0_hasLostItsRight_22 rfl (lv_at hl 1 rfl) ?_
    refine lv_iconst (v := (-1)) hx hb dX0_hasLostItsRight_23 (by decide) ?_
    refine lv_icmp_eq (tgt := 41) hx hb dX0_hasLostItsRight_24 (by decide) (fun c24 => ?_) (fun c24 => ?_)
    · refine lv_iconst (v := 0) hx hb dX0_hasLostItsRight_41 (by decide) ?_
      exact cp_retz (u := u) (v := 0) hx hb hr hlocks hK hI rfl ⟨(cp_bf (by first | exact fun h => absurd h.1 (Int32.not_le.mpr c19) | exact fun h => h.2.1 c24 | exact fun h => h.2.2 c34)).symm, rfl⟩ dX0_hasLostItsRight_42
    · refine lv_aload_n hx hb dX0_hasLostItsRight_27 rfl (lv_at hl 2 rfl) ?_
      refine lv_iload_n hx hb dX0_hasLostItsRight_28 rfl (lv_at hl 1 rfl) ?_
      refine lv_iconst (v := 0) hx hb dX0_hasLostItsRight_29 (by decide) ?_
      refine lv_iload_n hx hb dX0_hasLostItsRight_30 rfl (lv_at hl 0 rfl) ?_
      refine cp_cVi0 (wc := cp_wX cI h a) (u := u) (As := [.int (u 13 g), .int 0, .int (u 12 g)]) (rest := []) ⟨hx, hb, hml, hown, hts⟩ (c_X0_isAllowed l D cI h a u (u 13 g) 0 (u 12 g) hN2) (cwV 3 hts gX0_hasLostItsRight_X0_isAllowed rfl rfl rfl (by decide +kernel) ⟨Nat.le_of_ble_eq_true rfl, Nat.le_of_ble_eq_true rfl⟩) hK hI hA ⟨_, cp_hX _ _ _ _⟩ rfl rfl rfl hl.1 rfl (Nat.le_of_ble_eq_true rfl) dX0_hasLostItsRight_31 ⟨Nat.le_of_ble_eq_true rfl, Nat.le_of_ble_eq_true rfl⟩ (fun r31 u31 H locs hp31 hI => ?_)
      obtain ⟨rfl, e9⟩ := hp31
      rw [e9] at hI
      refine lv_if_ne (tgt := 41) hx hb dX0_hasLostItsRight_34 (by decide) (fun c34 => ?_) (fun c34 => ?_)
      · have c34 := Classical.not_not.mp (fun h9 => c34 (cp_b0.mpr h9))
        refine lv_iconst (v := 0) hx hb dX0_hasLostItsRight_41 (by decide) ?_
        exact cp_retz (u := u) (v := 0) hx hb hr hlocks hK hI rfl ⟨(cp_bf (by first | exact fun h => absurd h.1 (Int32.not_le.mpr c19) | exact fun h => h.2.1 c24 | exact fun h => h.2.2 c34)).symm, rfl⟩ dX0_hasLostItsRight_42
      · have c34 := cp_b0.mp c34
        refine lv_iconst (v := 1) hx hb dX0_hasLostItsRight_37 (by decide) ?_
        refine lv_goto (tgt := 42) hx hb dX0_hasLostItsRight_38 (by decide) ?_
        exact cp_retz (u := u) (v := 1) hx hb hr hlocks hK hI rfl ⟨(cp_bt ⟨Int32.not_lt.mp c19, c24, c34⟩).symm, rfl⟩ dX0_hasLostItsRight_42
