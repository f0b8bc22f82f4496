set_option maxHeartbeats 4000000 in
set_option maxRecDepth 100000 in
theorem c_X1_isIn (l : Launch)  (x : Int32) (lo : Int32) (hi : Int32)  : ∀ (D : va_G) (sz : Nat), Met l yX1_isIn wsX1_isIn ({ frames := 0, cells := 0, slots := 0, locals := 0 } : Room) (va_Pc [.int x, .int lo, .int hi] (cp_pre D [] [] sz)) (va_Qi (fun (r : Int32) (u1 : cp_M) => r = cp_b (cp_bw x lo hi)) (cp_at D [] (va_A [] sz) (fun _ => [])) (va_A [] sz)) 0 0 (va_A [] sz) := by
  intro D
  refine cp_MetI (Qk := fun A => va_Qi (fun (r : Int32) (u1 : cp_M) => r = cp_b (cp_bw x lo hi)) (cp_at D [] A (fun _ => [])) A) (by decide) rfl (Nat.le_of_ble_eq_true rfl) ?_
  intro p e s m args below meth c A hC hA hK hI ls hl
  obtain ⟨hx, hb, hml, hown, hts, hr, hlocks⟩ := hC
  have hown : s.vm.findClass RX1 = some m.cls := hown
  have hl : lv_has ls 3 [(0, .int x), (1, .int lo), (2, .int hi)] := hl
  refine lv_iload_n hx hb dX1_isIn_0 rfl (lv_at hl 0 rfl) ?_
  refine lv_iload_n hx hb dX1_isIn_1 rfl (lv_at hl 1 rfl) ?_
  refine lv_icmp_lt (tgt := 14) hx hb dX1_isIn_2 (by decide) (fun c2 => ?_) (fun c2 => ?_)
  · refine lv_iconst (v := 0) hx hb dX1_isIn_14 (by decide) ?_
    exact cp_retz (u := (fun _ _ => 0)) (v := 0) hx hb hr hlocks hK hI rfl (cp_bf (by first | exact fun h => absurd h.1 (Int32.not_le.mpr c2) | exact fun h => absurd h.2 (Int32.not_le.mpr c7))).symm dX1_isIn_15
  · refine lv_iload_n hx hb dX1_isIn_5 rfl (lv_at hl 0 rfl) ?_
    refine lv_iload_n hx hb dX1_isIn_6 rfl (lv_at hl 2 rfl) ?_
    refine lv_icmp_gt (tgt := 14) hx hb dX1_isIn_7 (by decide) (fun c7 => ?_) (fun c7 => ?_)
    · refine lv_iconst (v := 0) hx hb dX1_isIn_14 (by decide) ?_
      exact cp_retz (u := (fun _ _ => 0)) (v := 0) hx hb hr hlocks hK hI rfl (cp_bf (by first | exact fun h => absurd h.1 (Int32.not_le.mpr c2) | exact fun h => absurd h.2 (Int32.not_le.mpr c7))).symm dX1_isIn_15
    · refine lv_iconst (v := 1) hx hb dX1_isIn_10 (by decide) ?_
      refine lv_goto (tgt := 15) hx hb dX1_isIn_11 (by decide) ?_
      exact cp_retz (u := (fun _ _ => 0)) (v := 1) hx hb hr hlocks hK hI rfl (cp_bt ⟨Int32.not_lt.mp c2, Int32.not_lt.mp c7⟩).symm dX1_isIn_15
set_option maxHeartbeats 4000000 in
set_option maxRecDepth 100000 in
theorem c_X1_isUse (l : Launch)  (x : Int32)  : ∀ (D : va_G) (sz : Nat), Met l yX1_isUse wsX1_isUse ({ frames := 1, cells := 0, slots := 0, locals := 22 } : Room) (va_Pc [.int x] (cp_pre D [] [] sz)) (va_Qi (fun (r : Int32) (u1 : cp_M) => r = cp_b (cp_bw x 0 1)) (cp_at D [] (va_A [] sz) (fun _ => [])) (va_A [] sz)) 0 0 (va_A [] sz) := by
  intro D
  refine cp_MetI (Qk := fun A => va_Qi (fun (r : Int32) (u1 : cp_M) => r = cp_b (cp_bw x 0 1)) (cp_at D [] A (fun _ => [])) A) (by decide) rfl (Nat.le_of_ble_eq_true rfl) ?_
  intro p e s m args below meth c A hC hA hK hI ls hl
  obtain ⟨hx, hb, hml, hown, hts, hr, hlocks⟩ := hC
  have hown : s.vm.findClass RX1 = some m.cls := hown
  have hl : lv_has ls 1 [(0, .int x)] := hl
  refine lv_iload_n hx hb dX1_isUse_0 rfl (lv_at hl 0 rfl) ?_
  refine lv_iconst (v := 0) hx hb dX1_isUse_1 (by decide) ?_
  refine lv_iconst (v := 1) hx hb dX1_isUse_2 (by decide) ?_
  refine cp_cSi0 (As := [.int x, .int 0, .int 1]) (rest := []) ⟨hx, hb, hml, hown, hts⟩ ((c_X1_isIn l x 0 1) D) (va_cwS 3 hts gX1_isUse_X1_isIn rfl rfl rfl (by decide +kernel) ⟨Nat.le_of_ble_eq_true rfl, Nat.le_of_ble_eq_true rfl⟩) hK hI hA rfl hl.1 rfl (Nat.le_of_ble_eq_true rfl) dX1_isUse_3 ⟨Nat.le_of_ble_eq_true rfl, Nat.le_of_ble_eq_true rfl⟩ (fun r3 u3 H locs hp3 hI => ?_)
  obtain rfl := hp3
  exact cp_retz (u := (fun _ _ => 0)) (v := (cp_b (cp_bw x 0 1))) hx hb hr hlocks hK hI (cp_bn _) rfl dX1_isUse_6
set_option maxHeartbeats 4000000 in
set_option maxRecDepth 100000 in
theorem c_X1_isDay (l : Launch)  (x : Int32)  : ∀ (D : va_G) (sz : Nat), Met l yX1_isDay wsX1_isDay ({ frames := 1, cells := 0, slots := 0, locals := 22 } : Room) (va_Pc [.int x] (cp_pre D [] [] sz)) (va_Qi (fun (r : Int32) (u1 : cp_M) => r = cp_b (cp_bw x 0 1459)) (cp_at D [] (va_A [] sz) (fun _ => [])) (va_A [] sz)) 0 0 (va_A [] sz) := by
  intro D
  refine cp_MetI (Qk := fun A => va_Qi (fun (r : Int32) (u1 : cp_M) => r = cp_b (cp_bw x 0 1459)) (cp_at D [] A (fun _ => [])) A) (by decide) rfl (Nat.le_of_ble_eq_true rfl) ?_
  intro p e s m args below meth c A hC hA hK hI ls hl
  obtain ⟨hx, hb, hml, hown, hts, hr, hlocks⟩ := hC
  have hown : s.vm.findClass RX1 = some m.cls := hown
  have hl : lv_has ls 1 [(0, .int x)] := hl
  refine lv_iload_n hx hb dX1_isDay_0 rfl (lv_at hl 0 rfl) ?_
  refine lv_iconst (v := 0) hx hb dX1_isDay_1 (by decide) ?_
  refine lv_sipush (v := 1459) hx hb dX1_isDay_2 (by decide) ?_
  refine cp_cSi0 (As := [.int x, .int 0, .int 1459]) (rest := []) ⟨hx, hb, hml, hown, hts⟩ ((c_X1_isIn l x 0 1459) D) (va_cwS 3 hts gX1_isDay_X1_isIn rfl rfl rfl (by decide +kernel) ⟨Nat.le_of_ble_eq_true rfl, Nat.le_of_ble_eq_true rfl⟩) hK hI hA rfl hl.1 rfl (Nat.le_of_ble_eq_true rfl) dX1_isDay_5 ⟨Nat.le_of_ble_eq_true rfl, Nat.le_of_ble_eq_true rfl⟩ (fun r5 u5 H locs hp5 hI => ?_)
  obtain rfl := hp5
  exact cp_retz (u := (fun _ _ => 0)) (v := (cp_b (cp_bw x 0 1459))) hx hb hr hlocks hK hI (cp_bn _) rfl dX1_isDay_8
set_option maxHeartbeats 4000000 in
set_option maxRecDepth 100000 in
theorem c_X1_isHymn (l : Launch) (D : va_G) (cI cZ : ClassId) (h : Nat) (a : Nat → Nat) (u : cp_M) (x : Int32)  : ∀ sz : Nat, Met l yX1_isHymn wsX1_isHymn ({ frames := 1, cells := 0, slots := 0, locals := 22 } : Room) (va_Pc [.ref h, .int x] (cp_pre D [(cI, .int), (cZ, .boolean)] (cp_wY cI cZ h a u) sz)) (va_Qi (fun (r : Int32) (u1 : cp_M) => r = cp_b (cp_bw x 0 (u 14 1 - 1)) ∧ u1 = u) (cp_at D [(cI, .int), (cZ, .boolean)] (va_A (cp_wY cI cZ h a u) sz) (cp_wY cI cZ h a)) (va_A (cp_wY cI cZ h a u) sz)) 0 0 (va_A (cp_wY cI cZ h a u) sz) := by
  refine cp_MetI (Qk := fun A => va_Qi (fun (r : Int32) (u1 : cp_M) => r = cp_b (cp_bw x 0 (u 14 1 - 1)) ∧ u1 = u) (cp_at D [(cI, .int), (cZ, .boolean)] A (cp_wY cI cZ h a)) A) (by decide) rfl (Nat.le_of_ble_eq_true rfl) ?_
  intro p e s m args below meth c A hC hA hK hI ls hl
  obtain ⟨hx, hb, hml, hown, hts, hr, hlocks⟩ := hC
  have hown : s.vm.findClass RX1 = some m.cls := hown
  have hl : lv_has ls 2 [(0, .ref h), (1, .int x)] := hl
  have inW : ∀ w ∈ wsX10, w ∈ wsX1_isHymn := by decide +kernel
  have fl_hymns : Cond.fieldLink RX1 57 "CanticlePressModel" "hymns" "I" ∈ wsX1_isHymn := by decide +kernel
  refine lv_iload_n hx hb dX1_isHymn_0 rfl (lv_at hl 1 rfl) ?_
  refine lv_iconst (v := 0) hx hb dX1_isHymn_1 (by decide) ?_
  refine lv_aload_n hx hb dX1_isHymn_2 rfl (lv_at hl 0 rfl) ?_
  refine cp_get (v := .int (u 14 1)) hx hb hts inW hown hK hI (cp_hY _ _ _ _ _) rfl 2 (by decide) fl_hymns rfl rfl dX1_isHymn_3 ?_
  refine lv_iconst (v := 1) hx hb dX1_isHymn_6 (by decide) ?_
  refine lv_isub hx hb dX1_isHymn_7 ?_
  refine cp_cSi0 (As := [.int x, .int 0, .int ((u 14 1) - 1)]) (rest := []) ⟨hx, hb, hml, hown, hts⟩ ((c_X1_isIn l x 0 ((u 14 1) - 1)) D) (va_cwS 3 hts gX1_isHymn_X1_isIn rfl rfl rfl (by decide +kernel) ⟨Nat.le_of_ble_eq_true rfl, Nat.le_of_ble_eq_true rfl⟩) hK hI hA rfl hl.1 rfl (Nat.le_of_ble_eq_true rfl) dX1_isHymn_8 ⟨Nat.le_of_ble_eq_true rfl, Nat.le_of_ble_eq_true rfl⟩ (fun r8 u8 H locs hp8 hI => ?_)
  obtain rfl := hp8
  exact cp_retz (u := u) (v := (cp_b (cp_bw x 0 ((u 14 1) - 1)))) hx hb hr hlocks hK hI (cp_bn _) ⟨rfl, rfl⟩ dX1_isHymn_11
set_option maxHeartbeats 4000000 in
set_option maxRecDepth 100000 in
theorem c_X1_isService (l : Launch) (D : va_G) (cI cZ : ClassId) (h : Nat) (a : Nat → Nat) (u : cp_M) (x : Int32)  : ∀ sz : Nat, Met l yX1_isService wsX1_isService ({ frames := 1, cells := 0, slots := 0, locals := 22 } : Room) (va_Pc [.ref h, .int x] (cp_pre D [(cI, .int), (cZ, .boolean)] (cp_wY cI cZ h a u) sz)) (va_Qi (fun (r : Int32) (u1 : cp_M) => r = cp_b (cp_bw x 0 (u 14 3 - 1)) ∧ u1 = u) (cp_at D [(cI, .int), (cZ, .boolean)] (va_A (cp_wY cI cZ h a u) sz) (cp_wY cI cZ h a)) (va_A (cp_wY cI cZ h a u) sz)) 0 0 (va_A (cp_wY cI cZ h a u) sz) := by
  refine cp_MetI (Qk := fun A => va_Qi (fun (r : Int32) (u1 : cp_M) => r = cp_b (cp_bw x 0 (u 14 3 - 1)) ∧ u1 = u) (cp_at D [(cI, .int), (cZ, .boolean)] A (cp_wY cI cZ h a)) A) (by decide) rfl (Nat.le_of_ble_eq_true rfl) ?_
  intro p e s m args below meth c A hC hA hK hI ls hl
  obtain ⟨hx, hb, hml, hown, hts, hr, hlocks⟩ := hC
  have hown : s.vm.findClass RX1 = some m.cls := hown
  have hl : lv_has ls 2 [(0, .ref h), (1, .int x)] := hl
  have inW : ∀ w ∈ wsX10, w ∈ wsX1_isService := by decide +kernel
  have fl_services : Cond.fieldLink RX1 92 "CanticlePressModel" "services" "I" ∈ wsX1_isService := by decide +kernel
  refine lv_iload_n hx hb dX1_isService_0 rfl (lv_at hl 1 rfl) ?_
  refine lv_iconst (v := 0) hx hb dX1_isService_1 (by decide) ?_
  refine lv_aload_n hx hb dX1_isService_2 rfl (lv_at hl 0 rfl) ?_
  refine cp_get (v := .int (u 14 3)) hx hb hts inW hown hK hI (cp_hY _ _ _ _ _) rfl 14 (by decide) fl_services rfl rfl dX1_isService_3 ?_
  refine lv_iconst (v := 1) hx hb dX1_isService_6 (by decide) ?_
  refine lv_isub hx hb dX1_isService_7 ?_
  refine cp_cSi0 (As := [.int x, .int 0, .int ((u 14 3) - 1)]) (rest := []) ⟨hx, hb, hml, hown, hts⟩ ((c_X1_isIn l x 0 ((u 14 3) - 1)) D) (va_cwS 3 hts gX1_isService_X1_isIn rfl rfl rfl (by decide +kernel) ⟨Nat.le_of_ble_eq_true rfl, Nat.le_of_ble_eq_true rfl⟩) hK hI hA rfl hl.1 rfl (Nat.le_of_ble_eq_true rfl) dX1_isService_8 ⟨Nat.le_of_ble_eq_true rfl, Nat.le_of_ble_eq_true rfl⟩ (fun r8 u8 H locs hp8 hI => ?_)
  obtain rfl := hp8
  exact cp_retz (u := u) (v := (cp_b (cp_bw x 0 ((u 14 3) - 1)))) hx hb hr hlocks hK hI (cp_bn _) ⟨rfl, rfl⟩ dX1_isService_11
set_option maxHeartbeats 4000000 in
set_option maxRecDepth 100000 in
theorem c_X1_thrown (l : Launch) (D : va_G) (cI cZ : ClassId) (h : Nat) (a : Nat → Nat) (u : cp_M)   : ∀ sz : Nat, Met l yX1_thrown wsX1_thrown ({ frames := 0, cells := 0, slots := 0, locals := 0 } : Room) (va_Pc [.ref h] (cp_pre D [(cI, .int), (cZ, .boolean)] (cp_wY cI cZ h a u) sz)) (va_Qi (fun (r : Int32) (u1 : cp_M) => r = u 14 4 ∧ u1 = u) (cp_at D [(cI, .int), (cZ, .boolean)] (va_A (cp_wY cI cZ h a u) sz) (cp_wY cI cZ h a)) (va_A (cp_wY cI cZ h a u) sz)) 0 0 (va_A (cp_wY cI cZ h a u) sz) := by
  refine cp_MetI (Qk := fun A => va_Qi (fun (r : Int32) (u1 : cp_M) => r = u 14 4 ∧ u1 = u) (cp_at D [(cI, .int), (cZ, .boolean)] A (cp_wY cI cZ h a)) A) (by decide) rfl (Nat.le_of_ble_eq_true rfl) ?_
  intro p e s m args below meth c A hC hA hK hI ls hl
  obtain ⟨hx, hb, hml, hown, hts, hr, hlocks⟩ := hC
  have hown : s.vm.findClass RX1 = some m.cls := hown
  have hl : lv_has ls 1 [(0, .ref h)] := hl
  have inW : ∀ w ∈ wsX10, w ∈ wsX1_thrown := by decide +kernel
  have fl_thrown : Cond.fieldLink RX1 53 "CanticlePressModel" "thrown" "I" ∈ wsX1_thrown := by decide +kernel
  refine lv_aload_n hx hb dX1_thrown_0 rfl (lv_at hl 0 rfl) ?_
  refine cp_get (v := .int (u 14 4)) hx hb hts inW hown hK hI (cp_hY _ _ _ _ _) rfl 0 (by decide) fl_thrown rfl rfl dX1_thrown_1 ?_
  exact cp_reti (u := u) (v := (u 14 4)) hx hb hr hlocks hK hI ⟨rfl, rfl⟩ dX1_thrown_4
set_option maxHeartbeats 4000000 in
set_option maxRecDepth 100000 in
theorem c_X1_hasRest (l : Launch) (D : va_G) (cI cZ : ClassId) (h : Nat) (a : Nat → Nat) (u : cp_M) (g : Nat) (ln : Int32) (hg : g < 16) : ∀ sz : Nat, Met l yX1_hasRest wsX1_hasRest ({ frames := 0, cells := 0, slots := 0, locals := 0 } : Room) (va_Pc [.ref h, .int (nI g), .int ln] (cp_pre D [(cI, .int), (cZ, .boolean)] (cp_wY cI cZ h a u) sz)) (va_Qi (fun (r : Int32) (u1 : cp_M) => r = cp_b (cp_bit (u 3 g) ln) ∧ u1 = u) (cp_at D [(cI, .int), (cZ, .boolean)] (va_A (cp_wY cI cZ h a u) sz) (cp_wY cI cZ h a)) (va_A (cp_wY cI cZ h a u) sz)) 0 0 (va_A (cp_wY cI cZ h a u) sz) := by
  refine cp_MetI (Qk := fun A => va_Qi (fun (r : Int32) (u1 : cp_M) => r = cp_b (cp_bit (u 3 g) ln) ∧ u1 = u) (cp_at D [(cI, .int), (cZ, .boolean)] A (cp_wY cI cZ h a)) A) (by decide) rfl (Nat.le_of_ble_eq_true rfl) ?_
  intro p e s m args below meth c A hC hA hK hI ls hl
  obtain ⟨hx, hb, hml, hown, hts, hr, hlocks⟩ := hC
  have hown : s.vm.findClass RX1 = some m.cls := hown
  have hl : lv_has ls 3 [(0, .ref h), (1, .int (nI g)), (2, .int ln)] := hl
  have inW : ∀ w ∈ wsX10, w ∈ wsX1_hasRest := by decide +kernel
  have fl_rests : Cond.fieldLink RX1 19 "CanticlePressModel" "rests" "[I" ∈ wsX1_hasRest := by decide +kernel
  refine lv_aload_n hx hb dX1_hasRest_0 rfl (lv_at hl 0 rfl) ?_
  refine cp_get (v := .ref (a 3)) hx hb hts inW hown hK hI (cp_hY _ _ _ _ _) rfl 6 (by decide) fl_rests rfl rfl dX1_hasRest_1 ?_
  refine lv_iload_n hx hb dX1_hasRest_4 rfl (lv_at hl 1 rfl) ?_
  refine cp_iald (f := u 3) hx hb hK hI 0 (cp_aY_3 _ _ _ _ _) rfl (j := g) (cp_ix_n (by omega) (by decide)) dX1_hasRest_5 ?_
  refine lv_iload_n hx hb dX1_hasRest_6 rfl (lv_at hl 2 rfl) ?_
  refine lv_ishr hx hb dX1_hasRest_7 ?_
  refine lv_iconst (v := 1) hx hb dX1_hasRest_8 (by decide) ?_
  refine lv_iand hx hb dX1_hasRest_9 ?_
  refine lv_iconst (v := 1) hx hb dX1_hasRest_10 (by decide) ?_
  refine lv_icmp_ne (tgt := 18) hx hb dX1_hasRest_11 (by decide) (fun c11 => ?_) (fun c11 => ?_)
  · refine lv_iconst (v := 0) hx hb dX1_hasRest_18 (by decide) ?_
    exact cp_retz (u := u) (v := 0) hx hb hr hlocks hK hI rfl ⟨(cp_bf c11).symm, rfl⟩ dX1_hasRest_19
  · refine lv_iconst (v := 1) hx hb dX1_hasRest_14 (by decide) ?_
    refine lv_goto (tgt := 19) hx hb dX1_hasRest_15 (by decide) ?_
    exact cp_retz (u := u) (v := 1) hx hb hr hlocks hK hI rfl ⟨(cp_bt c11).symm, rfl⟩ dX1_hasRest_19
set_option maxHeartbeats 4000000 in
set_option maxRecDepth 100000 in
theorem c_X1_nextPage (l : Launch) (D : va_G) (cI cZ : ClassId) (h : Nat) (a : Nat → Nat) (u : cp_M) (g : Nat) (st : Nat) (L : Nat) (hg : g < 16) (hL1 : u 2 g = nI L) (hL3 : L ≤ 30) (hs : st ≤ L) : ∀ sz : Nat, Met l yX1_nextPage wsX1_nextPage ({ frames := 1, cells := 0, slots := 0, locals := 22 } : Room) (va_Pc [.ref h, .int (nI g), .int (nI st)] (cp_pre D [(cI, .int), (cZ, .boolean)] (cp_wY cI cZ h a u) sz)) (va_Qi (fun (r : Int32) (u1 : cp_M) => r = nI (cp_nx (cp_qY (u 3 g)) L st) ∧ u1 = u) (cp_at D [(cI, .int), (cZ, .boolean)] (va_A (cp_wY cI cZ h a u) sz) (cp_wY cI cZ h a)) (va_A (cp_wY cI cZ h a u) sz)) 0 0 (va_A (cp_wY cI cZ h a u) sz) := by
  refine cp_MetI (Qk := fun A => va_Qi (fun (r : Int32) (u1 : cp_M) => r = nI (cp_nx (cp_qY (u 3 g)) L st) ∧ u1 = u) (cp_at D [(cI, .int), (cZ, .boolean)] A (cp_wY cI cZ h a)) A) (by decide) rfl (Nat.le_of_ble_eq_true rfl) ?_
  intro p e s m args below meth c A hC hA hK hI ls hl
  obtain ⟨hx, hb, hml, hown, hts, hr, hlocks⟩ := hC
  have hown : s.vm.findClass RX1 = some m.cls := hown
  have hl : lv_has ls 6 [(0, .ref h), (1, .int (nI g)), (2, .int (nI st))] := hl
  have inW : ∀ w ∈ wsX10, w ∈ wsX1_nextPage := by decide +kernel
  have fl_lines : Cond.fieldLink RX1 16 "CanticlePressModel" "lines" "[I" ∈ wsX1_nextPage := by decide +kernel
  refine lv_aload_n hx hb dX1_nextPage_0 rfl (lv_at hl 0 rfl) ?_
  refine cp_get (v := .ref (a 2)) hx hb hts inW hown hK hI (cp_hY _ _ _ _ _) rfl 5 (by decide) fl_lines rfl rfl dX1_nextPage_1 ?_
  refine lv_iload_n hx hb dX1_nextPage_4 rfl (lv_at hl 1 rfl) ?_
  refine cp_iald (f := u 2) hx hb hK hI 0 (cp_aY_2 _ _ _ _ _) rfl (j := g) (cp_ix_n (by omega) (by decide)) dX1_nextPage_5 ?_
  refine lv_iload_n hx hb dX1_nextPage_6 rfl (lv_at hl 2 rfl) ?_
  refine lv_isub hx hb dX1_nextPage_7 ?_
  refine lv_bipush (v := 8) hx hb dX1_nextPage_8 (by decide) ?_
  refine lv_icmp_gt (tgt := 20) hx hb dX1_nextPage_10 (by decide) (fun c10 => ?_) (fun c10 => ?_)
  · refine lv_iload_n hx hb dX1_nextPage_20 rfl (lv_at hl 2 rfl) ?_
    refine lv_bipush (v := 8) hx hb dX1_nextPage_21 (by decide) ?_
    refine lv_iadd hx hb dX1_nextPage_23 ?_
    refine lv_topi (fun x24 ex24 => ?_)
    refine lv_istore_n (lv' := [(3, .int x24), (0, .ref h), (1, .int (nI g)), (2, .int (nI st))]) hx hb dX1_nextPage_24 rfl hl (by decide) rfl (fun ls hl => ?_)
    refine lv_iload_n hx hb dX1_nextPage_25 rfl (lv_at hl 0 rfl) ?_
    refine lv_istore (lv' := [(4, .int x24), (3, .int x24), (0, .ref h), (1, .int (nI g)), (2, .int (nI st))]) hx hb dX1_nextPage_26 hl (by decide) rfl (fun ls hl => ?_)
    refine lv_iload_n hx hb dX1_nextPage_28 rfl (lv_at hl 4 rfl) ?_
    refine lv_istore (lv' := [(5, .int (nI st)), (4, .int x24), (3, .int x24), (0, .ref h), (1, .int (nI g)), (2, .int (nI st))]) hx hb dX1_nextPage_29 hl (by decide) rfl (fun ls hl => ?_)
    have L31 : ∀ (n9 : Nat) (i : Nat) (hm9 : 8 - i < n9) (hi : i ≤ 8), ∀ (H : Heap) (locs : List Loc), cp_I D (cp_wY cI cZ h a u) A s.heap H locs → ∀ ls, lv_has ls 6 [(5, .int (nI (st + i))), (4, .int (nI (cp_ll (cp_qY (u 3 g)) st i + 1))), (3, .int (nI st + 8)), (0, .ref h), (1, .int (nI g)), (2, .int (nI st))] → W p l e ({ frames := 1, cells := 0, slots := 0, locals := 22 } : Room) s m args below meth c H locs 0 0 (MQ below (va_Qi (fun (r : Int32) (u1 : cp_M) => r = nI (cp_nx (cp_qY (u 3 g)) L st) ∧ u1 = u) (cp_at D [(cI, .int), (cZ, .boolean)] A (cp_wY cI cZ h a)) A) args s 0 0 A) (F0 m 31 ls []) := by
      intro n9
      induction n9 with
      | zero => intro i hm9; omega
      | succ n9 ih =>
        intro i hm9 hi H locs hI ls hl
        refine lv_iload hx hb dX1_nextPage_31 (lv_at hl 0 rfl) ?_
        refine lv_iload_n hx hb dX1_nextPage_33 rfl (lv_at hl 2 rfl) ?_
        refine lv_icmp_ge (tgt := 64) hx hb dX1_nextPage_34 (by decide) (fun c34 => ?_) (fun c34 => ?_)
        · have h0 : i = 8 := by rw [show nI st + 8 = nI (st + 8) from nI_add st 8, nI_leI (by omega) (by omega)] at c34; omega
          refine lv_iload hx hb dX1_nextPage_64 (lv_at hl 1 rfl) ?_
          have h8 : st + 8 < L := by rw [hL1, pk_sub hs, show (8 : Int32) = nI 8 from rfl, nI_ltI (by omega) (by omega)] at c10; omega
          exact cp_reti (u := u) (v := (nI (cp_ll (cp_qY (u 3 g)) st i + 1))) hx hb hr hlocks hK hI ⟨by unfold cp_nx; rw [if_pos h8, h0], rfl⟩ dX1_nextPage_66
        · have h0 : i < 8 := by rw [show nI st + 8 = nI (st + 8) from nI_add st 8, nI_leI (by omega) (by omega)] at c34; omega
          refine lv_aload_n hx hb dX1_nextPage_37 rfl (lv_at hl 3 rfl) ?_
          refine lv_iload_n hx hb dX1_nextPage_38 rfl (lv_at hl 4 rfl) ?_
          refine lv_iload hx hb dX1_nextPage_39 (lv_at hl 0 rfl) ?_
          refine cp_cVi0 (wc := cp_wY cI cZ h a) (u := u) (As := [.int (nI g), .int (nI (st + i))]) (rest := []) ⟨hx, hb, hml, hown, hts⟩ (c_X1_hasRest l D cI cZ h a u g (nI (st + i)) (by omega)) (cwV 2 hts gX1_nextPage_X1_hasRest rfl rfl rfl (by decide +kernel) ⟨Nat.le_of_ble_eq_true rfl, Nat.le_of_ble_eq_true rfl⟩) hK hI hA ⟨_, cp_hY _ _ _ _ _⟩ rfl rfl rfl hl.1 rfl (Nat.le_of_ble_eq_true rfl) dX1_nextPage_41 ⟨Nat.le_of_ble_eq_true rfl, Nat.le_of_ble_eq_true rfl⟩ (fun r41 u41 H locs hp41 hI => ?_)
          obtain ⟨rfl, e9⟩ := hp41
          rw [e9] at hI
          refine lv_if_eq (tgt := 54) hx hb dX1_nextPage_44 (by decide) (fun c44 => ?_) (fun c44 => ?_)
          · have c44 := cp_b0.mp c44
            refine lv_iload hx hb dX1_nextPage_54 (lv_at hl 1 rfl) ?_
            refine lv_topi (fun x56 ex56 => ?_)
            refine lv_istore (lv' := [(4, .int x56), (5, .int (nI (st + i))), (3, .int (nI st + 8)), (0, .ref h), (1, .int (nI g)), (2, .int (nI st))]) hx hb dX1_nextPage_56 hl (by decide) rfl (fun ls hl => ?_)
            obtain ⟨x58, ex58⟩ : ∃ y9 : Int32, y9 = (nI (st + i)) + 1 := ⟨_, rfl⟩
            refine lv_iinc (v := x58) (lv' := [(5, .int x58), (4, .int x56), (3, .int (nI st + 8)), (0, .ref h), (1, .int (nI g)), (2, .int (nI st))]) hx hb dX1_nextPage_58 hl (k := 1) rfl (by rw [ex58]; rfl) (by decide) rfl (fun ls hl => ?_)
            refine lv_goto (tgt := 31) hx hb dX1_nextPage_61 (by decide) ?_
            obtain rfl : x56 = nI (cp_ll (cp_qY (u 3 g)) st (i + 1) + 1) := by first | (rw [ex56, cp_ll_t (q := cp_qY (u 3 g)) c44]; exact nI_1 _) | rw [ex56, cp_ll_f (q := cp_qY (u 3 g)) c44]
            obtain rfl : x58 = nI (st + (i + 1)) := by rw [ex58]; exact nI_1 _
            exact ih (i + 1) (by omega) (by omega) _ _ hI ls (lv_sub hl [0, 1, 2, 3, 4, 5] rfl)
          · have c44 := Classical.not_not.mp (fun h9 => c44 (cp_b0.mpr h9))
            refine lv_iload hx hb dX1_nextPage_47 (lv_at hl 0 rfl) ?_
            refine lv_iconst (v := 1) hx hb dX1_nextPage_49 (by decide) ?_
            refine lv_iadd hx hb dX1_nextPage_50 ?_
            refine lv_goto (tgt := 56) hx hb dX1_nextPage_51 (by decide) ?_
            refine lv_topi (fun x56 ex56 => ?_)
            refine lv_istore (lv' := [(4, .int x56), (5, .int (nI (st + i))), (3, .int (nI st + 8)), (0, .ref h), (1, .int (nI g)), (2, .int (nI st))]) hx hb dX1_nextPage_56 hl (by decide) rfl (fun ls hl => ?_)
            obtain ⟨x58, ex58⟩ : ∃ y9 : Int32, y9 = (nI (st + i)) + 1 := ⟨_, rfl⟩
            refine lv_iinc (v := x58) (lv' := [(5, .int x58), (4, .int x56), (3, .int (nI st + 8)), (0, .ref h), (1, .int (nI g)), (2, .int (nI st))]) hx hb dX1_nextPage_58 hl (k := 1) rfl (by rw [ex58]; rfl) (by decide) rfl (fun ls hl => ?_)
            refine lv_goto (tgt := 31) hx hb dX1_nextPage_61 (by decide) ?_
            obtain rfl : x56 = nI (cp_ll (cp_qY (u 3 g)) st (i + 1) + 1) := by first | (rw [ex56, cp_ll_t (q := cp_qY (u 3 g)) c44]; exact nI_1 _) | rw [ex56, cp_ll_f (q := cp_qY (u 3 g)) c44]
            obtain rfl : x58 = nI (st + (i + 1)) := by rw [ex58]; exact nI_1 _
            exact ih (i + 1) (by omega) (by omega) _ _ hI ls (lv_sub hl [0, 1, 2, 3, 4, 5] rfl)
    obtain rfl := ex24
    have hl : lv_has ls 6 [(5, .int (nI (st + 0))), (4, .int (nI (cp_ll (cp_qY (u 3 g)) st 0 + 1))), (3, .int (nI st + 8)), (0, .ref h), (1, .int (nI g)), (2, .int (nI st))] := by rw [show nI (cp_ll (cp_qY (u 3 g)) st 0 + 1) = nI st + 8 from (nI_add st 8).symm]; exact hl
    exact L31 (8 + 1) 0 (Nat.lt_succ_self _) (Nat.zero_le _) _ _ hI ls (lv_sub hl [0, 1, 2, 3, 4, 5] rfl)
  · have h8 : ¬ st + 8 < L := by rw [hL1, pk_sub hs, show (8 : Int32) = nI 8 from rfl, nI_ltI (by omega) (by omega)] at c10; omega
    refine lv_aload_n hx hb dX1_nextPage_13 rfl (lv_at hl 0 rfl) ?_
    refine cp_get (v := .ref (a 2)) hx hb hts inW hown hK hI (cp_hY _ _ _ _ _) rfl 5 (by decide) fl_lines rfl rfl dX1_nextPage_14 ?_
    refine lv_iload_n hx hb dX1_nextPage_17 rfl (lv_at hl 1 rfl) ?_
    refine cp_iald (f := u 2) hx hb hK hI 0 (cp_aY_2 _ _ _ _ _) rfl (j := g) (cp_ix_n (by omega) (by decide)) dX1_nextPage_18 ?_
    exact cp_reti (u := u) (v := (u 2 g)) hx hb hr hlocks hK hI ⟨by unfold cp_nx; rw [if_neg h8]; exact hL1, rfl⟩ dX1_nextPage_19
set_option maxHeartbeats 4000000 in
set_option maxRecDepth 100000 in
theorem c_X1_pagesOf (l : Launch) (D : va_G) (cI cZ : ClassId) (h : Nat) (a : Nat → Nat) (u : cp_M) (g : Nat) (L : Nat) (hg : g < 16) (hL1 : u 2 g = nI L) (hL3 : L ≤ 30) : ∀ sz : Nat, Met l yX1_pagesOf wsX1_pagesOf ({ frames := 2, cells := 0, slots := 0, locals := 47 } : Room) (va_Pc [.ref h, .int (nI g)] (cp_pre D [(cI, .int), (cZ, .boolean)] (cp_wY cI cZ h a u) sz)) (va_Qi (fun (r : Int32) (u1 : cp_M) => (∃ i, i ≤ 30 ∧ r = nI i ∧ L ≤ cp_st (cp_qY (u 3 g)) L i ∧ ∀ j, j < i → cp_st (cp_qY (u 3 g)) L j < L) ∧ u1 = u) (cp_at D [(cI, .int), (cZ, .boolean)] (va_A (cp_wY cI cZ h a u) sz) (cp_wY cI cZ h a)) (va_A (cp_wY cI cZ h a u) sz)) 0 0 (va_A (cp_wY cI cZ h a u) sz) := by
  refine cp_MetI (Qk := fun A => va_Qi (fun (r : Int32) (u1 : cp_M) => (∃ i, i ≤ 30 ∧ r = nI i ∧ L ≤ cp_st (cp_qY (u 3 g)) L i ∧ ∀ j, j < i → cp_st (cp_qY (u 3 g)) L j < L) ∧ u1 = u) (cp_at D [(cI, .int), (cZ, .boolean)] A (cp_wY cI cZ h a)) A) (by decide) rfl (Nat.le_of_ble_eq_true rfl) ?_
  intro p e s m args below meth c A hC hA hK hI ls hl
  obtain ⟨hx, hb, hml, hown, hts, hr, hlocks⟩ := hC
  have hown : s.vm.findClass RX1 = some m.cls := hown
  have hl : lv_has ls 4 [(0, .ref h), (1, .int (nI g))] := hl
  have inW : ∀ w ∈ wsX10, w ∈ wsX1_pagesOf := by decide +kernel
  have fl_lines : Cond.fieldLink RX1 16 "CanticlePressModel" "lines" "[I" ∈ wsX1_pagesOf := by decide +kernel
  refine lv_iconst (v := 0) hx hb dX1_pagesOf_0 (by decide) ?_
  refine lv_istore_n (lv' := [(2, .int 0), (0, .ref h), (1, .int (nI g))]) hx hb dX1_pagesOf_1 rfl hl (by decide) rfl (fun ls hl => ?_)
  refine lv_iconst (v := 0) hx hb dX1_pagesOf_2 (by decide) ?_
  refine lv_istore_n (lv' := [(3, .int 0), (2, .int 0), (0, .ref h), (1, .int (nI g))]) hx hb dX1_pagesOf_3 rfl hl (by decide) rfl (fun ls hl => ?_)
  have L4 : ∀ (n9 : Nat) (i : Nat) (hm9 : L - (cp_st (cp_qY (u 3 g)) L i) < n9) (hi : ∀ j, j < i → cp_st (cp_qY (u 3 g)) L j < L), ∀ (H : Heap) (locs : List Loc), cp_I D (cp_wY cI cZ h a u) A s.heap H locs → ∀ ls, lv_has ls 4 [(3, .int (nI (cp_st (cp_qY (u 3 g)) L i))), (2, .int (nI i)), (0, .ref h), (1, .int (nI g))] → W p l e ({ frames := 2, cells := 0, slots := 0, locals := 47 } : Room) s m args below meth c H locs 0 0 (MQ below (va_Qi (fun (r : Int32) (u1 : cp_M) => (∃ i, i ≤ 30 ∧ r = nI i ∧ L ≤ cp_st (cp_qY (u 3 g)) L i ∧ ∀ j, j < i → cp_st (cp_qY (u 3 g)) L j < L) ∧ u1 = u) (cp_at D [(cI, .int), (cZ, .boolean)] A (cp_wY cI cZ h a)) A) args s 0 0 A) (F0 m 4 ls []) := by
    intro n9
    induction n9 with
    | zero => intro i hm9; omega
    | succ n9 ih =>
      intro i hm9 hi H locs hI ls hl
      have hge := cp_st_ge (cp_qY (u 3 g)) L i hi
      refine lv_iload_n hx hb dX1_pagesOf_4 rfl (lv_at hl 0 rfl) ?_
      refine lv_aload_n hx hb dX1_pagesOf_5 rfl (lv_at hl 2 rfl) ?_
      refine cp_get (v := .ref (a 2)) hx hb hts inW hown hK hI (cp_hY _ _ _ _ _) rfl 5 (by decide) fl_lines rfl rfl dX1_pagesOf_6 ?_
      refine lv_iload_n hx hb dX1_pagesOf_9 rfl (lv_at hl 3 rfl) ?_
      refine cp_iald (f := u 2) hx hb hK hI 0 (cp_aY_2 _ _ _ _ _) rfl (j := g) (cp_ix_n (by omega) (by decide)) dX1_pagesOf_10 ?_
      refine lv_icmp_ge (tgt := 27) hx hb dX1_pagesOf_11 (by decide) (fun c11 => ?_) (fun c11 => ?_)
      · have hlt : L ≤ (cp_st (cp_qY (u 3 g)) L i) := by rw [hL1, nI_leI (by omega) (by omega)] at c11; exact c11
        refine lv_iload_n hx hb dX1_pagesOf_27 rfl (lv_at hl 1 rfl) ?_
        exact cp_reti (u := u) (v := (nI i)) hx hb hr hlocks hK hI ⟨⟨i, by omega, rfl, hlt, hi⟩, rfl⟩ dX1_pagesOf_28
      · have hlt : (cp_st (cp_qY (u 3 g)) L i) < L := by rw [hL1, nI_leI (by omega) (by omega)] at c11; omega
        obtain ⟨x14, ex14⟩ : ∃ y9 : Int32, y9 = (nI i) + 1 := ⟨_, rfl⟩
        refine lv_iinc (v := x14) (lv' := [(2, .int x14), (3, .int (nI (cp_st (cp_qY (u 3 g)) L i))), (0, .ref h), (1, .int (nI g))]) hx hb dX1_pagesOf_14 hl (k := 1) rfl (by rw [ex14]; rfl) (by decide) rfl (fun ls hl => ?_)
        refine lv_aload_n hx hb dX1_pagesOf_17 rfl (lv_at hl 2 rfl) ?_
        refine lv_iload_n hx hb dX1_pagesOf_18 rfl (lv_at hl 3 rfl) ?_
        refine lv_iload_n hx hb dX1_pagesOf_19 rfl (lv_at hl 1 rfl) ?_
        refine cp_cVi0 (wc := cp_wY cI cZ h a) (u := u) (As := [.int (nI g), .int (nI (cp_st (cp_qY (u 3 g)) L i))]) (rest := []) ⟨hx, hb, hml, hown, hts⟩ (c_X1_nextPage l D cI cZ h a u g (cp_st (cp_qY (u 3 g)) L i) L (by omega) hL1 hL3 (by omega)) (cwV 2 hts gX1_pagesOf_X1_nextPage rfl rfl rfl (by decide +kernel) ⟨Nat.le_of_ble_eq_true rfl, Nat.le_of_ble_eq_true rfl⟩) hK hI hA ⟨_, cp_hY _ _ _ _ _⟩ rfl rfl rfl hl.1 rfl (Nat.le_of_ble_eq_true rfl) dX1_pagesOf_20 ⟨Nat.le_of_ble_eq_true rfl, Nat.le_of_ble_eq_true rfl⟩ (fun r20 u20 H locs hp20 hI => ?_)
        obtain ⟨rfl, e9⟩ := hp20
        rw [e9] at hI
        refine lv_topi (fun x23 ex23 => ?_)
        refine lv_istore_n (lv' := [(3, .int x23), (2, .int x14), (0, .ref h), (1, .int (nI g))]) hx hb dX1_pagesOf_23 rfl hl (by decide) rfl (fun ls hl => ?_)
        refine lv_goto (tgt := 4) hx hb dX1_pagesOf_24 (by decide) ?_
        obtain rfl : x14 = nI (i + 1) := by rw [ex14]; exact nI_1 _
        obtain rfl : x23 = nI (cp_st (cp_qY (u 3 g)) L (i + 1)) := ex23
        exact ih (i + 1) (by have h7 := cp_nx_gt (cp_qY (u 3 g)) hlt; show L - cp_nx (cp_qY (u 3 g)) L (cp_st (cp_qY (u 3 g)) L i) < n9; omega) (fun j hj => by rcases Nat.lt_or_ge j i with q | q; exact hi j q; obtain rfl : j = i := (by omega); exact hlt) _ _ hI ls (lv_sub hl [0, 1, 2, 3] rfl)
  exact L4 (L + 1) 0 (Nat.lt_succ_self _) (fun j hj => absurd hj (Nat.not_lt_zero j)) _ _ hI ls (lv_sub hl [0, 1, 2, 3] rfl)
set_option maxHeartbeats 4000000 in
set_option maxRecDepth 100000 in
theorem c_X1_may (l : Launch) (D : va_G) (cI cZ : ClassId) (h : Nat) (a : Nat → Nat) (u : cp_M) (x : Int32) (y : Int32) (z : Int32) (hN2 : cp_cn u 2 40) : ∀ sz : Nat, Met l yX1_may wsX1_may ({ frames := 1, cells := 0, slots := 0, locals := 22 } : Room) (va_Pc [.ref h, .int x, .int y, .int z] (cp_pre D [(cI, .int), (cZ, .boolean)] (cp_wY cI cZ h a u) sz)) (va_Qi (fun (r : Int32) (u1 : cp_M) => r = cp_b (cp_may u x y z) ∧ u1 = u) (cp_at D [(cI, .int), (cZ, .boolean)] (va_A (cp_wY cI cZ h a u) sz) (cp_wY cI cZ h a)) (va_A (cp_wY cI cZ h a u) sz)) 0 0 (va_A (cp_wY cI cZ h a u) sz) := by
  refine cp_MetI (Qk := fun A => va_Qi (fun (r : Int32) (u1 : cp_M) => r = cp_b (cp_may u x y z) ∧ u1 = u) (cp_at D [(cI, .int), (cZ, .boolean)] A (cp_wY cI cZ h a)) A) (by decide) rfl (Nat.le_of_ble_eq_true rfl) ?_
  intro p e s m args below meth c A hC hA hK hI ls hl
  obtain ⟨hx, hb, hml, hown, hts, hr, hlocks⟩ := hC
  have hown : s.vm.findClass RX1 = some m.cls := hown
  have hl : lv_has ls 6 [(0, .ref h), (1, .int x), (2, .int y), (3, .int z)] := hl
  have inW : ∀ w ∈ wsX10, w ∈ wsX1_may := by decide +kernel
  have fl_first : Cond.fieldLink RX1 31 "CanticlePressModel" "first" "[I" ∈ wsX1_may := by decide +kernel
  have fl_last : Cond.fieldLink RX1 34 "CanticlePressModel" "last" "[I" ∈ wsX1_may := by decide +kernel
  have fl_rightHymn : Cond.fieldLink RX1 25 "CanticlePressModel" "rightHymn" "[I" ∈ wsX1_may := by decide +kernel
  have fl_rightUse : Cond.fieldLink RX1 28 "CanticlePressModel" "rightUse" "[I" ∈ wsX1_may := by decide +kernel
  have fl_rights : Cond.fieldLink RX1 86 "CanticlePressModel" "rights" "I" ∈ wsX1_may := by decide +kernel
  refine lv_iconst (v := 0) hx hb dX1_may_0 (by decide) ?_
  refine lv_istore (lv' := [(4, .int 0), (0, .ref h), (1, .int x), (2, .int y), (3, .int z)]) hx hb dX1_may_1 hl (by decide) rfl (fun ls hl => ?_)
  refine lv_iconst (v := 0) hx hb dX1_may_3 (by decide) ?_
  refine lv_istore (lv' := [(5, .int 0), (4, .int 0), (0, .ref h), (1, .int x), (2, .int y), (3, .int z)]) hx hb dX1_may_4 hl (by decide) rfl (fun ls hl => ?_)
  have L6 : ∀ (n9 : Nat) (k : Nat) (hm9 : cp_n u 2 - k < n9) (hk : k ≤ cp_n u 2), ∀ (H : Heap) (locs : List Loc), cp_I D (cp_wY cI cZ h a u) A s.heap H locs → ∀ ls, lv_has ls 6 [(5, .int (nI k)), (4, .int (cp_b (cp_mayK u k x y z))), (0, .ref h), (1, .int x), (2, .int y), (3, .int z)] → W p l e ({ frames := 1, cells := 0, slots := 0, locals := 22 } : Room) s m args below meth c H locs 0 0 (MQ below (va_Qi (fun (r : Int32) (u1 : cp_M) => r = cp_b (cp_may u x y z) ∧ u1 = u) (cp_at D [(cI, .int), (cZ, .boolean)] A (cp_wY cI cZ h a)) A) args s 0 0 A) (F0 m 6 ls []) := by
    intro n9
    induction n9 with
    | zero => intro k hm9; omega
    | succ n9 ih =>
      intro k hm9 hk H locs hI ls hl
      have hN9 := hN2.2.1
      refine lv_iload hx hb dX1_may_6 (lv_at hl 0 rfl) ?_
      refine lv_aload_n hx hb dX1_may_8 rfl (lv_at hl 2 rfl) ?_
      refine cp_get (v := .int (u 14 2)) hx hb hts inW hown hK hI (cp_hY _ _ _ _ _) rfl 8 (by decide) fl_rights rfl rfl dX1_may_9 ?_
      refine lv_icmp_ge (tgt := 76) hx hb dX1_may_12 (by decide) (fun c12 => ?_) (fun c12 => ?_)
      · have hk2 := cp_ex hN2 hk c12
        refine lv_iload hx hb dX1_may_76 (lv_at hl 1 rfl) ?_
        exact cp_retz (u := u) (v := (cp_b (cp_mayK u k x y z))) hx hb hr hlocks hK hI (cp_bn _) ⟨by rw [hk2]; rfl, rfl⟩ dX1_may_78
      · have hk2 := cp_in hN2 (by omega) c12
        refine lv_iload hx hb dX1_may_15 (lv_at hl 1 rfl) ?_
        refine lv_if_ne (tgt := 63) hx hb dX1_may_17 (by decide) (fun c17 => ?_) (fun c17 => ?_)
        · have c17 := Classical.not_not.mp (fun h9 => c17 (cp_b0.mpr h9))
          refine lv_iconst (v := 1) hx hb dX1_may_63 (by decide) ?_
          refine lv_goto (tgt := 68) hx hb dX1_may_64 (by decide) ?_
          refine lv_istore (lv' := [(4, .int 1), (5, .int (nI k)), (0, .ref h), (1, .int x), (2, .int y), (3, .int z)]) hx hb dX1_may_68 hl (by decide) rfl (fun ls hl => ?_)
          obtain ⟨x70, ex70⟩ : ∃ y9 : Int32, y9 = (nI k) + 1 := ⟨_, rfl⟩
          refine lv_iinc (v := x70) (lv' := [(5, .int x70), (4, .int 1), (0, .ref h), (1, .int x), (2, .int y), (3, .int z)]) hx hb dX1_may_70 hl (k := 1) rfl (by rw [ex70]; rfl) (by decide) rfl (fun ls hl => ?_)
          refine lv_goto (tgt := 6) hx hb dX1_may_73 (by decide) ?_
          have hl : lv_has ls 6 [(5, .int x70), (4, .int (cp_b (cp_mayK u (k + 1) x y z))), (0, .ref h), (1, .int x), (2, .int y), (3, .int z)] := by rw [cp_bt (by first | exact cp_mayK_l c17 | exact ⟨k, by omega, c28, c39, c60⟩)]; exact hl
          obtain rfl : x70 = nI (k + 1) := by rw [ex70]; exact nI_1 k
          exact ih (k + 1) (by omega) (by omega) _ _ hI ls (lv_sub hl [0, 1, 2, 3, 4, 5] rfl)
        · have c17 := cp_b0.mp c17
          refine lv_aload_n hx hb dX1_may_20 rfl (lv_at hl 2 rfl) ?_
          refine cp_get (v := .ref (a 7)) hx hb hts inW hown hK hI (cp_hY _ _ _ _ _) rfl 9 (by decide) fl_rightHymn rfl rfl dX1_may_21 ?_
          refine lv_iload hx hb dX1_may_24 (lv_at hl 0 rfl) ?_
          refine cp_iald (f := u 7) hx hb hK hI 0 (cp_aY_7 _ _ _ _ _) rfl (j := k) (cp_ix_n (by omega) (by decide)) dX1_may_26 ?_
          refine lv_iload_n hx hb dX1_may_27 rfl (lv_at hl 3 rfl) ?_
          refine lv_icmp_ne (tgt := 67) hx hb dX1_may_28 (by decide) (fun c28 => ?_) (fun c28 => ?_)
          · refine lv_iconst (v := 0) hx hb dX1_may_67 (by decide) ?_
            refine lv_istore (lv' := [(4, .int 0), (5, .int (nI k)), (0, .ref h), (1, .int x), (2, .int y), (3, .int z)]) hx hb dX1_may_68 hl (by decide) rfl (fun ls hl => ?_)
            obtain ⟨x70, ex70⟩ : ∃ y9 : Int32, y9 = (nI k) + 1 := ⟨_, rfl⟩
            refine lv_iinc (v := x70) (lv' := [(5, .int x70), (4, .int 0), (0, .ref h), (1, .int x), (2, .int y), (3, .int z)]) hx hb dX1_may_70 hl (k := 1) rfl (by rw [ex70]; rfl) (by decide) rfl (fun ls hl => ?_)
            refine lv_goto (tgt := 6) hx hb dX1_may_73 (by decide) ?_
            have hl : lv_has ls 6 [(5, .int x70), (4, .int (cp_b (cp_mayK u (k + 1) x y z))), (0, .ref h), (1, .int x), (2, .int y), (3, .int z)] := by rw [cp_bf (cp_mayK_n c17 (by first | exact fun h => c28 h.1 | exact fun h => c39 h.2.1 | exact fun h => c60 h.2.2))]; exact hl
            obtain rfl : x70 = nI (k + 1) := by rw [ex70]; exact nI_1 k
            exact ih (k + 1) (by omega) (by omega) _ _ hI ls (lv_sub hl [0, 1, 2, 3, 4, 5] rfl)
          · refine lv_aload_n hx hb dX1_may_31 rfl (lv_at hl 2 rfl) ?_
            refine cp_get (v := .ref (a 8)) hx hb hts inW hown hK hI (cp_hY _ _ _ _ _) rfl 10 (by decide) fl_rightUse rfl rfl dX1_may_32 ?_
            refine lv_iload hx hb dX1_may_35 (lv_at hl 0 rfl) ?_
            refine cp_iald (f := u 8) hx hb hK hI 0 (cp_aY_8 _ _ _ _ _) rfl (j := k) (cp_ix_n (by omega) (by decide)) dX1_may_37 ?_
            refine lv_iload_n hx hb dX1_may_38 rfl (lv_at hl 4 rfl) ?_
            refine lv_icmp_ne (tgt := 67) hx hb dX1_may_39 (by decide) (fun c39 => ?_) (fun c39 => ?_)
            · refine lv_iconst (v := 0) hx hb dX1_may_67 (by decide) ?_
              refine lv_istore (lv' := [(4, .int 0), (5, .int (nI k)), (0, .ref h), (1, .int x), (2, .int y), (3, .int z)]) hx hb dX1_may_68 hl (by decide) rfl (fun ls hl => ?_)
              obtain ⟨x70, ex70⟩ : ∃ y9 : Int32, y9 = (nI k) + 1 := ⟨_, rfl⟩
              refine lv_iinc (v := x70) (lv' := [(5, .int x70), (4, .int 0), (0, .ref h), (1, .int x), (2, .int y), (3, .int z)]) hx hb dX1_may_70 hl (k := 1) rfl (by rw [ex70]; rfl) (by decide) rfl (fun ls hl => ?_)
              refine lv_goto (tgt := 6) hx hb dX1_may_73 (by decide) ?_
              have hl : lv_has ls 6 [(5, .int x70), (4, .int (cp_b (cp_mayK u (k + 1) x y z))), (0, .ref h), (1, .int x), (2, .int y), (3, .int z)] := by rw [cp_bf (cp_mayK_n c17 (by first | exact fun h => c28 h.1 | exact fun h => c39 h.2.1 | exact fun h => c60 h.2.2))]; exact hl
              obtain rfl : x70 = nI (k + 1) := by rw [ex70]; exact nI_1 k
              exact ih (k + 1) (by omega) (by omega) _ _ hI ls (lv_sub hl [0, 1, 2, 3, 4, 5] rfl)
            · refine lv_iload_n hx hb dX1_may_42 rfl (lv_at hl 5 rfl) ?_
              refine lv_aload_n hx hb dX1_may_43 rfl (lv_at hl 2 rfl) ?_
              refine cp_get (v := .ref (a 9)) hx hb hts inW hown hK hI (cp_hY _ _ _ _ _) rfl 11 (by decide) fl_first rfl rfl dX1_may_44 ?_
              refine lv_iload hx hb dX1_may_47 (lv_at hl 0 rfl) ?_
              refine cp_iald (f := u 9) hx hb hK hI 0 (cp_aY_9 _ _ _ _ _) rfl (j := k) (cp_ix_n (by omega) (by decide)) dX1_may_49 ?_
              refine lv_aload_n hx hb dX1_may_50 rfl (lv_at hl 2 rfl) ?_
              refine cp_get (v := .ref (a 10)) hx hb hts inW hown hK hI (cp_hY _ _ _ _ _) rfl 12 (by decide) fl_last rfl rfl dX1_may_51 ?_
              refine lv_iload hx hb dX1_may_54 (lv_at hl 0 rfl) ?_
              refine cp_iald (f := u 10) hx hb hK hI 0 (cp_aY_10 _ _ _ _ _) rfl (j := k) (cp_ix_n (by omega) (by decide)) dX1_may_56 ?_
              refine cp_cSi0 (As := [.int z, .int (u 9 k), .int (u 10 k)]) (rest := []) ⟨hx, hb, hml, hown, hts⟩ ((c_X1_isIn l z (u 9 k) (u 10 k)) D) (va_cwS 3 hts gX1_may_X1_isIn rfl rfl rfl (by decide +kernel) ⟨Nat.le_of_ble_eq_true rfl, Nat.le_of_ble_eq_true rfl⟩) hK hI hA rfl hl.1 rfl (Nat.le_of_ble_eq_true rfl) dX1_may_57 ⟨Nat.le_of_ble_eq_true rfl, Nat.le_of_ble_eq_true rfl⟩ (fun r57 u57 H locs hp57 hI => ?_)
              obtain rfl := hp57
              refine lv_if_eq (tgt := 67) hx hb dX1_may_60 (by decide) (fun c60 => ?_) (fun c60 => ?_)
              · have c60 := cp_b0.mp c60
                refine lv_iconst (v := 0) hx hb dX1_may_67 (by decide) ?_
                refine lv_istore (lv' := [(4, .int 0), (5, .int (nI k)), (0, .ref h), (1, .int x), (2, .int y), (3, .int z)]) hx hb dX1_may_68 hl (by decide) rfl (fun ls hl => ?_)
                obtain ⟨x70, ex70⟩ : ∃ y9 : Int32, y9 = (nI k) + 1 := ⟨_, rfl⟩
                refine lv_iinc (v := x70) (lv' := [(5, .int x70), (4, .int 0), (0, .ref h), (1, .int x), (2, .int y), (3, .int z)]) hx hb dX1_may_70 hl (k := 1) rfl (by rw [ex70]; rfl) (by decide) rfl (fun ls hl => ?_)
                refine lv_goto (tgt := 6) hx hb dX1_may_73 (by decide) ?_
                have hl : lv_has ls 6 [(5, .int x70), (4, .int (cp_b (cp_mayK u (k + 1) x y z))), (0, .ref h), (1, .int x), (2, .int y), (3, .int z)] := by rw [cp_bf (cp_mayK_n c17 (by first | exact fun h => c28 h.1 | exact fun h => c39 h.2.1 | exact fun h => c60 h.2.2))]; exact hl
                obtain rfl : x70 = nI (k + 1) := by rw [ex70]; exact nI_1 k
                exact ih (k + 1) (by omega) (by omega) _ _ hI ls (lv_sub hl [0, 1, 2, 3, 4, 5] rfl)
              · have c60 := Classical.not_not.mp (fun h9 => c60 (cp_b0.mpr h9))
                refine lv_iconst (v := 1) hx hb dX1_may_63 (by decide) ?_
                refine lv_goto (tgt := 68) hx hb dX1_may_64 (by decide) ?_
                refine lv_istore (lv' := [(4, .int 1), (5, .int (nI k)), (0, .ref h), (1, .int x), (2, .int y), (3, .int z)]) hx hb dX1_may_68 hl (by decide) rfl (fun ls hl => ?_)
                obtain ⟨x70, ex70⟩ : ∃ y9 : Int32, y9 = (nI k) + 1 := ⟨_, rfl⟩
                refine lv_iinc (v := x70) (lv' := [(5, .int x70), (4, .int 1), (0, .ref h), (1, .int x), (2, .int y), (3, .int z)]) hx hb dX1_may_70 hl (k := 1) rfl (by rw [ex70]; rfl) (by decide) rfl (fun ls hl => ?_)
                refine lv_goto (tgt := 6) hx hb dX1_may_73 (by decide) ?_
                have hl : lv_has ls 6 [(5, .int x70), (4, .int (cp_b (cp_mayK u (k + 1) x y z))), (0, .ref h), (1, .int x), (2, .int y), (3, .int z)] := by rw [cp_bt (by first | exact cp_mayK_l c17 | exact ⟨k, by omega, c28, c39, c60⟩)]; exact hl
                obtain rfl : x70 = nI (k + 1) := by rw [ex70]; exact nI_1 k
                exact ih (k + 1) (by omega) (by omega) _ _ hI ls (lv_sub hl [0, 1, 2, 3, 4, 5] rfl)
  have hl : lv_has ls 6 [(5, .int 0), (4, .int (cp_b (cp_mayK u 0 x y z))), (0, .ref h), (1, .int x), (2, .int y), (3, .int z)] := by rw [cp_bf cp_mayK_0]; exact hl
  exact L6 ((cp_n u 2) + 1) 0 (Nat.lt_succ_self _) (Nat.zero_le _) _ _ hI ls (lv_sub hl [0, 1, 2, 3, 4, 5] rfl)
set_option maxHeartbeats 4000000 in
set_option maxRecDepth 100000 in
theorem c_X1_servicesWith (l : Launch) (D : va_G) (cI cZ : ClassId) (h : Nat) (a : Nat → Nat) (u : cp_M) (x : Int32) (hN3 : cp_cn u 3 40) : ∀ sz : Nat, Met l yX1_servicesWith wsX1_servicesWith ({ frames := 0, cells := 0, slots := 0, locals := 0 } : Room) (va_Pc [.ref h, .int x] (cp_pre D [(cI, .int), (cZ, .boolean)] (cp_wY cI cZ h a u) sz)) (va_Qi (fun (r : Int32) (u1 : cp_M) => r = nI (cp_with u x) ∧ u1 = u) (cp_at D [(cI, .int), (cZ, .boolean)] (va_A (cp_wY cI cZ h a u) sz) (cp_wY cI cZ h a)) (va_A (cp_wY cI cZ h a u) sz)) 0 0 (va_A (cp_wY cI cZ h a u) sz) := by
  refine cp_MetI (Qk := fun A => va_Qi (fun (r : Int32) (u1 : cp_M) => r = nI (cp_with u x) ∧ u1 = u) (cp_at D [(cI, .int), (cZ, .boolean)] A (cp_wY cI cZ h a)) A) (by decide) rfl (Nat.le_of_ble_eq_true rfl) ?_
  intro p e s m args below meth c A hC hA hK hI ls hl
  obtain ⟨hx, hb, hml, hown, hts, hr, hlocks⟩ := hC
  have hown : s.vm.findClass RX1 = some m.cls := hown
  have hl : lv_has ls 4 [(0, .ref h), (1, .int x)] := hl
  have inW : ∀ w ∈ wsX10, w ∈ wsX1_servicesWith := by decide +kernel
  have fl_services : Cond.fieldLink RX1 92 "CanticlePressModel" "services" "I" ∈ wsX1_servicesWith := by decide +kernel
  have fl_sung : Cond.fieldLink RX1 46 "CanticlePressModel" "sung" "[I" ∈ wsX1_servicesWith := by decide +kernel
  refine lv_iconst (v := 0) hx hb dX1_servicesWith_0 (by decide) ?_
  refine lv_istore_n (lv' := [(2, .int 0), (0, .ref h), (1, .int x)]) hx hb dX1_servicesWith_1 rfl hl (by decide) rfl (fun ls hl => ?_)
  refine lv_iconst (v := 0) hx hb dX1_servicesWith_2 (by decide) ?_
  refine lv_istore_n (lv' := [(3, .int 0), (2, .int 0), (0, .ref h), (1, .int x)]) hx hb dX1_servicesWith_3 rfl hl (by decide) rfl (fun ls hl => ?_)
  have L4 : ∀ (n9 : Nat) (k : Nat) (hm9 : cp_n u 3 - k < n9) (hk : k ≤ cp_n u 3), ∀ (H : Heap) (locs : List Loc), cp_I D (cp_wY cI cZ h a u) A s.heap H locs → ∀ ls, lv_has ls 4 [(3, .int (nI k)), (2, .int (nI (cp_cnt (fun k => u 13 k = x) k))), (0, .ref h), (1, .int x)] → W p l e ({ frames := 0, cells := 0, slots := 0, locals := 0 } : Room) s m args below meth c H locs 0 0 (MQ below (va_Qi (fun (r : Int32) (u1 : cp_M) => r = nI (cp_with u x) ∧ u1 = u) (cp_at D [(cI, .int), (cZ, .boolean)] A (cp_wY cI cZ h a)) A) args s 0 0 A) (F0 m 4 ls []) := by
    intro n9
    induction n9 with
    | zero => intro k hm9; omega
    | succ n9 ih =>
      intro k hm9 hk H locs hI ls hl
      have hN9 := hN3.2.1
      refine lv_iload_n hx hb dX1_servicesWith_4 rfl (lv_at hl 0 rfl) ?_
      refine lv_aload_n hx hb dX1_servicesWith_5 rfl (lv_at hl 2 rfl) ?_
      refine cp_get (v := .int (u 14 3)) hx hb hts inW hown hK hI (cp_hY _ _ _ _ _) rfl 14 (by decide) fl_services rfl rfl dX1_servicesWith_6 ?_
      refine lv_icmp_ge (tgt := 36) hx hb dX1_servicesWith_9 (by decide) (fun c9 => ?_) (fun c9 => ?_)
      · have hk2 := cp_ex hN3 hk c9
        refine lv_iload_n hx hb dX1_servicesWith_36 rfl (lv_at hl 1 rfl) ?_
        exact cp_reti (u := u) (v := (nI (cp_cnt (fun k => u 13 k = x) k))) hx hb hr hlocks hK hI ⟨by rw [hk2]; rfl, rfl⟩ dX1_servicesWith_37
      · have hk2 := cp_in hN3 (by omega) c9
        refine lv_iload_n hx hb dX1_servicesWith_12 rfl (lv_at hl 1 rfl) ?_
        refine lv_aload_n hx hb dX1_servicesWith_13 rfl (lv_at hl 2 rfl) ?_
        refine cp_get (v := .ref (a 13)) hx hb hts inW hown hK hI (cp_hY _ _ _ _ _) rfl 17 (by decide) fl_sung rfl rfl dX1_servicesWith_14 ?_
        refine lv_iload_n hx hb dX1_servicesWith_17 rfl (lv_at hl 0 rfl) ?_
        refine cp_iald (f := u 13) hx hb hK hI 0 (cp_aY_13 _ _ _ _ _) rfl (j := k) (cp_ix_n (by omega) (by decide)) dX1_servicesWith_18 ?_
        refine lv_iload_n hx hb dX1_servicesWith_19 rfl (lv_at hl 3 rfl) ?_
        refine lv_icmp_ne (tgt := 27) hx hb dX1_servicesWith_20 (by decide) (fun c20 => ?_) (fun c20 => ?_)
        · refine lv_iconst (v := 0) hx hb dX1_servicesWith_27 (by decide) ?_
          refine lv_iadd hx hb dX1_servicesWith_28 ?_
          refine lv_topi (fun x29 ex29 => ?_)
          refine lv_istore_n (lv' := [(2, .int x29), (3, .int (nI k)), (0, .ref h), (1, .int x)]) hx hb dX1_servicesWith_29 rfl hl (by decide) rfl (fun ls hl => ?_)
          obtain ⟨x30, ex30⟩ : ∃ y9 : Int32, y9 = (nI k) + 1 := ⟨_, rfl⟩
          refine lv_iinc (v := x30) (lv' := [(3, .int x30), (2, .int x29), (0, .ref h), (1, .int x)]) hx hb dX1_servicesWith_30 hl (k := 1) rfl (by rw [ex30]; rfl) (by decide) rfl (fun ls hl => ?_)
          refine lv_goto (tgt := 4) hx hb dX1_servicesWith_33 (by decide) ?_
          obtain rfl : x29 = nI (cp_cnt (fun k => u 13 k = x) (k + 1)) := by rw [ex29, cp_cnt_f (p := (fun k => u 13 k = x)) (c20)]; exact cp_add0 _
          obtain rfl : x30 = nI (k + 1) := by rw [ex30]; exact nI_1 k
          exact ih (k + 1) (by omega) (by omega) _ _ hI ls (lv_sub hl [0, 1, 2, 3] rfl)
        · refine lv_iconst (v := 1) hx hb dX1_servicesWith_23 (by decide) ?_
          refine lv_goto (tgt := 28) hx hb dX1_servicesWith_24 (by decide) ?_
          refine lv_iadd hx hb dX1_servicesWith_28 ?_
          refine lv_topi (fun x29 ex29 => ?_)
          refine lv_istore_n (lv' := [(2, .int x29), (3, .int (nI k)), (0, .ref h), (1, .int x)]) hx hb dX1_servicesWith_29 rfl hl (by decide) rfl (fun ls hl => ?_)
          obtain ⟨x30, ex30⟩ : ∃ y9 : Int32, y9 = (nI k) + 1 := ⟨_, rfl⟩
          refine lv_iinc (v := x30) (lv' := [(3, .int x30), (2, .int x29), (0, .ref h), (1, .int x)]) hx hb dX1_servicesWith_30 hl (k := 1) rfl (by rw [ex30]; rfl) (by decide) rfl (fun ls hl => ?_)
          refine lv_goto (tgt := 4) hx hb dX1_servicesWith_33 (by decide) ?_
          obtain rfl : x29 = nI (cp_cnt (fun k => u 13 k = x) (k + 1)) := by rw [ex29, cp_cnt_t (p := (fun k => u 13 k = x)) c20]; exact nI_1 _
          obtain rfl : x30 = nI (k + 1) := by rw [ex30]; exact nI_1 k
          exact ih (k + 1) (by omega) (by omega) _ _ hI ls (lv_sub hl [0, 1, 2, 3] rfl)
  exact L4 ((cp_n u 3) + 1) 0 (Nat.lt_succ_self _) (Nat.zero_le _) _ _ hI ls (lv_sub hl [0, 1, 2, 3] rfl)
set_option maxHeartbeats 4000000 in
set_option maxRecDepth 100000 in
theorem c_X1_isRested (l : Launch) (D : va_G) (cI cZ : ClassId) (h : Nat) (a : Nat → Nat) (u : cp_M) (g : Nat) (x : Int32) (hg : g < 40) (hN3 : cp_cn u 3 40) : ∀ sz : Nat, Met l yX1_isRested wsX1_isRested ({ frames := 0, cells := 0, slots := 0, locals := 0 } : Room) (va_Pc [.ref h, .int (nI g), .int x] (cp_pre D [(cI, .int), (cZ, .boolean)] (cp_wY cI cZ h a u) sz)) (va_Qi (fun (r : Int32) (u1 : cp_M) => r = cp_b (cp_okK u g x (cp_n u 3)) ∧ u1 = u) (cp_at D [(cI, .int), (cZ, .boolean)] (va_A (cp_wY cI cZ h a u) sz) (cp_wY cI cZ h a)) (va_A (cp_wY cI cZ h a u) sz)) 0 0 (va_A (cp_wY cI cZ h a u) sz) := by
  refine cp_MetI (Qk := fun A => va_Qi (fun (r : Int32) (u1 : cp_M) => r = cp_b (cp_okK u g x (cp_n u 3)) ∧ u1 = u) (cp_at D [(cI, .int), (cZ, .boolean)] A (cp_wY cI cZ h a)) A) (by decide) rfl (Nat.le_of_ble_eq_true rfl) ?_
  intro p e s m args below meth c A hC hA hK hI ls hl
  obtain ⟨hx, hb, hml, hown, hts, hr, hlocks⟩ := hC
  have hown : s.vm.findClass RX1 = some m.cls := hown
  have hl : lv_has ls 6 [(0, .ref h), (1, .int (nI g)), (2, .int x)] := hl
  have inW : ∀ w ∈ wsX10, w ∈ wsX1_isRested := by decide +kernel
  have fl_choir : Cond.fieldLink RX1 40 "CanticlePressModel" "choir" "[I" ∈ wsX1_isRested := by decide +kernel
  have fl_day : Cond.fieldLink RX1 43 "CanticlePressModel" "day" "[I" ∈ wsX1_isRested := by decide +kernel
  have fl_services : Cond.fieldLink RX1 92 "CanticlePressModel" "services" "I" ∈ wsX1_isRested := by decide +kernel
  have fl_sung : Cond.fieldLink RX1 46 "CanticlePressModel" "sung" "[I" ∈ wsX1_isRested := by decide +kernel
  refine lv_iconst (v := 1) hx hb dX1_isRested_0 (by decide) ?_
  refine lv_istore_n (lv' := [(3, .int 1), (0, .ref h), (1, .int (nI g)), (2, .int x)]) hx hb dX1_isRested_1 rfl hl (by decide) rfl (fun ls hl => ?_)
  refine lv_iconst (v := 0) hx hb dX1_isRested_2 (by decide) ?_
  refine lv_istore (lv' := [(4, .int 0), (3, .int 1), (0, .ref h), (1, .int (nI g)), (2, .int x)]) hx hb dX1_isRested_3 hl (by decide) rfl (fun ls hl => ?_)
  have L5 : ∀ (n9 : Nat) (k : Nat) (hm9 : cp_n u 3 - k < n9) (hk : k ≤ cp_n u 3), ∀ (H : Heap) (locs : List Loc), cp_I D (cp_wY cI cZ h a u) A s.heap H locs → ∀ ls, lv_has ls 6 [(4, .int (nI k)), (3, .int (cp_b (cp_okK u g x k))), (0, .ref h), (1, .int (nI g)), (2, .int x)] → W p l e ({ frames := 0, cells := 0, slots := 0, locals := 0 } : Room) s m args below meth c H locs 0 0 (MQ below (va_Qi (fun (r : Int32) (u1 : cp_M) => r = cp_b (cp_okK u g x (cp_n u 3)) ∧ u1 = u) (cp_at D [(cI, .int), (cZ, .boolean)] A (cp_wY cI cZ h a)) A) args s 0 0 A) (F0 m 5 ls []) := by
    intro n9
    induction n9 with
    | zero => intro k hm9; omega
    | succ n9 ih =>
      intro k hm9 hk H locs hI ls hl
      have hN9 := hN3.2.1
      refine lv_iload hx hb dX1_isRested_5 (lv_at hl 0 rfl) ?_
      refine lv_aload_n hx hb dX1_isRested_7 rfl (lv_at hl 2 rfl) ?_
      refine cp_get (v := .int (u 14 3)) hx hb hts inW hown hK hI (cp_hY _ _ _ _ _) rfl 14 (by decide) fl_services rfl rfl dX1_isRested_8 ?_
      refine lv_icmp_ge (tgt := 119) hx hb dX1_isRested_11 (by decide) (fun c11 => ?_) (fun c11 => ?_)
      · have hk2 := cp_ex hN3 hk c11
        refine lv_iload_n hx hb dX1_isRested_119 rfl (lv_at hl 1 rfl) ?_
        exact cp_retz (u := u) (v := (cp_b (cp_okK u g x k))) hx hb hr hlocks hK hI (cp_bn _) ⟨by rw [hk2], rfl⟩ dX1_isRested_120
      · have hk2 := cp_in hN3 (by omega) c11
        refine lv_aload_n hx hb dX1_isRested_14 rfl (lv_at hl 2 rfl) ?_
        refine cp_get (v := .ref (a 12)) hx hb hts inW hown hK hI (cp_hY _ _ _ _ _) rfl 16 (by decide) fl_day rfl rfl dX1_isRested_15 ?_
        refine lv_iload hx hb dX1_isRested_18 (lv_at hl 0 rfl) ?_
        refine cp_iald (f := u 12) hx hb hK hI 0 (cp_aY_12 _ _ _ _ _) rfl (j := k) (cp_ix_n (by omega) (by decide)) dX1_isRested_20 ?_
        refine lv_aload_n hx hb dX1_isRested_21 rfl (lv_at hl 2 rfl) ?_
        refine cp_get (v := .ref (a 12)) hx hb hts inW hown hK hI (cp_hY _ _ _ _ _) rfl 16 (by decide) fl_day rfl rfl dX1_isRested_22 ?_
        refine lv_iload_n hx hb dX1_isRested_25 rfl (lv_at hl 3 rfl) ?_
        refine cp_iald (f := u 12) hx hb hK hI 0 (cp_aY_12 _ _ _ _ _) rfl (j := g) (cp_ix_n (by omega) (by decide)) dX1_isRested_26 ?_
        refine lv_icmp_le (tgt := 47) hx hb dX1_isRested_27 (by decide) (fun c27 => ?_) (fun c27 => ?_)
        · refine lv_aload_n hx hb dX1_isRested_47 rfl (lv_at hl 2 rfl) ?_
          refine cp_get (v := .ref (a 12)) hx hb hts inW hown hK hI (cp_hY _ _ _ _ _) rfl 16 (by decide) fl_day rfl rfl dX1_isRested_48 ?_
          refine lv_iload_n hx hb dX1_isRested_51 rfl (lv_at hl 3 rfl) ?_
          refine cp_iald (f := u 12) hx hb hK hI 0 (cp_aY_12 _ _ _ _ _) rfl (j := g) (cp_ix_n (by omega) (by decide)) dX1_isRested_52 ?_
          refine lv_aload_n hx hb dX1_isRested_53 rfl (lv_at hl 2 rfl) ?_
          refine cp_get (v := .ref (a 12)) hx hb hts inW hown hK hI (cp_hY _ _ _ _ _) rfl 16 (by decide) fl_day rfl rfl dX1_isRested_54 ?_
          refine lv_iload hx hb dX1_isRested_57 (lv_at hl 0 rfl) ?_
          refine cp_iald (f := u 12) hx hb hK hI 0 (cp_aY_12 _ _ _ _ _) rfl (j := k) (cp_ix_n (by omega) (by decide)) dX1_isRested_59 ?_
          refine lv_isub hx hb dX1_isRested_60 ?_
          refine lv_topi (fun x61 ex61 => ?_)
          refine lv_istore (lv' := [(5, .int x61), (4, .int (nI k)), (3, .int (cp_b (cp_okK u g x k))), (0, .ref h), (1, .int (nI g)), (2, .int x)]) hx hb dX1_isRested_61 hl (by decide) rfl (fun ls hl => ?_)
          have e61 : cp_far (u 12 k) (u 12 g) = x61 := by first | exact (if_pos c27).trans ex61.symm | exact (if_neg c27).trans ex61.symm
          refine lv_iload_n hx hb dX1_isRested_63 rfl (lv_at hl 2 rfl) ?_
          refine lv_if_eq (tgt := 111) hx hb dX1_isRested_64 (by decide) (fun c64 => ?_) (fun c64 => ?_)
          · have c64 := cp_b0.mp c64
            refine lv_iconst (v := 0) hx hb dX1_isRested_111 (by decide) ?_
            refine lv_istore_n (lv' := [(3, .int 0), (5, .int x61), (4, .int (nI k)), (0, .ref h), (1, .int (nI g)), (2, .int x)]) hx hb dX1_isRested_112 rfl hl (by decide) rfl (fun ls hl => ?_)
            obtain ⟨x113, ex113⟩ : ∃ y9 : Int32, y9 = (nI k) + 1 := ⟨_, rfl⟩
            refine lv_iinc (v := x113) (lv' := [(4, .int x113), (3, .int 0), (5, .int x61), (0, .ref h), (1, .int (nI g)), (2, .int x)]) hx hb dX1_isRested_113 hl (k := 2) rfl (by rw [ex113]; rfl) (by decide) rfl (fun ls hl => ?_)
            refine lv_goto (tgt := 5) hx hb dX1_isRested_116 (by decide) ?_
            have hl : lv_has ls 6 [(4, .int x113), (3, .int (cp_b (cp_okK u g x (k + 1)))), (5, .int x61), (0, .ref h), (1, .int (nI g)), (2, .int x)] := by rw [cp_bf (by first | exact fun h => c64 (fun r hr => h r (by omega)) | exact fun h => by rcases h k (by omega) with q | q | q | q <;> first | exact c70 (by rw [q]) | exact q c86 | exact q c97 | exact q (by rw [e61]; exact c104))]; exact hl
            obtain rfl : x113 = nI (k + 1) := by rw [ex113]; exact nI_1 k
            exact ih (k + 1) (by omega) (by omega) _ _ hI ls (lv_sub hl [0, 1, 3, 4, 5] rfl)
          · have c64 := Classical.not_not.mp (fun h9 => c64 (cp_b0.mpr h9))
            refine lv_iload hx hb dX1_isRested_67 (lv_at hl 1 rfl) ?_
            refine lv_iload_n hx hb dX1_isRested_69 rfl (lv_at hl 4 rfl) ?_
            refine lv_icmp_eq (tgt := 107) hx hb dX1_isRested_70 (by decide) (fun c70 => ?_) (fun c70 => ?_)
            · refine lv_iconst (v := 1) hx hb dX1_isRested_107 (by decide) ?_
              refine lv_goto (tgt := 112) hx hb dX1_isRested_108 (by decide) ?_
              refine lv_istore_n (lv' := [(3, .int 1), (5, .int x61), (4, .int (nI k)), (0, .ref h), (1, .int (nI g)), (2, .int x)]) hx hb dX1_isRested_112 rfl hl (by decide) rfl (fun ls hl => ?_)
              obtain ⟨x113, ex113⟩ : ∃ y9 : Int32, y9 = (nI k) + 1 := ⟨_, rfl⟩
              refine lv_iinc (v := x113) (lv' := [(4, .int x113), (3, .int 1), (5, .int x61), (0, .ref h), (1, .int (nI g)), (2, .int x)]) hx hb dX1_isRested_113 hl (k := 2) rfl (by rw [ex113]; rfl) (by decide) rfl (fun ls hl => ?_)
              refine lv_goto (tgt := 5) hx hb dX1_isRested_116 (by decide) ?_
              have hl : lv_has ls 6 [(4, .int x113), (3, .int (cp_b (cp_okK u g x (k + 1)))), (5, .int x61), (0, .ref h), (1, .int (nI g)), (2, .int x)] := by rw [cp_bt (cp_okK_s c64 (by first | exact Or.inl (cp_nIinj (by omega) (by omega) c70) | exact Or.inr (Or.inl c86) | exact Or.inr (Or.inr (Or.inl c97)) | exact Or.inr (Or.inr (Or.inr (by rw [e61]; exact c104)))))]; exact hl
              obtain rfl : x113 = nI (k + 1) := by rw [ex113]; exact nI_1 k
              exact ih (k + 1) (by omega) (by omega) _ _ hI ls (lv_sub hl [0, 1, 3, 4, 5] rfl)
            · refine lv_aload_n hx hb dX1_isRested_73 rfl (lv_at hl 3 rfl) ?_
              refine cp_get (v := .ref (a 11)) hx hb hts inW hown hK hI (cp_hY _ _ _ _ _) rfl 15 (by decide) fl_choir rfl rfl dX1_isRested_74 ?_
              refine lv_iload hx hb dX1_isRested_77 (lv_at hl 1 rfl) ?_
              refine cp_iald (f := u 11) hx hb hK hI 0 (cp_aY_11 _ _ _ _ _) rfl (j := k) (cp_ix_n (by omega) (by decide)) dX1_isRested_79 ?_
              refine lv_aload_n hx hb dX1_isRested_80 rfl (lv_at hl 3 rfl) ?_
              refine cp_get (v := .ref (a 11)) hx hb hts inW hown hK hI (cp_hY _ _ _ _ _) rfl 15 (by decide) fl_choir rfl rfl dX1_isRested_81 ?_
              refine lv_iload_n hx hb dX1_isRested_84 rfl (lv_at hl 4 rfl) ?_
              refine cp_iald (f := u 11) hx hb hK hI 0 (cp_aY_11 _ _ _ _ _) rfl (j := g) (cp_ix_n (by omega) (by decide)) dX1_isRested_85 ?_
              refine lv_icmp_ne (tgt := 107) hx hb dX1_isRested_86 (by decide) (fun c86 => ?_) (fun c86 => ?_)
              · refine lv_iconst (v := 1) hx hb dX1_isRested_107 (by decide) ?_
                refine lv_goto (tgt := 112) hx hb dX1_isRested_108 (by decide) ?_
                refine lv_istore_n (lv' := [(3, .int 1), (5, .int x61), (4, .int (nI k)), (0, .ref h), (1, .int (nI g)), (2, .int x)]) hx hb dX1_isRested_112 rfl hl (by decide) rfl (fun ls hl => ?_)
                obtain ⟨x113, ex113⟩ : ∃ y9 : Int32, y9 = (nI k) + 1 := ⟨_, rfl⟩
                refine lv_iinc (v := x113) (lv' := [(4, .int x113), (3, .int 1), (5, .int x61), (0, .ref h), (1, .int (nI g)), (2, .int x)]) hx hb dX1_isRested_113 hl (k := 2) rfl (by rw [ex113]; rfl) (by decide) rfl (fun ls hl => ?_)
                refine lv_goto (tgt := 5) hx hb dX1_isRested_116 (by decide) ?_
                have hl : lv_has ls 6 [(4, .int x113), (3, .int (cp_b (cp_okK u g x (k + 1)))), (5, .int x61), (0, .ref h), (1, .int (nI g)), (2, .int x)] := by rw [cp_bt (cp_okK_s c64 (by first | exact Or.inl (cp_nIinj (by omega) (by omega) c70) | exact Or.inr (Or.inl c86) | exact Or.inr (Or.inr (Or.inl c97)) | exact Or.inr (Or.inr (Or.inr (by rw [e61]; exact c104)))))]; exact hl
                obtain rfl : x113 = nI (k + 1) := by rw [ex113]; exact nI_1 k
                exact ih (k + 1) (by omega) (by omega) _ _ hI ls (lv_sub hl [0, 1, 3, 4, 5] rfl)
              · refine lv_aload_n hx hb dX1_isRested_89 rfl (lv_at hl 3 rfl) ?_
                refine cp_get (v := .ref (a 13)) hx hb hts inW hown hK hI (cp_hY _ _ _ _ _) rfl 17 (by decide) fl_sung rfl rfl dX1_isRested_90 ?_
                refine lv_iload hx hb dX1_isRested_93 (lv_at hl 1 rfl) ?_
                refine cp_iald (f := u 13) hx hb hK hI 0 (cp_aY_13 _ _ _ _ _) rfl (j := k) (cp_ix_n (by omega) (by decide)) dX1_isRested_95 ?_
                refine lv_iload_n hx hb dX1_isRested_96 rfl (lv_at hl 5 rfl) ?_
                refine lv_icmp_ne (tgt := 107) hx hb dX1_isRested_97 (by decide) (fun c97 => ?_) (fun c97 => ?_)
                · refine lv_iconst (v := 1) hx hb dX1_isRested_107 (by decide) ?_
                  refine lv_goto (tgt := 112) hx hb dX1_isRested_108 (by decide) ?_
                  refine lv_istore_n (lv' := [(3, .int 1), (5, .int x61), (4, .int (nI k)), (0, .ref h), (1, .int (nI g)), (2, .int x)]) hx hb dX1_isRested_112 rfl hl (by decide) rfl (fun ls hl => ?_)
                  obtain ⟨x113, ex113⟩ : ∃ y9 : Int32, y9 = (nI k) + 1 := ⟨_, rfl⟩
                  refine lv_iinc (v := x113) (lv' := [(4, .int x113), (3, .int 1), (5, .int x61), (0, .ref h), (1, .int (nI g)), (2, .int x)]) hx hb dX1_isRested_113 hl (k := 2) rfl (by rw [ex113]; rfl) (by decide) rfl (fun ls hl => ?_)
                  refine lv_goto (tgt := 5) hx hb dX1_isRested_116 (by decide) ?_
                  have hl : lv_has ls 6 [(4, .int x113), (3, .int (cp_b (cp_okK u g x (k + 1)))), (5, .int x61), (0, .ref h), (1, .int (nI g)), (2, .int x)] := by rw [cp_bt (cp_okK_s c64 (by first | exact Or.inl (cp_nIinj (by omega) (by omega) c70) | exact Or.inr (Or.inl c86) | exact Or.inr (Or.inr (Or.inl c97)) | exact Or.inr (Or.inr (Or.inr (by rw [e61]; exact c104)))))]; exact hl
                  obtain rfl : x113 = nI (k + 1) := by rw [ex113]; exact nI_1 k
                  exact ih (k + 1) (by omega) (by omega) _ _ hI ls (lv_sub hl [0, 1, 3, 4, 5] rfl)
                · refine lv_iload hx hb dX1_isRested_100 (lv_at hl 0 rfl) ?_
                  refine lv_bipush (v := 28) hx hb dX1_isRested_102 (by decide) ?_
                  refine lv_icmp_lt (tgt := 111) hx hb dX1_isRested_104 (by decide) (fun c104 => ?_) (fun c104 => ?_)
                  · refine lv_iconst (v := 0) hx hb dX1_isRested_111 (by decide) ?_
                    refine lv_istore_n (lv' := [(3, .int 0), (5, .int x61), (4, .int (nI k)), (0, .ref h), (1, .int (nI g)), (2, .int x)]) hx hb dX1_isRested_112 rfl hl (by decide) rfl (fun ls hl => ?_)
                    obtain ⟨x113, ex113⟩ : ∃ y9 : Int32, y9 = (nI k) + 1 := ⟨_, rfl⟩
                    refine lv_iinc (v := x113) (lv' := [(4, .int x113), (3, .int 0), (5, .int x61), (0, .ref h), (1, .int (nI g)), (2, .int x)]) hx hb dX1_isRested_113 hl (k := 2) rfl (by rw [ex113]; rfl) (by decide) rfl (fun ls hl => ?_)
                    refine lv_goto (tgt := 5) hx hb dX1_isRested_116 (by decide) ?_
                    have hl : lv_has ls 6 [(4, .int x113), (3, .int (cp_b (cp_okK u g x (k + 1)))), (5, .int x61), (0, .ref h), (1, .int (nI g)), (2, .int x)] := by rw [cp_bf (by first | exact fun h => c64 (fun r hr => h r (by omega)) | exact fun h => by rcases h k (by omega) with q | q | q | q <;> first | exact c70 (by rw [q]) | exact q c86 | exact q c97 | exact q (by rw [e61]; exact c104))]; exact hl
                    obtain rfl : x113 = nI (k + 1) := by rw [ex113]; exact nI_1 k
                    exact ih (k + 1) (by omega) (by omega) _ _ hI ls (lv_sub hl [0, 1, 3, 4, 5] rfl)
                  · refine lv_iconst (v := 1) hx hb dX1_isRested_107 (by decide) ?_
                    refine lv_goto (tgt := 112) hx hb dX1_isRested_108 (by decide) ?_
                    refine lv_istore_n (lv' := [(3, .int 1), (5, .int x61), (4, .int (nI k)), (0, .ref h), (1, .int (nI g)), (2, .int x)]) hx hb dX1_isRested_112 rfl hl (by decide) rfl (fun ls hl => ?_)
                    obtain ⟨x113, ex113⟩ : ∃ y9 : Int32, y9 = (nI k) + 1 := ⟨_, rfl⟩
                    refine lv_iinc (v := x113) (lv' := [(4, .int x113), (3, .int 1), (5, .int x61), (0, .ref h), (1, .int (nI g)), (2, .int x)]) hx hb dX1_isRested_113 hl (k := 2) rfl (by rw [ex113]; rfl) (by decide) rfl (fun ls hl => ?_)
                    refine lv_goto (tgt := 5) hx hb dX1_isRested_116 (by decide) ?_
                    have hl : lv_has ls 6 [(4, .int x113), (3, .int (cp_b (cp_okK u g x (k + 1)))), (5, .int x61), (0, .ref h), (1, .int (nI g)), (2, .int x)] := by rw [cp_bt (cp_okK_s c64 (by first | exact Or.inl (cp_nIinj (by omega) (by omega) c70) | exact Or.inr (Or.inl c86) | exact Or.inr (Or.inr (Or.inl c97)) | exact Or.inr (Or.inr (Or.inr (by rw [e61]; exact c104)))))]; exact hl
                    obtain rfl : x113 = nI (k + 1) := by rw [ex113]; exact nI_1 k
                    exact ih (k + 1) (by omega) (by omega) _ _ hI ls (lv_sub hl [0, 1, 3, 4, 5] rfl)
        · refine lv_aload_n hx hb dX1_isRested_30 rfl (lv_at hl 2 rfl) ?_
          refine cp_get (v := .ref (a 12)) hx hb hts inW hown hK hI (cp_hY _ _ _ _ _) rfl 16 (by decide) fl_day rfl rfl dX1_isRested_31 ?_
          refine lv_iload hx hb dX1_isRested_34 (lv_at hl 0 rfl) ?_
          refine cp_iald (f := u 12) hx hb hK hI 0 (cp_aY_12 _ _ _ _ _) rfl (j := k) (cp_ix_n (by omega) (by decide)) dX1_isRested_36 ?_
          refine lv_aload_n hx hb dX1_isRested_37 rfl (lv_at hl 2 rfl) ?_
          refine cp_get (v := .ref (a 12)) hx hb hts inW hown hK hI (cp_hY _ _ _ _ _) rfl 16 (by decide) fl_day rfl rfl dX1_isRested_38 ?_
          refine lv_iload_n hx hb dX1_isRested_41 rfl (lv_at hl 3 rfl) ?_
          refine cp_iald (f := u 12) hx hb hK hI 0 (cp_aY_12 _ _ _ _ _) rfl (j := g) (cp_ix_n (by omega) (by decide)) dX1_isRested_42 ?_
          refine lv_isub hx hb dX1_isRested_43 ?_
          refine lv_goto (tgt := 61) hx hb dX1_isRested_44 (by decide) ?_
          refine lv_topi (fun x61 ex61 => ?_)
          refine lv_istore (lv' := [(5, .int x61), (4, .int (nI k)), (3, .int (cp_b (cp_okK u g x k))), (0, .ref h), (1, .int (nI g)), (2, .int x)]) hx hb dX1_isRested_61 hl (by decide) rfl (fun ls hl => ?_)
          have e61 : cp_far (u 12 k) (u 12 g) = x61 := by first | exact (if_pos c27).trans ex61.symm | exact (if_neg c27).trans ex61.symm
          refine lv_iload_n hx hb dX1_isRested_63 rfl (lv_at hl 2 rfl) ?_
          refine lv_if_eq (tgt := 111) hx hb dX1_isRested_64 (by decide) (fun c64 => ?_) (fun c64 => ?_)
          · have c64 := cp_b0.mp c64
            refine lv_iconst (v := 0) hx hb dX1_isRested_111 (by decide) ?_
            refine lv_istore_n (lv' := [(3, .int 0), (5, .int x61), (4, .int (nI k)), (0, .ref h), (1, .int (nI g)), (2, .int x)]) hx hb dX1_isRested_112 rfl hl (by decide) rfl (fun ls hl => ?_)
            obtain ⟨x113, ex113⟩ : ∃ y9 : Int32, y9 = (nI k) + 1 := ⟨_, rfl⟩
            refine lv_iinc (v := x113) (lv' := [(4, .int x113), (3, .int 0), (5, .int x61), (0, .ref h), (1, .int (nI g)), (2, .int x)]) hx hb dX1_isRested_113 hl (k := 2) rfl (by rw [ex113]; rfl) (by decide) rfl (fun ls hl => ?_)
            refine lv_goto (tgt := 5) hx hb dX1_isRested_116 (by decide) ?_
            have hl : lv_has ls 6 [(4, .int x113), (3, .int (cp_b (cp_okK u g x (k + 1)))), (5, .int x61), (0, .ref h), (1, .int (nI g)), (2, .int x)] := by rw [cp_bf (by first | exact fun h => c64 (fun r hr => h r (by omega)) | exact fun h => by rcases h k (by omega) with q | q | q | q <;> first | exact c70 (by rw [q]) | exact q c86 | exact q c97 | exact q (by rw [e61]; exact c104))]; exact hl
            obtain rfl : x113 = nI (k + 1) := by rw [ex113]; exact nI_1 k
            exact ih (k + 1) (by omega) (by omega) _ _ hI ls (lv_sub hl [0, 1, 3, 4, 5] rfl)
          · have c64 := Classical.not_not.mp (fun h9 => c64 (cp_b0.mpr h9))
            refine lv_iload hx hb dX1_isRested_67 (lv_at hl 1 rfl) ?_
            refine lv_iload_n hx hb dX1_isRested_69 rfl (lv_at hl 4 rfl) ?_
            refine lv_icmp_eq (tgt := 107) hx hb dX1_isRested_70 (by decide) (fun c70 => ?_) (fun c70 => ?_)
            · refine lv_iconst (v := 1) hx hb dX1_isRested_107 (by decide) ?_
              refine lv_goto (tgt := 112) hx hb dX1_isRested_108 (by decide) ?_
              refine lv_istore_n (lv' := [(3, .int 1), (5, .int x61), (4, .int (nI k)), (0, .ref h), (1, .int (nI g)), (2, .int x)]) hx hb dX1_isRested_112 rfl hl (by decide) rfl (fun ls hl => ?_)
              obtain ⟨x113, ex113⟩ : ∃ y9 : Int32, y9 = (nI k) + 1 := ⟨_, rfl⟩
              refine lv_iinc (v := x113) (lv' := [(4, .int x113), (3, .int 1), (5, .int x61), (0, .ref h), (1, .int (nI g)), (2, .int x)]) hx hb dX1_isRested_113 hl (k := 2) rfl (by rw [ex113]; rfl) (by decide) rfl (fun ls hl => ?_)
              refine lv_goto (tgt := 5) hx hb dX1_isRested_116 (by decide) ?_
              have hl : lv_has ls 6 [(4, .int x113), (3, .int (cp_b (cp_okK u g x (k + 1)))), (5, .int x61), (0, .ref h), (1, .int (nI g)), (2, .int x)] := by rw [cp_bt (cp_okK_s c64 (by first | exact Or.inl (cp_nIinj (by omega) (by omega) c70) | exact Or.inr (Or.inl c86) | exact Or.inr (Or.inr (Or.inl c97)) | exact Or.inr (Or.inr (Or.inr (by rw [e61]; exact c104)))))]; exact hl
              obtain rfl : x113 = nI (k + 1) := by rw [ex113]; exact nI_1 k
              exact ih (k + 1) (by omega) (by omega) _ _ hI ls (lv_sub hl [0, 1, 3, 4, 5] rfl)
            · refine lv_aload_n hx hb dX1_isRested_73 rfl (lv_at hl 3 rfl) ?_
              refine cp_get (v := .ref (a 11)) hx hb hts inW hown hK hI (cp_hY _ _ _ _ _) rfl 15 (by decide) fl_choir rfl rfl dX1_isRested_74 ?_
              refine lv_iload hx hb dX1_isRested_77 (lv_at hl 1 rfl) ?_
              refine cp_iald (f := u 11) hx hb hK hI 0 (cp_aY_11 _ _ _ _ _) rfl (j := k) (cp_ix_n (by omega) (by decide)) dX1_isRested_79 ?_
              refine lv_aload_n hx hb dX1_isRested_80 rfl (lv_at hl 3 rfl) ?_
              refine cp_get (v := .ref (a 11)) hx hb hts inW hown hK hI (cp_hY _ _ _ _ _) rfl 15 (by decide) fl_choir rfl rfl dX1_isRested_81 ?_
              refine lv_iload_n hx hb dX1_isRested_84 rfl (lv_at hl 4 rfl) ?_
              refine cp_iald (f := u 11) hx hb hK hI 0 (cp_aY_11 _ _ _ _ _) rfl (j := g) (cp_ix_n (by omega) (by decide)) dX1_isRested_85 ?_
              refine lv_icmp_ne (tgt := 107) hx hb dX1_isRested_86 (by decide) (fun c86 => ?_) (fun c86 => ?_)
              · refine lv_iconst (v := 1) hx hb dX1_isRested_107 (by decide) ?_
                refine lv_goto (tgt := 112) hx hb dX1_isRested_108 (by decide) ?_
                refine lv_istore_n (lv' := [(3, .int 1), (5, .int x61), (4, .int (nI k)), (0, .ref h), (1, .int (nI g)), (2, .int x)]) hx hb dX1_isRested_112 rfl hl (by decide) rfl (fun ls hl => ?_)
                obtain ⟨x113, ex113⟩ : ∃ y9 : Int32, y9 = (nI k) + 1 := ⟨_, rfl⟩
                refine lv_iinc (v := x113) (lv' := [(4, .int x113), (3, .int 1), (5, .int x61), (0, .ref h), (1, .int (nI g)), (2, .int x)]) hx hb dX1_isRested_113 hl (k := 2) rfl (by rw [ex113]; rfl) (by decide) rfl (fun ls hl => ?_)
                refine lv_goto (tgt := 5) hx hb dX1_isRested_116 (by decide) ?_
                have hl : lv_has ls 6 [(4, .int x113), (3, .int (cp_b (cp_okK u g x (k + 1)))), (5, .int x61), (0, .ref h), (1, .int (nI g)), (2, .int x)] := by rw [cp_bt (cp_okK_s c64 (by first | exact Or.inl (cp_nIinj (by omega) (by omega) c70) | exact Or.inr (Or.inl c86) | exact Or.inr (Or.inr (Or.inl c97)) | exact Or.inr (Or.inr (Or.inr (by rw [e61]; exact c104)))))]; exact hl
                obtain rfl : x113 = nI (k + 1) := by rw [ex113]; exact nI_1 k
                exact ih (k + 1) (by omega) (by omega) _ _ hI ls (lv_sub hl [0, 1, 3, 4, 5] rfl)
              · refine lv_aload_n hx hb dX1_isRested_89 rfl (lv_at hl 3 rfl) ?_
                refine cp_get (v := .ref (a 13)) hx hb hts inW hown hK hI (cp_hY _ _ _ _ _) rfl 17 (by decide) fl_sung rfl rfl dX1_isRested_90 ?_
                refine lv_iload hx hb dX1_isRested_93 (lv_at hl 1 rfl) ?_
                refine cp_iald (f := u 13) hx hb hK hI 0 (cp_aY_13 _ _ _ _ _) rfl (j := k) (cp_ix_n (by omega) (by decide)) dX1_isRested_95 ?_
                refine lv_iload_n hx hb dX1_isRested_96 rfl (lv_at hl 5 rfl) ?_
                refine lv_icmp_ne (tgt := 107) hx hb dX1_isRested_97 (by decide) (fun c97 => ?_) (fun c97 => ?_)
                · refine lv_iconst (v := 1) hx hb dX1_isRested_107 (by decide) ?_
                  refine lv_goto (tgt := 112) hx hb dX1_isRested_108 (by decide) ?_
                  refine lv_istore_n (lv' := [(3, .int 1), (5, .int x61), (4, .int (nI k)), (0, .ref h), (1, .int (nI g)), (2, .int x)]) hx hb dX1_isRested_112 rfl hl (by decide) rfl (fun ls hl => ?_)
                  obtain ⟨x113, ex113⟩ : ∃ y9 : Int32, y9 = (nI k) + 1 := ⟨_, rfl⟩
                  refine lv_iinc (v := x113) (lv' := [(4, .int x113), (3, .int 1), (5, .int x61), (0, .ref h), (1, .int (nI g)), (2, .int x)]) hx hb dX1_isRested_113 hl (k := 2) rfl (by rw [ex113]; rfl) (by decide) rfl (fun ls hl => ?_)
                  refine lv_goto (tgt := 5) hx hb dX1_isRested_116 (by decide) ?_
                  have hl : lv_has ls 6 [(4, .int x113), (3, .int (cp_b (cp_okK u g x (k + 1)))), (5, .int x61), (0, .ref h), (1, .int (nI g)), (2, .int x)] := by rw [cp_bt (cp_okK_s c64 (by first | exact Or.inl (cp_nIinj (by omega) (by omega) c70) | exact Or.inr (Or.inl c86) | exact Or.inr (Or.inr (Or.inl c97)) | exact Or.inr (Or.inr (Or.inr (by rw [e61]; exact c104)))))]; exact hl
                  obtain rfl : x113 = nI (k + 1) := by rw [ex113]; exact nI_1 k
                  exact ih (k + 1) (by omega) (by omega) _ _ hI ls (lv_sub hl [0, 1, 3, 4, 5] rfl)
                · refine lv_iload hx hb dX1_isRested_100 (lv_at hl 0 rfl) ?_
                  refine lv_bipush (v := 28) hx hb dX1_isRested_102 (by decide) ?_
                  refine lv_icmp_lt (tgt := 111) hx hb dX1_isRested_104 (by decide) (fun c104 => ?_) (fun c104 => ?_)
                  · refine lv_iconst (v := 0) hx hb dX1_isRested_111 (by decide) ?_
                    refine lv_istore_n (lv' := [(3, .int 0), (5, .int x61), (4, .int (nI k)), (0, .ref h), (1, .int (nI g)), (2, .int x)]) hx hb dX1_isRested_112 rfl hl (by decide) rfl (fun ls hl => ?_)
                    obtain ⟨x113, ex113⟩ : ∃ y9 : Int32, y9 = (nI k) + 1 := ⟨_, rfl⟩
                    refine lv_iinc (v := x113) (lv' := [(4, .int x113), (3, .int 0), (5, .int x61), (0, .ref h), (1, .int (nI g)), (2, .int x)]) hx hb dX1_isRested_113 hl (k := 2) rfl (by rw [ex113]; rfl) (by decide) rfl (fun ls hl => ?_)
                    refine lv_goto (tgt := 5) hx hb dX1_isRested_116 (by decide) ?_
                    have hl : lv_has ls 6 [(4, .int x113), (3, .int (cp_b (cp_okK u g x (k + 1)))), (5, .int x61), (0, .ref h), (1, .int (nI g)), (2, .int x)] := by rw [cp_bf (by first | exact fun h => c64 (fun r hr => h r (by omega)) | exact fun h => by rcases h k (by omega) with q | q | q | q <;> first | exact c70 (by rw [q]) | exact q c86 | exact q c97 | exact q (by rw [e61]; exact c104))]; exact hl
                    obtain rfl : x113 = nI (k + 1) := by rw [ex113]; exact nI_1 k
                    exact ih (k + 1) (by omega) (by omega) _ _ hI ls (lv_sub hl [0, 1, 3, 4, 5] rfl)
                  · refine lv_iconst (v := 1) hx hb dX1_isRested_107 (by decide) ?_
                    refine lv_goto (tgt := 112) hx hb dX1_isRested_108 (by decide) ?_
                    refine lv_istore_n (lv' := [(3, .int 1), (5, .int x61), (4, .int (nI k)), (0, .ref h), (1, .int (nI g)), (2, .int x)]) hx hb dX1_isRested_112 rfl hl (by decide) rfl (fun ls hl => ?_)
                    obtain ⟨x113, ex113⟩ : ∃ y9 : Int32, y9 = (nI k) + 1 := ⟨_, rfl⟩
                    refine lv_iinc (v := x113) (lv' := [(4, .int x113), (3, .int 1), (5, .int x61), (0, .ref h), (1, .int (nI g)), (2, .int x)]) hx hb dX1_isRested_113 hl (k := 2) rfl (by rw [ex113]; rfl) (by decide) rfl (fun ls hl => ?_)
                    refine lv_goto (tgt := 5) hx hb dX1_isRested_116 (by decide) ?_
                    have hl : lv_has ls 6 [(4, .int x113), (3, .int (cp_b (cp_okK u g x (k + 1)))), (5, .int x61), (0, .ref h), (1, .int (nI g)), (2, .int x)] := by rw [cp_bt (cp_okK_s c64 (by first | exact Or.inl (cp_nIinj (by omega) (by omega) c70) | exact Or.inr (Or.inl c86) | exact Or.inr (Or.inr (Or.inl c97)) | exact Or.inr (Or.inr (Or.inr (by rw [e61]; exact c104)))))]; exact hl
                    obtain rfl : x113 = nI (k + 1) := by rw [ex113]; exact nI_1 k
                    exact ih (k + 1) (by omega) (by omega) _ _ hI ls (lv_sub hl [0, 1, 3, 4, 5] rfl)
  have hl : lv_has ls 6 [(4, .int 0), (3, .int (cp_b (cp_okK u g x 0))), (0, .ref h), (1, .int (nI g)), (2, .int x)] := by rw [cp_bt cp_okK_0]; exact hl
  exact L5 ((cp_n u 3) + 1) 0 (Nat.lt_succ_self _) (Nat.zero_le _) _ _ hI ls (lv_sub hl [0, 1, 2, 3, 4] rfl)
