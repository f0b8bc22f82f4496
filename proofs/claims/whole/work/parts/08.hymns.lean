set_option maxHeartbeats 4000000 in
set_option maxRecDepth 100000 in
theorem c_X0_pageCount (l : Launch) (D : va_G) (cI : ClassId) (h : Nat) (a : Nat → Nat) (u : cp_M) (g : Nat) (hg : g < 16) : ∀ sz : Nat, Met l yX0_pageCount wsX0_pageCount ({ frames := 1, cells := 0, slots := 0, locals := 20 } : Room) (va_Pc [.ref h, .int (nI g)] (cp_pre D [(cI, .int)] (cp_wX cI h a u) sz)) (va_Qi (fun (r : Int32) (u1 : cp_M) => r = cp_swar (u 4 g) + 1 ∧ u1 = u) (cp_at D [(cI, .int)] (va_A (cp_wX cI h a u) sz) (cp_wX cI h a)) (va_A (cp_wX cI h a u) sz)) 0 0 (va_A (cp_wX cI h a u) sz) := by
  refine cp_MetI (Qk := fun A => va_Qi (fun (r : Int32) (u1 : cp_M) => r = cp_swar (u 4 g) + 1 ∧ u1 = u) (cp_at D [(cI, .int)] A (cp_wX cI h a)) A) (by decide) rfl (Nat.le_of_ble_eq_true rfl) ?_
  intro p e s m args below meth c A hC hA hK hI ls hl
  obtain ⟨hx, hb, hml, hown, hts, hr, hlocks⟩ := hC
  have hown : s.vm.findClass RX0 = some m.cls := hown
  have hl : lv_has ls 2 [(0, .ref h), (1, .int (nI g))] := hl
  have inW : ∀ w ∈ wsX00, w ∈ wsX0_pageCount := by decide +kernel
  have fl_turnsOfHymn : Cond.fieldLink RX0 22 "CanticlePress" "turnsOfHymn" "[I" ∈ wsX0_pageCount := by decide +kernel
  refine lv_aload_n hx hb dX0_pageCount_0 rfl (lv_at hl 0 rfl) ?_
  refine cp_get (v := .ref (a 4)) hx hb hts inW hown hK hI (cp_hX _ _ _ _) rfl 6 (by decide) fl_turnsOfHymn rfl rfl dX0_pageCount_1 ?_
  refine lv_iload_n hx hb dX0_pageCount_4 rfl (lv_at hl 1 rfl) ?_
  refine cp_iald (f := u 4) hx hb hK hI 0 (cp_aX_4 _ _ _ _) rfl (j := g) (cp_ix_n (by omega) (by decide)) dX0_pageCount_5 ?_
  refine cp_cSi0 (As := [.int (u 4 g)]) (rest := []) ⟨hx, hb, hml, hown, hts⟩ ((c_J6_bitCount_0f7a4 l (u 4 g)) D) (va_cwS 1 hts gX0_pageCount_J6_bitCount_0f7a4 rfl rfl rfl (by decide +kernel) ⟨Nat.le_of_ble_eq_true rfl, Nat.le_of_ble_eq_true rfl⟩) hK hI hA rfl hl.1 rfl (Nat.le_of_ble_eq_true rfl) dX0_pageCount_6 ⟨Nat.le_of_ble_eq_true rfl, Nat.le_of_ble_eq_true rfl⟩ (fun r6 u6 H locs hp6 hI => ?_)
  obtain rfl := hp6
  refine lv_iconst (v := 1) hx hb dX0_pageCount_9 (by decide) ?_
  refine lv_iadd hx hb dX0_pageCount_10 ?_
  exact cp_reti (u := u) (v := ((cp_swar (u 4 g)) + 1)) hx hb hr hlocks hK hI ⟨rfl, rfl⟩ dX0_pageCount_11
set_option maxHeartbeats 4000000 in
set_option maxRecDepth 100000 in
theorem c_X0_hymns (l : Launch) (D : va_G) (cI : ClassId) (h : Nat) (a : Nat → Nat) (u : cp_M)   : ∀ sz : Nat, Met l yX0_hymns wsX0_hymns ({ frames := 0, cells := 0, slots := 0, locals := 0 } : Room) (va_Pc [.ref h] (cp_pre D [(cI, .int)] (cp_wX cI h a u) sz)) (va_Qi (fun (r : Int32) (u1 : cp_M) => r = u 14 1 ∧ u1 = u) (cp_at D [(cI, .int)] (va_A (cp_wX cI h a u) sz) (cp_wX cI h a)) (va_A (cp_wX cI h a u) sz)) 0 0 (va_A (cp_wX cI h a u) sz) := by
  refine cp_MetI (Qk := fun A => va_Qi (fun (r : Int32) (u1 : cp_M) => r = u 14 1 ∧ u1 = u) (cp_at D [(cI, .int)] A (cp_wX cI h a)) A) (by decide) rfl (Nat.le_of_ble_eq_true rfl) ?_
  intro p e s m args below meth c A hC hA hK hI ls hl
  obtain ⟨hx, hb, hml, hown, hts, hr, hlocks⟩ := hC
  have hown : s.vm.findClass RX0 = some m.cls := hown
  have hl : lv_has ls 1 [(0, .ref h)] := hl
  have inW : ∀ w ∈ wsX00, w ∈ wsX0_hymns := by decide +kernel
  have fl_hymnCount : Cond.fieldLink RX0 67 "CanticlePress" "hymnCount" "I" ∈ wsX0_hymns := by decide +kernel
  refine lv_aload_n hx hb dX0_hymns_0 rfl (lv_at hl 0 rfl) ?_
  refine cp_get (v := .int (u 14 1)) hx hb hts inW hown hK hI (cp_hX _ _ _ _) rfl 1 (by decide) fl_hymnCount rfl rfl dX0_hymns_1 ?_
  exact cp_reti (u := u) (v := (u 14 1)) hx hb hr hlocks hK hI ⟨rfl, rfl⟩ dX0_hymns_4
set_option maxHeartbeats 4000000 in
set_option maxRecDepth 100000 in
theorem c_X0_silent (l : Launch) (D : va_G) (cI : ClassId) (h : Nat) (a : Nat → Nat) (u : cp_M)  (hN3 : cp_cn u 3 40) : ∀ sz : Nat, Met l yX0_silent wsX0_silent ({ frames := 0, cells := 0, slots := 0, locals := 0 } : Room) (va_Pc [.ref h] (cp_pre D [(cI, .int)] (cp_wX cI h a u) sz)) (va_Qi (fun (r : Int32) (u1 : cp_M) => r = nI (cp_cnt (fun k => u 12 k ≤ u 14 0 ∧ u 13 k = -1) (cp_n u 3)) ∧ u1 = u) (cp_at D [(cI, .int)] (va_A (cp_wX cI h a u) sz) (cp_wX cI h a)) (va_A (cp_wX cI h a u) sz)) 0 0 (va_A (cp_wX cI h a u) sz) := by
  refine cp_MetI (Qk := fun A => va_Qi (fun (r : Int32) (u1 : cp_M) => r = nI (cp_cnt (fun k => u 12 k ≤ u 14 0 ∧ u 13 k = -1) (cp_n u 3)) ∧ u1 = u) (cp_at D [(cI, .int)] A (cp_wX cI h a)) A) (by decide) rfl (Nat.le_of_ble_eq_true rfl) ?_
  intro p e s m args below meth c A hC hA hK hI ls hl
  obtain ⟨hx, hb, hml, hown, hts, hr, hlocks⟩ := hC
  have hown : s.vm.findClass RX0 = some m.cls := hown
  have hl : lv_has ls 3 [(0, .ref h)] := hl
  have inW : ∀ w ∈ wsX00, w ∈ wsX0_silent := by decide +kernel
  have fl_dayOfService : Cond.fieldLink RX0 46 "CanticlePress" "dayOfService" "[I" ∈ wsX0_silent := by decide +kernel
  have fl_hymnOfService : Cond.fieldLink RX0 49 "CanticlePress" "hymnOfService" "[I" ∈ wsX0_silent := by decide +kernel
  have fl_serviceCount : Cond.fieldLink RX0 137 "CanticlePress" "serviceCount" "I" ∈ wsX0_silent := by decide +kernel
  have fl_today : Cond.fieldLink RX0 109 "CanticlePress" "today" "I" ∈ wsX0_silent := by decide +kernel
  refine lv_iconst (v := 0) hx hb dX0_silent_0 (by decide) ?_
  refine lv_istore_n (lv' := [(1, .int 0), (0, .ref h)]) hx hb dX0_silent_1 rfl hl (by decide) rfl (fun ls hl => ?_)
  refine lv_iconst (v := 0) hx hb dX0_silent_2 (by decide) ?_
  refine lv_istore_n (lv' := [(2, .int 0), (1, .int 0), (0, .ref h)]) hx hb dX0_silent_3 rfl hl (by decide) rfl (fun ls hl => ?_)
  have L4 : ∀ (n9 : Nat) (k : Nat) (hm9 : cp_n u 3 - k < n9) (hk : k ≤ cp_n u 3), ∀ (H : Heap) (locs : List Loc), cp_I D (cp_wX cI h a u) A s.heap H locs → ∀ ls, lv_has ls 3 [(2, .int (nI k)), (1, .int (nI (cp_cnt (fun k => u 12 k ≤ u 14 0 ∧ u 13 k = -1) k))), (0, .ref h)] → W p l e ({ frames := 0, cells := 0, slots := 0, locals := 0 } : Room) s m args below meth c H locs 0 0 (MQ below (va_Qi (fun (r : Int32) (u1 : cp_M) => r = nI (cp_cnt (fun k => u 12 k ≤ u 14 0 ∧ u 13 k = -1) (cp_n u 3)) ∧ u1 = u) (cp_at D [(cI, .int)] A (cp_wX cI h a)) A) args s 0 0 A) (F0 m 4 ls []) := by
    intro n9
    induction n9 with
    | zero => intro k hm9; omega
    | succ n9 ih =>
      intro k hm9 hk H locs hI ls hl
      have hN9 := hN3.2.1
      refine lv_iload_n hx hb dX0_silent_4 rfl (lv_at hl 0 rfl) ?_
      refine lv_aload_n hx hb dX0_silent_5 rfl (lv_at hl 2 rfl) ?_
      refine cp_get (v := .int (u 14 3)) hx hb hts inW hown hK hI (cp_hX _ _ _ _) rfl 14 (by decide) fl_serviceCount rfl rfl dX0_silent_6 ?_
      refine lv_icmp_ge (tgt := 44) hx hb dX0_silent_9 (by decide) (fun c9 => ?_) (fun c9 => ?_)
      · have hk2 := cp_ex hN3 hk c9
        refine lv_iload_n hx hb dX0_silent_44 rfl (lv_at hl 1 rfl) ?_
        exact cp_reti (u := u) (v := (nI (cp_cnt (fun k => u 12 k ≤ u 14 0 ∧ u 13 k = -1) k))) hx hb hr hlocks hK hI ⟨by rw [hk2], rfl⟩ dX0_silent_45
      · have hk2 := cp_in hN3 (by omega) c9
        refine lv_aload_n hx hb dX0_silent_12 rfl (lv_at hl 2 rfl) ?_
        refine cp_get (v := .ref (a 12)) hx hb hts inW hown hK hI (cp_hX _ _ _ _) rfl 16 (by decide) fl_dayOfService rfl rfl dX0_silent_13 ?_
        refine lv_iload_n hx hb dX0_silent_16 rfl (lv_at hl 0 rfl) ?_
        refine cp_iald (f := u 12) hx hb hK hI 0 (cp_aX_12 _ _ _ _) rfl (j := k) (cp_ix_n (by omega) (by decide)) dX0_silent_17 ?_
        refine lv_aload_n hx hb dX0_silent_18 rfl (lv_at hl 2 rfl) ?_
        refine cp_get (v := .int (u 14 0)) hx hb hts inW hown hK hI (cp_hX _ _ _ _) rfl 0 (by decide) fl_today rfl rfl dX0_silent_19 ?_
        refine lv_icmp_gt (tgt := 38) hx hb dX0_silent_22 (by decide) (fun c22 => ?_) (fun c22 => ?_)
        · obtain ⟨x38, ex38⟩ : ∃ y9 : Int32, y9 = (nI k) + 1 := ⟨_, rfl⟩
          refine lv_iinc (v := x38) (lv' := [(2, .int x38), (1, .int (nI (cp_cnt (fun k => u 12 k ≤ u 14 0 ∧ u 13 k = -1) k))), (0, .ref h)]) hx hb dX0_silent_38 hl (k := 0) rfl (by rw [ex38]; rfl) (by decide) rfl (fun ls hl => ?_)
          refine lv_goto (tgt := 4) hx hb dX0_silent_41 (by decide) ?_
          rw [← cp_cnt_f (p := (fun k => u 12 k ≤ u 14 0 ∧ u 13 k = -1)) (by first | exact fun h => absurd h.1 (Int32.not_le.mpr c22) | exact fun h => c32 h.2)] at hl
          obtain rfl : x38 = nI (k + 1) := by rw [ex38]; exact nI_1 k
          exact ih (k + 1) (by omega) (by omega) _ _ hI ls (lv_sub hl [0, 1, 2] rfl)
        · refine lv_aload_n hx hb dX0_silent_25 rfl (lv_at hl 2 rfl) ?_
          refine cp_get (v := .ref (a 13)) hx hb hts inW hown hK hI (cp_hX _ _ _ _) rfl 17 (by decide) fl_hymnOfService rfl rfl dX0_silent_26 ?_
          refine lv_iload_n hx hb dX0_silent_29 rfl (lv_at hl 0 rfl) ?_
          refine cp_iald (f := u 13) hx hb hK hI 0 (cp_aX_13 _ _ _ _) rfl (j := k) (cp_ix_n (by omega) (by decide)) dX0_silent_30 ?_
          refine lv_iconst (v := (-1)) hx hb dX0_silent_31 (by decide) ?_
          refine lv_icmp_ne (tgt := 38) hx hb dX0_silent_32 (by decide) (fun c32 => ?_) (fun c32 => ?_)
          · obtain ⟨x38, ex38⟩ : ∃ y9 : Int32, y9 = (nI k) + 1 := ⟨_, rfl⟩
            refine lv_iinc (v := x38) (lv' := [(2, .int x38), (1, .int (nI (cp_cnt (fun k => u 12 k ≤ u 14 0 ∧ u 13 k = -1) k))), (0, .ref h)]) hx hb dX0_silent_38 hl (k := 0) rfl (by rw [ex38]; rfl) (by decide) rfl (fun ls hl => ?_)
            refine lv_goto (tgt := 4) hx hb dX0_silent_41 (by decide) ?_
            rw [← cp_cnt_f (p := (fun k => u 12 k ≤ u 14 0 ∧ u 13 k = -1)) (by first | exact fun h => absurd h.1 (Int32.not_le.mpr c22) | exact fun h => c32 h.2)] at hl
            obtain rfl : x38 = nI (k + 1) := by rw [ex38]; exact nI_1 k
            exact ih (k + 1) (by omega) (by omega) _ _ hI ls (lv_sub hl [0, 1, 2] rfl)
          · obtain ⟨x35, ex35⟩ : ∃ y9 : Int32, y9 = (nI (cp_cnt (fun k => u 12 k ≤ u 14 0 ∧ u 13 k = -1) k)) + 1 := ⟨_, rfl⟩
            refine lv_iinc (v := x35) (lv' := [(1, .int x35), (2, .int (nI k)), (0, .ref h)]) hx hb dX0_silent_35 hl (k := 1) rfl (by rw [ex35]; rfl) (by decide) rfl (fun ls hl => ?_)
            obtain ⟨x38, ex38⟩ : ∃ y9 : Int32, y9 = (nI k) + 1 := ⟨_, rfl⟩
            refine lv_iinc (v := x38) (lv' := [(2, .int x38), (1, .int x35), (0, .ref h)]) hx hb dX0_silent_38 hl (k := 1) rfl (by rw [ex38]; rfl) (by decide) rfl (fun ls hl => ?_)
            refine lv_goto (tgt := 4) hx hb dX0_silent_41 (by decide) ?_
            obtain rfl : x35 = nI (cp_cnt (fun k => u 12 k ≤ u 14 0 ∧ u 13 k = -1) (k + 1)) := by rw [ex35, cp_cnt_t (p := (fun k => u 12 k ≤ u 14 0 ∧ u 13 k = -1)) ⟨Int32.not_lt.mp c22, c32⟩]; exact nI_1 _
            obtain rfl : x38 = nI (k + 1) := by rw [ex38]; exact nI_1 k
            exact ih (k + 1) (by omega) (by omega) _ _ hI ls (lv_sub hl [0, 1, 2] rfl)
  exact L4 ((cp_n u 3) + 1) 0 (Nat.lt_succ_self _) (Nat.zero_le _) _ _ hI ls (lv_sub hl [0, 1, 2] rfl)
set_option maxHeartbeats 4000000 in
set_option maxRecDepth 100000 in
theorem c_X0_pages (l : Launch) (hst : l.stackTraces = false) (D : va_G) (cI : ClassId) (h : Nat) (a : Nat → Nat) (u : cp_M) (x : Int32) (hN1 : cp_cn u 1 16) : ∀ sz : Nat, vx_Met l yX0_pages wsX0_pages ({ frames := 7, cells := 1, slots := 6, locals := 101 } : Room) (va_Pc [.ref h, .int x] (cp_preZ D [(cI, .int)] (cp_wX cI h a u) sz)) (va_Qi (fun (r : Int32) (u1 : cp_M) => ∃ g, g < cp_n u 1 ∧ x = nI g ∧ r = cp_swar (u 4 g) + 1 ∧ u1 = u) (cp_at D [(cI, .int)] (va_A (cp_wX cI h a u) sz) (cp_wX cI h a)) (va_A (cp_wX cI h a u) sz)) (cp_XC D [(cI, .int)] (cp_wX cI h a) u (fun E => E = R_iob ∧ ¬ (cp_bw x 0 (u 14 1 - 1))) (va_A (cp_wX cI h a u) sz)) 1 6 (va_A (cp_wX cI h a u) sz) := by
  refine cp_MetX (Qk := fun A => va_Qi (fun (r : Int32) (u1 : cp_M) => ∃ g, g < cp_n u 1 ∧ x = nI g ∧ r = cp_swar (u 4 g) + 1 ∧ u1 = u) (cp_at D [(cI, .int)] A (cp_wX cI h a)) A) (XCk := fun A => cp_XC D [(cI, .int)] (cp_wX cI h a) u (fun E => E = R_iob ∧ ¬ (cp_bw x 0 (u 14 1 - 1))) A) (by decide) rfl (Nat.le_of_ble_eq_true rfl) ?_
  intro p e s m args below meth c A hC hA hK hI hZ hno ls hl
  obtain ⟨hx, hb, hml, hown, hts, hr, hlocks⟩ := hC
  have hown : s.vm.findClass RX0 = some m.cls := hown
  have hl : lv_has ls 2 [(0, .ref h), (1, .int x)] := hl
  have inW : ∀ w ∈ wsX00, w ∈ wsX0_pages := by decide +kernel
  refine lv_aload_n hx hb dX0_pages_0 rfl (lv_at hl 0 rfl) ?_
  refine lv_iload_n hx hb dX0_pages_1 rfl (lv_at hl 1 rfl) ?_
  refine cp_cVi0 (wc := cp_wX cI h a) (u := u) (As := [.int x]) (rest := []) ⟨hx, hb, hml, hown, hts⟩ (c_X0_isHymn l D cI h a u x) (cwV 1 hts gX0_pages_X0_isHymn rfl rfl rfl (by decide +kernel) ⟨Nat.le_of_ble_eq_true rfl, Nat.le_of_ble_eq_true rfl⟩) hK hI hA ⟨_, cp_hX _ _ _ _⟩ rfl rfl rfl hl.1 rfl (Nat.le_of_ble_eq_true rfl) dX0_pages_2 ⟨Nat.le_of_ble_eq_true rfl, Nat.le_of_ble_eq_true rfl⟩ (fun r2 u2 H locs hp2 hI => ?_)
  obtain ⟨rfl, e9⟩ := hp2
  rw [e9] at hI
  rcases Classical.em (cp_bw x 0 (u 14 1 - 1)) with c5 | c5
  · rw [cp_bt c5]
    refine cp_cSv0 (As := [.int 1]) (rest := []) ⟨hx, hb, hml, hown, hts⟩ (c_X0_needIndex_ok l D) (va_cwS 1 hts gX0_pages_X0_needIndex rfl rfl rfl (by decide +kernel) ⟨Nat.le_of_ble_eq_true rfl, Nat.le_of_ble_eq_true rfl⟩) hK hI hA rfl hl.1 rfl (Nat.le_of_ble_eq_true rfl) dX0_pages_5 ⟨Nat.le_of_ble_eq_true rfl, Nat.le_of_ble_eq_true rfl⟩ (fun u5 H locs hp5 hI => ?_)
    obtain ⟨g, hg, rfl⟩ := cp_idx hN1 c5
    have hN9 := hN1.2.1
    refine lv_aload_n hx hb dX0_pages_8 rfl (lv_at hl 0 rfl) ?_
    refine lv_iload_n hx hb dX0_pages_9 rfl (lv_at hl 1 rfl) ?_
    refine cp_cVi0 (wc := cp_wX cI h a) (u := u) (As := [.int (nI g)]) (rest := []) ⟨hx, hb, hml, hown, hts⟩ (c_X0_pageCount l D cI h a u g (by omega)) (cwV 1 hts gX0_pages_X0_pageCount rfl rfl rfl (by decide +kernel) ⟨Nat.le_of_ble_eq_true rfl, Nat.le_of_ble_eq_true rfl⟩) hK hI hA ⟨_, cp_hX _ _ _ _⟩ rfl rfl rfl hl.1 rfl (Nat.le_of_ble_eq_true rfl) dX0_pages_10 ⟨Nat.le_of_ble_eq_true rfl, Nat.le_of_ble_eq_true rfl⟩ (fun r10 u10 H locs hp10 hI => ?_)
    obtain ⟨rfl, e9⟩ := hp10
    rw [e9] at hI
    refine vx_ret ?_
    refine W.widen (k := 1) (n := 6) (Nat.le_of_ble_eq_true rfl) (Nat.le_of_ble_eq_true rfl) ?_
    exact cp_reti (u := u) (v := (cp_swar (u 4 g) + 1)) hx hb hr hlocks hK hI ⟨g, hg, rfl, rfl, rfl⟩ dX0_pages_13
  · rw [cp_bf c5]
    exact cp_thr (As := [.int 0]) (rest := []) ⟨hx, hb, hml, hown, hts⟩ (c_X0_needIndex_thr l hst D) (va_cwS 1 hts gX0_pages_X0_needIndex rfl rfl rfl (by decide +kernel) ⟨Nat.le_of_ble_eq_true rfl, Nat.le_of_ble_eq_true rfl⟩) hK hI hA hZ hno hlocks rfl hl.1 rfl (Nat.le_of_ble_eq_true rfl) dX0_pages_5 ⟨Nat.le_of_ble_eq_true rfl, Nat.le_of_ble_eq_true rfl⟩ rfl ⟨rfl, c5⟩
set_option maxHeartbeats 4000000 in
set_option maxRecDepth 100000 in
theorem c_X0_pageOf (l : Launch) (hst : l.stackTraces = false) (D : va_G) (cI : ClassId) (h : Nat) (a : Nat → Nat) (u : cp_M) (x : Int32) (ln : Int32) (hN1 : cp_cn u 1 16) : ∀ sz : Nat, vx_Met l yX0_pageOf wsX0_pageOf ({ frames := 7, cells := 1, slots := 6, locals := 101 } : Room) (va_Pc [.ref h, .int x, .int ln] (cp_preZ D [(cI, .int)] (cp_wX cI h a u) sz)) (va_Qi (fun (r : Int32) (u1 : cp_M) => ∃ g, g < cp_n u 1 ∧ x = nI g ∧ cp_bw ln 0 (u 2 g - 1) ∧ r = cp_swar (u 4 g &&& ((1 <<< (ln &&& 31)) - 1)) ∧ u1 = u) (cp_at D [(cI, .int)] (va_A (cp_wX cI h a u) sz) (cp_wX cI h a)) (va_A (cp_wX cI h a u) sz)) (cp_XC D [(cI, .int)] (cp_wX cI h a) u (fun E => E = R_iob ∧ (¬ (cp_bw x 0 (u 14 1 - 1)) ∨ ∃ g, g < cp_n u 1 ∧ x = nI g ∧ ¬ cp_bw ln 0 (u 2 g - 1))) (va_A (cp_wX cI h a u) sz)) 1 6 (va_A (cp_wX cI h a u) sz) := by
  refine cp_MetX (Qk := fun A => va_Qi (fun (r : Int32) (u1 : cp_M) => ∃ g, g < cp_n u 1 ∧ x = nI g ∧ cp_bw ln 0 (u 2 g - 1) ∧ r = cp_swar (u 4 g &&& ((1 <<< (ln &&& 31)) - 1)) ∧ u1 = u) (cp_at D [(cI, .int)] A (cp_wX cI h a)) A) (XCk := fun A => cp_XC D [(cI, .int)] (cp_wX cI h a) u (fun E => E = R_iob ∧ (¬ (cp_bw x 0 (u 14 1 - 1)) ∨ ∃ g, g < cp_n u 1 ∧ x = nI g ∧ ¬ cp_bw ln 0 (u 2 g - 1))) A) (by decide) rfl (Nat.le_of_ble_eq_true rfl) ?_
  intro p e s m args below meth c A hC hA hK hI hZ hno ls hl
  obtain ⟨hx, hb, hml, hown, hts, hr, hlocks⟩ := hC
  have hown : s.vm.findClass RX0 = some m.cls := hown
  have hl : lv_has ls 4 [(0, .ref h), (1, .int x), (2, .int ln)] := hl
  have inW : ∀ w ∈ wsX00, w ∈ wsX0_pageOf := by decide +kernel
  have fl_linesOfHymn : Cond.fieldLink RX0 16 "CanticlePress" "linesOfHymn" "[I" ∈ wsX0_pageOf := by decide +kernel
  have fl_turnsOfHymn : Cond.fieldLink RX0 22 "CanticlePress" "turnsOfHymn" "[I" ∈ wsX0_pageOf := by decide +kernel
  refine lv_aload_n hx hb dX0_pageOf_0 rfl (lv_at hl 0 rfl) ?_
  refine lv_iload_n hx hb dX0_pageOf_1 rfl (lv_at hl 1 rfl) ?_
  refine cp_cVi0 (wc := cp_wX cI h a) (u := u) (As := [.int x]) (rest := []) ⟨hx, hb, hml, hown, hts⟩ (c_X0_isHymn l D cI h a u x) (cwV 1 hts gX0_pageOf_X0_isHymn rfl rfl rfl (by decide +kernel) ⟨Nat.le_of_ble_eq_true rfl, Nat.le_of_ble_eq_true rfl⟩) hK hI hA ⟨_, cp_hX _ _ _ _⟩ rfl rfl rfl hl.1 rfl (Nat.le_of_ble_eq_true rfl) dX0_pageOf_2 ⟨Nat.le_of_ble_eq_true rfl, Nat.le_of_ble_eq_true rfl⟩ (fun r2 u2 H locs hp2 hI => ?_)
  obtain ⟨rfl, e9⟩ := hp2
  rw [e9] at hI
  rcases Classical.em (cp_bw x 0 (u 14 1 - 1)) with c5 | c5
  · rw [cp_bt c5]
    refine cp_cSv0 (As := [.int 1]) (rest := []) ⟨hx, hb, hml, hown, hts⟩ (c_X0_needIndex_ok l D) (va_cwS 1 hts gX0_pageOf_X0_needIndex rfl rfl rfl (by decide +kernel) ⟨Nat.le_of_ble_eq_true rfl, Nat.le_of_ble_eq_true rfl⟩) hK hI hA rfl hl.1 rfl (Nat.le_of_ble_eq_true rfl) dX0_pageOf_5 ⟨Nat.le_of_ble_eq_true rfl, Nat.le_of_ble_eq_true rfl⟩ (fun u5 H locs hp5 hI => ?_)
    obtain ⟨g, hg, rfl⟩ := cp_idx hN1 c5
    have hN9 := hN1.2.1
    refine lv_iload_n hx hb dX0_pageOf_8 rfl (lv_at hl 2 rfl) ?_
    refine lv_iconst (v := 0) hx hb dX0_pageOf_9 (by decide) ?_
    refine lv_aload_n hx hb dX0_pageOf_10 rfl (lv_at hl 0 rfl) ?_
    refine cp_get (v := .ref (a 2)) hx hb hts inW hown hK hI (cp_hX _ _ _ _) rfl 4 (by decide) fl_linesOfHymn rfl rfl dX0_pageOf_11 ?_
    refine lv_iload_n hx hb dX0_pageOf_14 rfl (lv_at hl 1 rfl) ?_
    refine cp_iald (f := u 2) hx hb hK hI 0 (cp_aX_2 _ _ _ _) rfl (j := g) (cp_ix_n (by omega) (by decide)) dX0_pageOf_15 ?_
    refine lv_iconst (v := 1) hx hb dX0_pageOf_16 (by decide) ?_
    refine lv_isub hx hb dX0_pageOf_17 ?_
    refine cp_cSi0 (As := [.int ln, .int 0, .int ((u 2 g) - 1)]) (rest := []) ⟨hx, hb, hml, hown, hts⟩ ((c_X0_isBetween l ln 0 ((u 2 g) - 1)) D) (va_cwS 3 hts gX0_pageOf_X0_isBetween rfl rfl rfl (by decide +kernel) ⟨Nat.le_of_ble_eq_true rfl, Nat.le_of_ble_eq_true rfl⟩) hK hI hA rfl hl.1 rfl (Nat.le_of_ble_eq_true rfl) dX0_pageOf_18 ⟨Nat.le_of_ble_eq_true rfl, Nat.le_of_ble_eq_true rfl⟩ (fun r18 u18 H locs hp18 hI => ?_)
    obtain rfl := hp18
    rcases Classical.em (cp_bw ln 0 ((u 2 g) - 1)) with c21 | c21
    · rw [cp_bt c21]
      refine cp_cSv0 (As := [.int 1]) (rest := []) ⟨hx, hb, hml, hown, hts⟩ (c_X0_needIndex_ok l D) (va_cwS 1 hts gX0_pageOf_X0_needIndex rfl rfl rfl (by decide +kernel) ⟨Nat.le_of_ble_eq_true rfl, Nat.le_of_ble_eq_true rfl⟩) hK hI hA rfl hl.1 rfl (Nat.le_of_ble_eq_true rfl) dX0_pageOf_21 ⟨Nat.le_of_ble_eq_true rfl, Nat.le_of_ble_eq_true rfl⟩ (fun u21 H locs hp21 hI => ?_)
      refine lv_iconst (v := 1) hx hb dX0_pageOf_24 (by decide) ?_
      refine lv_iload_n hx hb dX0_pageOf_25 rfl (lv_at hl 2 rfl) ?_
      refine lv_ishl hx hb dX0_pageOf_26 ?_
      refine lv_iconst (v := 1) hx hb dX0_pageOf_27 (by decide) ?_
      refine lv_isub hx hb dX0_pageOf_28 ?_
      refine lv_topi (fun x29 ex29 => ?_)
      refine lv_istore_n (lv' := [(3, .int x29), (0, .ref h), (1, .int (nI g)), (2, .int ln)]) hx hb dX0_pageOf_29 rfl hl (by decide) rfl (fun ls hl => ?_)
      refine lv_aload_n hx hb dX0_pageOf_30 rfl (lv_at hl 1 rfl) ?_
      refine cp_get (v := .ref (a 4)) hx hb hts inW hown hK hI (cp_hX _ _ _ _) rfl 6 (by decide) fl_turnsOfHymn rfl rfl dX0_pageOf_31 ?_
      refine lv_iload_n hx hb dX0_pageOf_34 rfl (lv_at hl 2 rfl) ?_
      refine cp_iald (f := u 4) hx hb hK hI 0 (cp_aX_4 _ _ _ _) rfl (j := g) (cp_ix_n (by omega) (by decide)) dX0_pageOf_35 ?_
      refine lv_iload_n hx hb dX0_pageOf_36 rfl (lv_at hl 0 rfl) ?_
      refine lv_iand hx hb dX0_pageOf_37 ?_
      refine cp_cSi0 (As := [.int ((u 4 g) &&& x29)]) (rest := []) ⟨hx, hb, hml, hown, hts⟩ ((c_J6_bitCount_0f7a4 l ((u 4 g) &&& x29)) D) (va_cwS 1 hts gX0_pageOf_J6_bitCount_0f7a4 rfl rfl rfl (by decide +kernel) ⟨Nat.le_of_ble_eq_true rfl, Nat.le_of_ble_eq_true rfl⟩) hK hI hA rfl hl.1 rfl (Nat.le_of_ble_eq_true rfl) dX0_pageOf_38 ⟨Nat.le_of_ble_eq_true rfl, Nat.le_of_ble_eq_true rfl⟩ (fun r38 u38 H locs hp38 hI => ?_)
      obtain rfl := hp38
      refine vx_ret ?_
      refine W.widen (k := 1) (n := 6) (Nat.le_of_ble_eq_true rfl) (Nat.le_of_ble_eq_true rfl) ?_
      exact cp_reti (u := u) (v := (cp_swar ((u 4 g) &&& x29))) hx hb hr hlocks hK hI ⟨g, hg, rfl, c21, by rw [ex29], rfl⟩ dX0_pageOf_41
    · rw [cp_bf c21]
      exact cp_thr (As := [.int 0]) (rest := []) ⟨hx, hb, hml, hown, hts⟩ (c_X0_needIndex_thr l hst D) (va_cwS 1 hts gX0_pageOf_X0_needIndex rfl rfl rfl (by decide +kernel) ⟨Nat.le_of_ble_eq_true rfl, Nat.le_of_ble_eq_true rfl⟩) hK hI hA hZ hno hlocks rfl hl.1 rfl (Nat.le_of_ble_eq_true rfl) dX0_pageOf_21 ⟨Nat.le_of_ble_eq_true rfl, Nat.le_of_ble_eq_true rfl⟩ rfl ⟨rfl, Or.inr ⟨g, hg, rfl, c21⟩⟩
  · rw [cp_bf c5]
    exact cp_thr (As := [.int 0]) (rest := []) ⟨hx, hb, hml, hown, hts⟩ (c_X0_needIndex_thr l hst D) (va_cwS 1 hts gX0_pageOf_X0_needIndex rfl rfl rfl (by decide +kernel) ⟨Nat.le_of_ble_eq_true rfl, Nat.le_of_ble_eq_true rfl⟩) hK hI hA hZ hno hlocks rfl hl.1 rfl (Nat.le_of_ble_eq_true rfl) dX0_pageOf_5 ⟨Nat.le_of_ble_eq_true rfl, Nat.le_of_ble_eq_true rfl⟩ rfl ⟨rfl, Or.inl c5⟩
set_option maxHeartbeats 4000000 in
set_option maxRecDepth 100000 in
theorem c_X0_badTurns (l : Launch) (hst : l.stackTraces = false) (D : va_G) (cI : ClassId) (h : Nat) (a : Nat → Nat) (u : cp_M) (x : Int32) (hN1 : cp_cn u 1 16) : ∀ sz : Nat, vx_Met l yX0_badTurns wsX0_badTurns ({ frames := 7, cells := 1, slots := 6, locals := 101 } : Room) (va_Pc [.ref h, .int x] (cp_preZ D [(cI, .int)] (cp_wX cI h a u) sz)) (va_Qi (fun (r : Int32) (u1 : cp_M) => ∃ g, g < cp_n u 1 ∧ x = nI g ∧ r = cp_swar (u 4 g &&& (u 3 g ^^^ (-1))) ∧ u1 = u) (cp_at D [(cI, .int)] (va_A (cp_wX cI h a u) sz) (cp_wX cI h a)) (va_A (cp_wX cI h a u) sz)) (cp_XC D [(cI, .int)] (cp_wX cI h a) u (fun E => E = R_iob ∧ ¬ (cp_bw x 0 (u 14 1 - 1))) (va_A (cp_wX cI h a u) sz)) 1 6 (va_A (cp_wX cI h a u) sz) := by
  refine cp_MetX (Qk := fun A => va_Qi (fun (r : Int32) (u1 : cp_M) => ∃ g, g < cp_n u 1 ∧ x = nI g ∧ r = cp_swar (u 4 g &&& (u 3 g ^^^ (-1))) ∧ u1 = u) (cp_at D [(cI, .int)] A (cp_wX cI h a)) A) (XCk := fun A => cp_XC D [(cI, .int)] (cp_wX cI h a) u (fun E => E = R_iob ∧ ¬ (cp_bw x 0 (u 14 1 - 1))) A) (by decide) rfl (Nat.le_of_ble_eq_true rfl) ?_
  intro p e s m args below meth c A hC hA hK hI hZ hno ls hl
  obtain ⟨hx, hb, hml, hown, hts, hr, hlocks⟩ := hC
  have hown : s.vm.findClass RX0 = some m.cls := hown
  have hl : lv_has ls 2 [(0, .ref h), (1, .int x)] := hl
  have inW : ∀ w ∈ wsX00, w ∈ wsX0_badTurns := by decide +kernel
  have fl_restsOfHymn : Cond.fieldLink RX0 19 "CanticlePress" "restsOfHymn" "[I" ∈ wsX0_badTurns := by decide +kernel
  have fl_turnsOfHymn : Cond.fieldLink RX0 22 "CanticlePress" "turnsOfHymn" "[I" ∈ wsX0_badTurns := by decide +kernel
  refine lv_aload_n hx hb dX0_badTurns_0 rfl (lv_at hl 0 rfl) ?_
  refine lv_iload_n hx hb dX0_badTurns_1 rfl (lv_at hl 1 rfl) ?_
  refine cp_cVi0 (wc := cp_wX cI h a) (u := u) (As := [.int x]) (rest := []) ⟨hx, hb, hml, hown, hts⟩ (c_X0_isHymn l D cI h a u x) (cwV 1 hts gX0_badTurns_X0_isHymn rfl rfl rfl (by decide +kernel) ⟨Nat.le_of_ble_eq_true rfl, Nat.le_of_ble_eq_true rfl⟩) hK hI hA ⟨_, cp_hX _ _ _ _⟩ rfl rfl rfl hl.1 rfl (Nat.le_of_ble_eq_true rfl) dX0_badTurns_2 ⟨Nat.le_of_ble_eq_true rfl, Nat.le_of_ble_eq_true rfl⟩ (fun r2 u2 H locs hp2 hI => ?_)
  obtain ⟨rfl, e9⟩ := hp2
  rw [e9] at hI
  rcases Classical.em (cp_bw x 0 (u 14 1 - 1)) with c5 | c5
  · rw [cp_bt c5]
    refine cp_cSv0 (As := [.int 1]) (rest := []) ⟨hx, hb, hml, hown, hts⟩ (c_X0_needIndex_ok l D) (va_cwS 1 hts gX0_badTurns_X0_needIndex rfl rfl rfl (by decide +kernel) ⟨Nat.le_of_ble_eq_true rfl, Nat.le_of_ble_eq_true rfl⟩) hK hI hA rfl hl.1 rfl (Nat.le_of_ble_eq_true rfl) dX0_badTurns_5 ⟨Nat.le_of_ble_eq_true rfl, Nat.le_of_ble_eq_true rfl⟩ (fun u5 H locs hp5 hI => ?_)
    obtain ⟨g, hg, rfl⟩ := cp_idx hN1 c5
    have hN9 := hN1.2.1
    refine lv_aload_n hx hb dX0_badTurns_8 rfl (lv_at hl 0 rfl) ?_
    refine cp_get (v := .ref (a 4)) hx hb hts inW hown hK hI (cp_hX _ _ _ _) rfl 6 (by decide) fl_turnsOfHymn rfl rfl dX0_badTurns_9 ?_
    refine lv_iload_n hx hb dX0_badTurns_12 rfl (lv_at hl 1 rfl) ?_
    refine cp_iald (f := u 4) hx hb hK hI 0 (cp_aX_4 _ _ _ _) rfl (j := g) (cp_ix_n (by omega) (by decide)) dX0_badTurns_13 ?_
    refine lv_aload_n hx hb dX0_badTurns_14 rfl (lv_at hl 0 rfl) ?_
    refine cp_get (v := .ref (a 3)) hx hb hts inW hown hK hI (cp_hX _ _ _ _) rfl 5 (by decide) fl_restsOfHymn rfl rfl dX0_badTurns_15 ?_
    refine lv_iload_n hx hb dX0_badTurns_18 rfl (lv_at hl 1 rfl) ?_
    refine cp_iald (f := u 3) hx hb hK hI 0 (cp_aX_3 _ _ _ _) rfl (j := g) (cp_ix_n (by omega) (by decide)) dX0_badTurns_19 ?_
    refine lv_iconst (v := (-1)) hx hb dX0_badTurns_20 (by decide) ?_
    refine lv_ixor hx hb dX0_badTurns_21 ?_
    refine lv_iand hx hb dX0_badTurns_22 ?_
    refine cp_cSi0 (As := [.int ((u 4 g) &&& ((u 3 g) ^^^ (-1)))]) (rest := []) ⟨hx, hb, hml, hown, hts⟩ ((c_J6_bitCount_0f7a4 l ((u 4 g) &&& ((u 3 g) ^^^ (-1)))) D) (va_cwS 1 hts gX0_badTurns_J6_bitCount_0f7a4 rfl rfl rfl (by decide +kernel) ⟨Nat.le_of_ble_eq_true rfl, Nat.le_of_ble_eq_true rfl⟩) hK hI hA rfl hl.1 rfl (Nat.le_of_ble_eq_true rfl) dX0_badTurns_23 ⟨Nat.le_of_ble_eq_true rfl, Nat.le_of_ble_eq_true rfl⟩ (fun r23 u23 H locs hp23 hI => ?_)
    obtain rfl := hp23
    refine vx_ret ?_
    refine W.widen (k := 1) (n := 6) (Nat.le_of_ble_eq_true rfl) (Nat.le_of_ble_eq_true rfl) ?_
    exact cp_reti (u := u) (v := (cp_swar ((u 4 g) &&& ((u 3 g) ^^^ (-1))))) hx hb hr hlocks hK hI ⟨g, hg, rfl, rfl, rfl⟩ dX0_badTurns_26
  · rw [cp_bf c5]
    exact cp_thr (As := [.int 0]) (rest := []) ⟨hx, hb, hml, hown, hts⟩ (c_X0_needIndex_thr l hst D) (va_cwS 1 hts gX0_badTurns_X0_needIndex rfl rfl rfl (by decide +kernel) ⟨Nat.le_of_ble_eq_true rfl, Nat.le_of_ble_eq_true rfl⟩) hK hI hA hZ hno hlocks rfl hl.1 rfl (Nat.le_of_ble_eq_true rfl) dX0_badTurns_5 ⟨Nat.le_of_ble_eq_true rfl, Nat.le_of_ble_eq_true rfl⟩ rfl ⟨rfl, c5⟩
set_option maxHeartbeats 4000000 in
set_option maxRecDepth 100000 in
theorem c_X0_hymn (l : Launch) (hst : l.stackTraces = false) (D : va_G) (cI : ClassId) (h : Nat) (a : Nat → Nat) (u : cp_M) (ow : Int32) (se : Int32) (li : Int32) (re : Int32) (hN1 : cp_cn u 1 16) : ∀ sz : Nat, vx_Met l yX0_hymn wsX0_hymn ({ frames := 7, cells := 1, slots := 6, locals := 101 } : Room) (va_Pc [.ref h, .int ow, .int se, .int li, .int re] (cp_preZ D [(cI, .int)] (cp_wX cI h a u) sz)) (va_Qi (fun (r : Int32) (u1 : cp_M) => cp_bw ow 0 4 ∧ (cp_bw se 1 15 ∧ cp_bw li 1 30 ∧ cp_bw re 0 ((1 <<< (li &&& 31)) - 1)) ∧ ¬ (16 : Int32) ≤ u 14 1 ∧ r = u 14 1 ∧ ∃ L, 1 ≤ L ∧ L ≤ 30 ∧ li = nI L ∧ u1 = cp_addH u ow se li re (cp_tn (cp_q re) L L 0 0)) (cp_at D [(cI, .int)] (va_A (cp_wX cI h a u) sz) (cp_wX cI h a)) (va_A (cp_wX cI h a u) sz)) (cp_XC D [(cI, .int)] (cp_wX cI h a) u (fun E => (E = R_iob ∧ ¬ cp_bw ow 0 4) ∨ (E = R_iae ∧ cp_bw ow 0 4 ∧ ¬ (cp_bw se 1 15 ∧ cp_bw li 1 30 ∧ cp_bw re 0 ((1 <<< (li &&& 31)) - 1))) ∨ (E = R_ise ∧ cp_bw ow 0 4 ∧ (cp_bw se 1 15 ∧ cp_bw li 1 30 ∧ cp_bw re 0 ((1 <<< (li &&& 31)) - 1)) ∧ ¬ ¬ (16 : Int32) ≤ u 14 1)) (va_A (cp_wX cI h a u) sz)) 1 6 (va_A (cp_wX cI h a u) sz) := by
  refine cp_MetX (Qk := fun A => va_Qi (fun (r : Int32) (u1 : cp_M) => cp_bw ow 0 4 ∧ (cp_bw se 1 15 ∧ cp_bw li 1 30 ∧ cp_bw re 0 ((1 <<< (li &&& 31)) - 1)) ∧ ¬ (16 : Int32) ≤ u 14 1 ∧ r = u 14 1 ∧ ∃ L, 1 ≤ L ∧ L ≤ 30 ∧ li = nI L ∧ u1 = cp_addH u ow se li re (cp_tn (cp_q re) L L 0 0)) (cp_at D [(cI, .int)] A (cp_wX cI h a)) A) (XCk := fun A => cp_XC D [(cI, .int)] (cp_wX cI h a) u (fun E => (E = R_iob ∧ ¬ cp_bw ow 0 4) ∨ (E = R_iae ∧ cp_bw ow 0 4 ∧ ¬ (cp_bw se 1 15 ∧ cp_bw li 1 30 ∧ cp_bw re 0 ((1 <<< (li &&& 31)) - 1))) ∨ (E = R_ise ∧ cp_bw ow 0 4 ∧ (cp_bw se 1 15 ∧ cp_bw li 1 30 ∧ cp_bw re 0 ((1 <<< (li &&& 31)) - 1)) ∧ ¬ ¬ (16 : Int32) ≤ u 14 1)) A) (by decide) rfl (Nat.le_of_ble_eq_true rfl) ?_
  intro p e s m args below meth c A hC hA hK hI hZ hno ls hl
  obtain ⟨hx, hb, hml, hown, hts, hr, hlocks⟩ := hC
  have hown : s.vm.findClass RX0 = some m.cls := hown
  have hl : lv_has ls 6 [(0, .ref h), (1, .int ow), (2, .int se), (3, .int li), (4, .int re)] := hl
  have inW : ∀ w ∈ wsX00, w ∈ wsX0_hymn := by decide +kernel
  have fl_hymnCount : Cond.fieldLink RX0 67 "CanticlePress" "hymnCount" "I" ∈ wsX0_hymn := by decide +kernel
  have fl_linesOfHymn : Cond.fieldLink RX0 16 "CanticlePress" "linesOfHymn" "[I" ∈ wsX0_hymn := by decide +kernel
  have fl_ownerOfHymn : Cond.fieldLink RX0 9 "CanticlePress" "ownerOfHymn" "[I" ∈ wsX0_hymn := by decide +kernel
  have fl_restsOfHymn : Cond.fieldLink RX0 19 "CanticlePress" "restsOfHymn" "[I" ∈ wsX0_hymn := by decide +kernel
  have fl_seasonsOfHymn : Cond.fieldLink RX0 13 "CanticlePress" "seasonsOfHymn" "[I" ∈ wsX0_hymn := by decide +kernel
  have fl_turnsOfHymn : Cond.fieldLink RX0 22 "CanticlePress" "turnsOfHymn" "[I" ∈ wsX0_hymn := by decide +kernel
  refine lv_iload_n hx hb dX0_hymn_0 rfl (lv_at hl 1 rfl) ?_
  refine cp_cSi0 (As := [.int ow]) (rest := []) ⟨hx, hb, hml, hown, hts⟩ ((c_X0_isOwner l ow) D) (va_cwS 1 hts gX0_hymn_X0_isOwner rfl rfl rfl (by decide +kernel) ⟨Nat.le_of_ble_eq_true rfl, Nat.le_of_ble_eq_true rfl⟩) hK hI hA rfl hl.1 rfl (Nat.le_of_ble_eq_true rfl) dX0_hymn_1 ⟨Nat.le_of_ble_eq_true rfl, Nat.le_of_ble_eq_true rfl⟩ (fun r1 u1 H locs hp1 hI => ?_)
  obtain rfl := hp1
  rcases Classical.em (cp_bw ow 0 4) with c4 | c4
  · rw [cp_bt c4]
    refine cp_cSv0 (As := [.int 1]) (rest := []) ⟨hx, hb, hml, hown, hts⟩ (c_X0_needIndex_ok l D) (va_cwS 1 hts gX0_hymn_X0_needIndex rfl rfl rfl (by decide +kernel) ⟨Nat.le_of_ble_eq_true rfl, Nat.le_of_ble_eq_true rfl⟩) hK hI hA rfl hl.1 rfl (Nat.le_of_ble_eq_true rfl) dX0_hymn_4 ⟨Nat.le_of_ble_eq_true rfl, Nat.le_of_ble_eq_true rfl⟩ (fun u4 H locs hp4 hI => ?_)
    refine lv_iload_n hx hb dX0_hymn_7 rfl (lv_at hl 2 rfl) ?_
    refine lv_iconst (v := 1) hx hb dX0_hymn_8 (by decide) ?_
    refine lv_bipush (v := 15) hx hb dX0_hymn_9 (by decide) ?_
    refine cp_cSi0 (As := [.int se, .int 1, .int 15]) (rest := []) ⟨hx, hb, hml, hown, hts⟩ ((c_X0_isBetween l se 1 15) D) (va_cwS 3 hts gX0_hymn_X0_isBetween rfl rfl rfl (by decide +kernel) ⟨Nat.le_of_ble_eq_true rfl, Nat.le_of_ble_eq_true rfl⟩) hK hI hA rfl hl.1 rfl (Nat.le_of_ble_eq_true rfl) dX0_hymn_11 ⟨Nat.le_of_ble_eq_true rfl, Nat.le_of_ble_eq_true rfl⟩ (fun r11 u11 H locs hp11 hI => ?_)
    obtain rfl := hp11
    rcases Classical.em (cp_bw se 1 15) with c14 | c14
    · rw [cp_bt c14]
      refine cp_cSv0 (As := [.int 1]) (rest := []) ⟨hx, hb, hml, hown, hts⟩ (c_X0_needArgument_ok l D) (va_cwS 1 hts gX0_hymn_X0_needArgument rfl rfl rfl (by decide +kernel) ⟨Nat.le_of_ble_eq_true rfl, Nat.le_of_ble_eq_true rfl⟩) hK hI hA rfl hl.1 rfl (Nat.le_of_ble_eq_true rfl) dX0_hymn_14 ⟨Nat.le_of_ble_eq_true rfl, Nat.le_of_ble_eq_true rfl⟩ (fun u14 H locs hp14 hI => ?_)
      refine lv_iload_n hx hb dX0_hymn_17 rfl (lv_at hl 3 rfl) ?_
      refine lv_iconst (v := 1) hx hb dX0_hymn_18 (by decide) ?_
      refine lv_bipush (v := 30) hx hb dX0_hymn_19 (by decide) ?_
      refine cp_cSi0 (As := [.int li, .int 1, .int 30]) (rest := []) ⟨hx, hb, hml, hown, hts⟩ ((c_X0_isBetween l li 1 30) D) (va_cwS 3 hts gX0_hymn_X0_isBetween rfl rfl rfl (by decide +kernel) ⟨Nat.le_of_ble_eq_true rfl, Nat.le_of_ble_eq_true rfl⟩) hK hI hA rfl hl.1 rfl (Nat.le_of_ble_eq_true rfl) dX0_hymn_21 ⟨Nat.le_of_ble_eq_true rfl, Nat.le_of_ble_eq_true rfl⟩ (fun r21 u21 H locs hp21 hI => ?_)
      obtain rfl := hp21
      rcases Classical.em (cp_bw li 1 30) with c24 | c24
      · rw [cp_bt c24]
        refine cp_cSv0 (As := [.int 1]) (rest := []) ⟨hx, hb, hml, hown, hts⟩ (c_X0_needArgument_ok l D) (va_cwS 1 hts gX0_hymn_X0_needArgument rfl rfl rfl (by decide +kernel) ⟨Nat.le_of_ble_eq_true rfl, Nat.le_of_ble_eq_true rfl⟩) hK hI hA rfl hl.1 rfl (Nat.le_of_ble_eq_true rfl) dX0_hymn_24 ⟨Nat.le_of_ble_eq_true rfl, Nat.le_of_ble_eq_true rfl⟩ (fun u24 H locs hp24 hI => ?_)
        refine lv_iload hx hb dX0_hymn_27 (lv_at hl 4 rfl) ?_
        refine lv_iconst (v := 0) hx hb dX0_hymn_29 (by decide) ?_
        refine lv_iconst (v := 1) hx hb dX0_hymn_30 (by decide) ?_
        refine lv_iload_n hx hb dX0_hymn_31 rfl (lv_at hl 3 rfl) ?_
        refine lv_ishl hx hb dX0_hymn_32 ?_
        refine lv_iconst (v := 1) hx hb dX0_hymn_33 (by decide) ?_
        refine lv_isub hx hb dX0_hymn_34 ?_
        refine cp_cSi0 (As := [.int re, .int 0, .int ((1 <<< (li &&& 31)) - 1)]) (rest := []) ⟨hx, hb, hml, hown, hts⟩ ((c_X0_isBetween l re 0 ((1 <<< (li &&& 31)) - 1)) D) (va_cwS 3 hts gX0_hymn_X0_isBetween rfl rfl rfl (by decide +kernel) ⟨Nat.le_of_ble_eq_true rfl, Nat.le_of_ble_eq_true rfl⟩) hK hI hA rfl hl.1 rfl (Nat.le_of_ble_eq_true rfl) dX0_hymn_35 ⟨Nat.le_of_ble_eq_true rfl, Nat.le_of_ble_eq_true rfl⟩ (fun r35 u35 H locs hp35 hI => ?_)
        obtain rfl := hp35
        rcases Classical.em (cp_bw re 0 ((1 <<< (li &&& 31)) - 1)) with c38 | c38
        · rw [cp_bt c38]
          refine cp_cSv0 (As := [.int 1]) (rest := []) ⟨hx, hb, hml, hown, hts⟩ (c_X0_needArgument_ok l D) (va_cwS 1 hts gX0_hymn_X0_needArgument rfl rfl rfl (by decide +kernel) ⟨Nat.le_of_ble_eq_true rfl, Nat.le_of_ble_eq_true rfl⟩) hK hI hA rfl hl.1 rfl (Nat.le_of_ble_eq_true rfl) dX0_hymn_38 ⟨Nat.le_of_ble_eq_true rfl, Nat.le_of_ble_eq_true rfl⟩ (fun u38 H locs hp38 hI => ?_)
          refine lv_aload_n hx hb dX0_hymn_41 rfl (lv_at hl 0 rfl) ?_
          refine cp_get (v := .int (u 14 1)) hx hb hts inW hown hK hI (cp_hX _ _ _ _) rfl 1 (by decide) fl_hymnCount rfl rfl dX0_hymn_42 ?_
          refine lv_bipush (v := 16) hx hb dX0_hymn_45 (by decide) ?_
          refine lv_icmp_ge (tgt := 54) hx hb dX0_hymn_47 (by decide) (fun c47 => ?_) (fun c47 => ?_)
          · refine lv_iconst (v := 0) hx hb dX0_hymn_54 (by decide) ?_
            exact cp_thr (As := [.int 0]) (rest := []) ⟨hx, hb, hml, hown, hts⟩ (c_X0_needState_thr l hst D) (va_cwS 1 hts gX0_hymn_X0_needState rfl rfl rfl (by decide +kernel) ⟨Nat.le_of_ble_eq_true rfl, Nat.le_of_ble_eq_true rfl⟩) hK hI hA hZ hno hlocks rfl hl.1 rfl (Nat.le_of_ble_eq_true rfl) dX0_hymn_55 ⟨Nat.le_of_ble_eq_true rfl, Nat.le_of_ble_eq_true rfl⟩ rfl (Or.inr (Or.inr ⟨rfl, c4, ⟨c14, c24, c38⟩, Classical.not_not.mpr c47⟩))
          · refine lv_iconst (v := 1) hx hb dX0_hymn_50 (by decide) ?_
            refine lv_goto (tgt := 55) hx hb dX0_hymn_51 (by decide) ?_
            refine cp_cSv0 (As := [.int 1]) (rest := []) ⟨hx, hb, hml, hown, hts⟩ (c_X0_needState_ok l D) (va_cwS 1 hts gX0_hymn_X0_needState rfl rfl rfl (by decide +kernel) ⟨Nat.le_of_ble_eq_true rfl, Nat.le_of_ble_eq_true rfl⟩) hK hI hA rfl hl.1 rfl (Nat.le_of_ble_eq_true rfl) dX0_hymn_55 ⟨Nat.le_of_ble_eq_true rfl, Nat.le_of_ble_eq_true rfl⟩ (fun u55 H locs hp55 hI => ?_)
            obtain ⟨L, hL1, hL2, rfl⟩ := cp_rng30 c24
            have hN9 := hN1.2.1
            have hj16 : cp_n u 1 < 16 := by rcases Nat.lt_or_ge (cp_n u 1) 16 with q | q; exact q; exact absurd (by rw [hN1.1]; exact nI_le (a := 16) q (by omega)) c47
            refine lv_aload_n hx hb dX0_hymn_58 rfl (lv_at hl 0 rfl) ?_
            refine cp_get (v := .int (u 14 1)) hx hb hts inW hown hK hI (cp_hX _ _ _ _) rfl 1 (by decide) fl_hymnCount rfl rfl dX0_hymn_59 ?_
            refine lv_topi (fun x62 ex62 => ?_)
            refine lv_istore (lv' := [(5, .int x62), (0, .ref h), (1, .int ow), (2, .int se), (3, .int (nI L)), (4, .int re)]) hx hb dX0_hymn_62 hl (by decide) rfl (fun ls hl => ?_)
            obtain ⟨j, hj, rfl⟩ : ∃ j, j = cp_n u 1 ∧ x62 = nI j := ⟨_, rfl, ex62.trans hN1.1⟩
            refine lv_aload_n hx hb dX0_hymn_64 rfl (lv_at hl 1 rfl) ?_
            refine cp_get (v := .ref (a 0)) hx hb hts inW hown hK hI (cp_hX _ _ _ _) rfl 2 (by decide) fl_ownerOfHymn rfl rfl dX0_hymn_65 ?_
            refine lv_iload hx hb dX0_hymn_68 (lv_at hl 0 rfl) ?_
            refine lv_iload_n hx hb dX0_hymn_70 rfl (lv_at hl 2 rfl) ?_
            refine cp_iast hx hb hK hI 0 (cp_aX_0 _ _ _ _) rfl (j := j) (cp_ix_n (by omega) (by decide)) dX0_hymn_71 (cp_sX_0 _ _ _ _ _) (fun H locs hI => ?_)
            obtain ⟨u71, eu71⟩ : ∃ z9, z9 = cp_up u 0 (upd (u 0) j ow) := ⟨_, rfl⟩
            rw [← eu71] at hI
            refine lv_aload_n hx hb dX0_hymn_72 rfl (lv_at hl 1 rfl) ?_
            refine cp_get (v := .ref (a 1)) hx hb hts inW hown hK hI (cp_hX _ _ _ _) rfl 3 (by decide) fl_seasonsOfHymn rfl rfl dX0_hymn_73 ?_
            refine lv_iload hx hb dX0_hymn_76 (lv_at hl 0 rfl) ?_
            refine lv_iload_n hx hb dX0_hymn_78 rfl (lv_at hl 3 rfl) ?_
            refine cp_iast hx hb hK hI 0 (cp_aX_1 _ _ _ _) rfl (j := j) (cp_ix_n (by omega) (by decide)) dX0_hymn_79 (cp_sX_1 _ _ _ _ _) (fun H locs hI => ?_)
            obtain ⟨u79, eu79⟩ : ∃ z9, z9 = cp_up u71 1 (upd (u71 1) j se) := ⟨_, rfl⟩
            rw [← eu79] at hI
            refine lv_aload_n hx hb dX0_hymn_80 rfl (lv_at hl 1 rfl) ?_
            refine cp_get (v := .ref (a 2)) hx hb hts inW hown hK hI (cp_hX _ _ _ _) rfl 4 (by decide) fl_linesOfHymn rfl rfl dX0_hymn_81 ?_
            refine lv_iload hx hb dX0_hymn_84 (lv_at hl 0 rfl) ?_
            refine lv_iload_n hx hb dX0_hymn_86 rfl (lv_at hl 4 rfl) ?_
            refine cp_iast hx hb hK hI 0 (cp_aX_2 _ _ _ _) rfl (j := j) (cp_ix_n (by omega) (by decide)) dX0_hymn_87 (cp_sX_2 _ _ _ _ _) (fun H locs hI => ?_)
            obtain ⟨u87, eu87⟩ : ∃ z9, z9 = cp_up u79 2 (upd (u79 2) j (nI L)) := ⟨_, rfl⟩
            rw [← eu87] at hI
            refine lv_aload_n hx hb dX0_hymn_88 rfl (lv_at hl 1 rfl) ?_
            refine cp_get (v := .ref (a 3)) hx hb hts inW hown hK hI (cp_hX _ _ _ _) rfl 5 (by decide) fl_restsOfHymn rfl rfl dX0_hymn_89 ?_
            refine lv_iload hx hb dX0_hymn_92 (lv_at hl 0 rfl) ?_
            refine lv_iload hx hb dX0_hymn_94 (lv_at hl 5 rfl) ?_
            refine cp_iast hx hb hK hI 0 (cp_aX_3 _ _ _ _) rfl (j := j) (cp_ix_n (by omega) (by decide)) dX0_hymn_96 (cp_sX_3 _ _ _ _ _) (fun H locs hI => ?_)
            obtain ⟨u96, eu96⟩ : ∃ z9, z9 = cp_up u87 3 (upd (u87 3) j re) := ⟨_, rfl⟩
            rw [← eu96] at hI
            refine lv_aload_n hx hb dX0_hymn_97 rfl (lv_at hl 1 rfl) ?_
            refine cp_get (v := .ref (a 4)) hx hb hts inW hown hK hI (cp_hX _ _ _ _) rfl 6 (by decide) fl_turnsOfHymn rfl rfl dX0_hymn_98 ?_
            refine lv_iload hx hb dX0_hymn_101 (lv_at hl 0 rfl) ?_
            refine lv_iload_n hx hb dX0_hymn_103 rfl (lv_at hl 4 rfl) ?_
            refine lv_iload hx hb dX0_hymn_104 (lv_at hl 5 rfl) ?_
            refine cp_cSi0 (As := [.int (nI L), .int re]) (rest := [.int (nI j), .ref (a 4)]) ⟨hx, hb, hml, hown, hts⟩ ((c_X0_turns l L re (by omega)) D) (va_cwS 2 hts gX0_hymn_X0_turns rfl rfl rfl (by decide +kernel) ⟨Nat.le_of_ble_eq_true rfl, Nat.le_of_ble_eq_true rfl⟩) hK hI hA rfl hl.1 rfl (Nat.le_of_ble_eq_true rfl) dX0_hymn_106 ⟨Nat.le_of_ble_eq_true rfl, Nat.le_of_ble_eq_true rfl⟩ (fun r106 u106 H locs hp106 hI => ?_)
            obtain rfl := hp106
            refine cp_iast hx hb hK hI 0 (cp_aX_4 _ _ _ _) rfl (j := j) (cp_ix_n (by omega) (by decide)) dX0_hymn_109 (cp_sX_4 _ _ _ _ _) (fun H locs hI => ?_)
            obtain ⟨u109, eu109⟩ : ∃ z9, z9 = cp_up u96 4 (upd (u96 4) j (cp_tn (cp_q re) L L 0 0)) := ⟨_, rfl⟩
            rw [← eu109] at hI
            refine lv_aload_n hx hb dX0_hymn_110 rfl (lv_at hl 1 rfl) ?_
            refine lv_dup hx hb dX0_hymn_111 rfl ?_
            refine cp_get (v := .int (u109 14 1)) hx hb hts inW hown hK hI (cp_hX _ _ _ _) rfl 1 (by decide) fl_hymnCount rfl rfl dX0_hymn_112 ?_
            refine lv_iconst (v := 1) hx hb dX0_hymn_115 (by decide) ?_
            refine lv_iadd hx hb dX0_hymn_116 ?_
            refine cp_puti hx hb hts inW tyX0 tyX0_ok nmX0 hown hK hI (cp_hX _ _ _ _) rfl 1 (by decide) fl_hymnCount rfl rfl (by decide +kernel) (Nat.le_of_ble_eq_true rfl) dX0_hymn_117 (cp_iX_1 _ _ _ _ _) (fun H locs hI => ?_)
            obtain ⟨u117, eu117⟩ : ∃ z9, z9 = cp_up u109 14 (upd (u109 14) 1 ((u109 14 1) + 1)) := ⟨_, rfl⟩
            rw [← eu117] at hI
            refine lv_iload hx hb dX0_hymn_120 (lv_at hl 0 rfl) ?_
            refine vx_ret ?_
            refine W.widen (k := 1) (n := 6) (Nat.le_of_ble_eq_true rfl) (Nat.le_of_ble_eq_true rfl) ?_
            exact cp_reti (u := u117) (v := (nI j)) hx hb hr hlocks hK hI ⟨c4, ⟨c14, c24, c38⟩, c47, by rw [hj]; exact hN1.1.symm, L, hL1, hL2, rfl, by subst eu117; subst eu109; subst eu96; subst eu87; subst eu79; subst eu71; subst hj; rfl⟩ dX0_hymn_122
        · rw [cp_bf c38]
          exact cp_thr (As := [.int 0]) (rest := []) ⟨hx, hb, hml, hown, hts⟩ (c_X0_needArgument_thr l hst D) (va_cwS 1 hts gX0_hymn_X0_needArgument rfl rfl rfl (by decide +kernel) ⟨Nat.le_of_ble_eq_true rfl, Nat.le_of_ble_eq_true rfl⟩) hK hI hA hZ hno hlocks rfl hl.1 rfl (Nat.le_of_ble_eq_true rfl) dX0_hymn_38 ⟨Nat.le_of_ble_eq_true rfl, Nat.le_of_ble_eq_true rfl⟩ rfl (Or.inr (Or.inl ⟨rfl, c4, fun h => c38 h.2.2⟩))
      · rw [cp_bf c24]
        exact cp_thr (As := [.int 0]) (rest := []) ⟨hx, hb, hml, hown, hts⟩ (c_X0_needArgument_thr l hst D) (va_cwS 1 hts gX0_hymn_X0_needArgument rfl rfl rfl (by decide +kernel) ⟨Nat.le_of_ble_eq_true rfl, Nat.le_of_ble_eq_true rfl⟩) hK hI hA hZ hno hlocks rfl hl.1 rfl (Nat.le_of_ble_eq_true rfl) dX0_hymn_24 ⟨Nat.le_of_ble_eq_true rfl, Nat.le_of_ble_eq_true rfl⟩ rfl (Or.inr (Or.inl ⟨rfl, c4, fun h => c24 h.2.1⟩))
    · rw [cp_bf c14]
      exact cp_thr (As := [.int 0]) (rest := []) ⟨hx, hb, hml, hown, hts⟩ (c_X0_needArgument_thr l hst D) (va_cwS 1 hts gX0_hymn_X0_needArgument rfl rfl rfl (by decide +kernel) ⟨Nat.le_of_ble_eq_true rfl, Nat.le_of_ble_eq_true rfl⟩) hK hI hA hZ hno hlocks rfl hl.1 rfl (Nat.le_of_ble_eq_true rfl) dX0_hymn_14 ⟨Nat.le_of_ble_eq_true rfl, Nat.le_of_ble_eq_true rfl⟩ rfl (Or.inr (Or.inl ⟨rfl, c4, fun h => c14 h.1⟩))
  · rw [cp_bf c4]
    exact cp_thr (As := [.int 0]) (rest := []) ⟨hx, hb, hml, hown, hts⟩ (c_X0_needIndex_thr l hst D) (va_cwS 1 hts gX0_hymn_X0_needIndex rfl rfl rfl (by decide +kernel) ⟨Nat.le_of_ble_eq_true rfl, Nat.le_of_ble_eq_true rfl⟩) hK hI hA hZ hno hlocks rfl hl.1 rfl (Nat.le_of_ble_eq_true rfl) dX0_hymn_4 ⟨Nat.le_of_ble_eq_true rfl, Nat.le_of_ble_eq_true rfl⟩ rfl (Or.inl ⟨rfl, c4⟩)
