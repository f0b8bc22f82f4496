set_option maxHeartbeats 4000000 in
set_option maxRecDepth 100000 in
theorem c_X0_planAnew (l : Launch) (D : va_G) (cI : ClassId) (h : Nat) (a : Nat → Nat) (u : cp_M) (g : Nat) (hg : g < 40) (hN1 : cp_cn u 1 16) (hN2 : cp_cn u 2 40) (hN3 : cp_cn u 3 40) : ∀ sz : Nat, Met l yX0_planAnew wsX0_planAnew ({ frames := 4, cells := 0, slots := 0, locals := 95 } : Room) (va_Pc [.ref h, .int (nI g)] (cp_pre D [(cI, .int)] (cp_wX cI h a u) sz)) (va_Qv (fun (u1 : cp_M) => u1 = cp_plan u g) (cp_at D [(cI, .int)] (va_A (cp_wX cI h a u) sz) (cp_wX cI h a)) (va_A (cp_wX cI h a u) sz)) 0 0 (va_A (cp_wX cI h a u) sz) := by
  refine cp_MetI (Qk := fun A => va_Qv (fun (u1 : cp_M) => u1 = cp_plan u g) (cp_at D [(cI, .int)] A (cp_wX cI h a)) A) (by decide) rfl (Nat.le_of_ble_eq_true rfl) ?_
  intro p e s m args below meth c A hC hA hK hI ls hl
  obtain ⟨hx, hb, hml, hown, hts, hr, hlocks⟩ := hC
  have hown : s.vm.findClass RX0 = some m.cls := hown
  have hl : lv_has ls 2 [(0, .ref h), (1, .int (nI g))] := hl
  have inW : ∀ w ∈ wsX00, w ∈ wsX0_planAnew := by decide +kernel
  have fl_choirOfService : Cond.fieldLink RX0 43 "CanticlePress" "choirOfService" "[I" ∈ wsX0_planAnew := by decide +kernel
  have fl_dayOfService : Cond.fieldLink RX0 46 "CanticlePress" "dayOfService" "[I" ∈ wsX0_planAnew := by decide +kernel
  have fl_hymnOfService : Cond.fieldLink RX0 49 "CanticlePress" "hymnOfService" "[I" ∈ wsX0_planAnew := by decide +kernel
  refine lv_aload_n hx hb dX0_planAnew_0 rfl (lv_at hl 0 rfl) ?_
  refine cp_get (v := .ref (a 13)) hx hb hts inW hown hK hI (cp_hX _ _ _ _) rfl 17 (by decide) fl_hymnOfService rfl rfl dX0_planAnew_1 ?_
  refine lv_iload_n hx hb dX0_planAnew_4 rfl (lv_at hl 1 rfl) ?_
  refine lv_iconst (v := (-1)) hx hb dX0_planAnew_5 (by decide) ?_
  refine cp_iast hx hb hK hI 0 (cp_aX_13 _ _ _ _) rfl (j := g) (cp_ix_n (by omega) (by decide)) dX0_planAnew_6 (cp_sX_13 _ _ _ _ _) (fun H locs hI => ?_)
  obtain ⟨u6, eu6⟩ : ∃ z9, z9 = cp_up u 13 (upd (u 13) g (-1)) := ⟨_, rfl⟩
  rw [← eu6] at hI
  have hM1 : cp_cn u6 1 16 := by rw [eu6]; exact cp_cn_up hN1 (by decide)
  have hM2 : cp_cn u6 2 40 := by rw [eu6]; exact cp_cn_up hN2 (by decide)
  have hM3 : cp_cn u6 3 40 := by rw [eu6]; exact cp_cn_up hN3 (by decide)
  refine lv_aload_n hx hb dX0_planAnew_7 rfl (lv_at hl 0 rfl) ?_
  refine cp_get (v := .ref (a 13)) hx hb hts inW hown hK hI (cp_hX _ _ _ _) rfl 17 (by decide) fl_hymnOfService rfl rfl dX0_planAnew_8 ?_
  refine lv_iload_n hx hb dX0_planAnew_11 rfl (lv_at hl 1 rfl) ?_
  refine lv_aload_n hx hb dX0_planAnew_12 rfl (lv_at hl 0 rfl) ?_
  refine lv_aload_n hx hb dX0_planAnew_13 rfl (lv_at hl 0 rfl) ?_
  refine cp_get (v := .ref (a 11)) hx hb hts inW hown hK hI (cp_hX _ _ _ _) rfl 15 (by decide) fl_choirOfService rfl rfl dX0_planAnew_14 ?_
  refine lv_iload_n hx hb dX0_planAnew_17 rfl (lv_at hl 1 rfl) ?_
  refine cp_iald (f := u6 11) hx hb hK hI 0 (cp_aX_11 _ _ _ _) rfl (j := g) (cp_ix_n (by omega) (by decide)) dX0_planAnew_18 ?_
  refine lv_aload_n hx hb dX0_planAnew_19 rfl (lv_at hl 0 rfl) ?_
  refine cp_get (v := .ref (a 12)) hx hb hts inW hown hK hI (cp_hX _ _ _ _) rfl 16 (by decide) fl_dayOfService rfl rfl dX0_planAnew_20 ?_
  refine lv_iload_n hx hb dX0_planAnew_23 rfl (lv_at hl 1 rfl) ?_
  refine cp_iald (f := u6 12) hx hb hK hI 0 (cp_aX_12 _ _ _ _) rfl (j := g) (cp_ix_n (by omega) (by decide)) dX0_planAnew_24 ?_
  refine cp_cVi0 (wc := cp_wX cI h a) (u := u6) (As := [.int (u6 11 g), .int (u6 12 g)]) (rest := [.int (nI g), .ref (a 13)]) ⟨hx, hb, hml, hown, hts⟩ (c_X0_bestHymn l D cI h a u6 (u6 11 g) (u6 12 g) hM1 hM2 hM3) (cwV 2 hts gX0_planAnew_X0_bestHymn rfl rfl rfl (by decide +kernel) ⟨Nat.le_of_ble_eq_true rfl, Nat.le_of_ble_eq_true rfl⟩) hK hI hA ⟨_, cp_hX _ _ _ _⟩ rfl rfl rfl hl.1 rfl (Nat.le_of_ble_eq_true rfl) dX0_planAnew_25 ⟨Nat.le_of_ble_eq_true rfl, Nat.le_of_ble_eq_true rfl⟩ (fun r25 u25 H locs hp25 hI => ?_)
  obtain ⟨rfl, e9⟩ := hp25
  rw [e9] at hI
  refine cp_iast hx hb hK hI 0 (cp_aX_13 _ _ _ _) rfl (j := g) (cp_ix_n (by omega) (by decide)) dX0_planAnew_28 (cp_sX_13 _ _ _ _ _) (fun H locs hI => ?_)
  obtain ⟨u28, eu28⟩ : ∃ z9, z9 = cp_up u6 13 (upd (u6 13) g (cp_o (cp_best u6 (u6 11 g) (u6 12 g)))) := ⟨_, rfl⟩
  rw [← eu28] at hI
  exact cp_retv (u := u28) hx hb hr hlocks hK hI (by rw [eu28, eu6]; rfl) dX0_planAnew_29
set_option maxHeartbeats 4000000 in
set_option maxRecDepth 100000 in
theorem c_X0_silenceServicesWithoutRight (l : Launch) (D : va_G) (cI : ClassId) (h : Nat) (a : Nat → Nat) (u : cp_M)  (hN2 : cp_cn u 2 40) (hN3 : cp_cn u 3 40) : ∀ sz : Nat, Met l yX0_silenceServicesWithoutRight wsX0_silenceServicesWithoutRight ({ frames := 3, cells := 0, slots := 0, locals := 69 } : Room) (va_Pc [.ref h] (cp_pre D [(cI, .int)] (cp_wX cI h a u) sz)) (va_Ql (fun (r : Int64) (u1 : cp_M) => r = cp_msk u (cp_n u 3) ∧ u1 = cp_sil u (cp_n u 3)) (cp_at D [(cI, .int)] (va_A (cp_wX cI h a u) sz) (cp_wX cI h a)) (va_A (cp_wX cI h a u) sz)) 0 0 (va_A (cp_wX cI h a u) sz) := by
  refine cp_MetI (Qk := fun A => va_Ql (fun (r : Int64) (u1 : cp_M) => r = cp_msk u (cp_n u 3) ∧ u1 = cp_sil u (cp_n u 3)) (cp_at D [(cI, .int)] A (cp_wX cI h a)) A) (by decide) rfl (Nat.le_of_ble_eq_true rfl) ?_
  intro p e s m args below meth c A hC hA hK hI ls hl
  obtain ⟨hx, hb, hml, hown, hts, hr, hlocks⟩ := hC
  have hown : s.vm.findClass RX0 = some m.cls := hown
  have hl : lv_has ls 4 [(0, .ref h)] := hl
  have inW : ∀ w ∈ wsX00, w ∈ wsX0_silenceServicesWithoutRight := by decide +kernel
  have fl_hymnOfService : Cond.fieldLink RX0 49 "CanticlePress" "hymnOfService" "[I" ∈ wsX0_silenceServicesWithoutRight := by decide +kernel
  have fl_serviceCount : Cond.fieldLink RX0 137 "CanticlePress" "serviceCount" "I" ∈ wsX0_silenceServicesWithoutRight := by decide +kernel
  refine lv_lconst (v := 0) hx hb dX0_silenceServicesWithoutRight_0 (by decide) ?_
  refine lv_lstore_n (lv' := [(1, .long 0), (0, .ref h)]) hx hb dX0_silenceServicesWithoutRight_1 rfl hl (by decide) rfl (fun ls hl => ?_)
  refine lv_iconst (v := 0) hx hb dX0_silenceServicesWithoutRight_2 (by decide) ?_
  refine lv_istore_n (lv' := [(3, .int 0), (1, .long 0), (0, .ref h)]) hx hb dX0_silenceServicesWithoutRight_3 rfl hl (by decide) rfl (fun ls hl => ?_)
  have L4 : ∀ (n9 : Nat) (k : Nat) (hm9 : cp_n u 3 - k < n9) (hk : k ≤ cp_n u 3), ∀ (H : Heap) (locs : List Loc), cp_I D (cp_wX cI h a (cp_sil u k)) A s.heap H locs → ∀ ls, lv_has ls 4 [(3, .int (nI k)), (1, .long (cp_msk u k)), (0, .ref h)] → W p l e ({ frames := 3, cells := 0, slots := 0, locals := 69 } : Room) s m args below meth c H locs 0 0 (MQ below (va_Ql (fun (r : Int64) (u1 : cp_M) => r = cp_msk u (cp_n u 3) ∧ u1 = cp_sil u (cp_n u 3)) (cp_at D [(cI, .int)] A (cp_wX cI h a)) A) args s 0 0 A) (F0 m 4 ls []) := by
    intro n9
    induction n9 with
    | zero => intro k hm9; omega
    | succ n9 ih =>
      intro k hm9 hk H locs hI ls hl
      have hN9 := hN3.2.1
      have hs14 := cp_sil_r u k (k := 14) (by decide)
      refine lv_iload_n hx hb dX0_silenceServicesWithoutRight_4 rfl (lv_at hl 0 rfl) ?_
      refine lv_aload_n hx hb dX0_silenceServicesWithoutRight_5 rfl (lv_at hl 2 rfl) ?_
      refine cp_get (v := .int ((cp_sil u k) 14 3)) hx hb hts inW hown hK hI (cp_hX _ _ _ _) rfl 14 (by decide) fl_serviceCount rfl rfl dX0_silenceServicesWithoutRight_6 ?_
      refine lv_icmp_ge (tgt := 39) hx hb dX0_silenceServicesWithoutRight_9 (by decide) (fun c9 => ?_) (fun c9 => ?_)
      · have hk2 := cp_ex (k := k) hN3 hk (by rw [← hs14]; exact c9)
        refine lv_lload_n hx hb dX0_silenceServicesWithoutRight_39 rfl (lv_at hl 1 rfl) ?_
        exact cp_retl (u := (cp_sil u k)) hx hb hr hlocks hK hI ⟨by rw [hk2], by rw [hk2]⟩ dX0_silenceServicesWithoutRight_40
      · have hk2 := cp_in (k := k) hN3 (by omega) (by rw [← hs14]; exact c9)
        refine lv_aload_n hx hb dX0_silenceServicesWithoutRight_12 rfl (lv_at hl 2 rfl) ?_
        refine lv_iload_n hx hb dX0_silenceServicesWithoutRight_13 rfl (lv_at hl 0 rfl) ?_
        refine cp_cVi0 (wc := cp_wX cI h a) (u := (cp_sil u k)) (As := [.int (nI k)]) (rest := []) ⟨hx, hb, hml, hown, hts⟩ (c_X0_hasLostItsRight l D cI h a (cp_sil u k) k (by omega) (cp_cn_c hN2 hs14)) (cwV 1 hts gX0_silenceServicesWithoutRight_X0_hasLostItsRight rfl rfl rfl (by decide +kernel) ⟨Nat.le_of_ble_eq_true rfl, Nat.le_of_ble_eq_true rfl⟩) hK hI hA ⟨_, cp_hX _ _ _ _⟩ rfl rfl rfl hl.1 rfl (Nat.le_of_ble_eq_true rfl) dX0_silenceServicesWithoutRight_14 ⟨Nat.le_of_ble_eq_true rfl, Nat.le_of_ble_eq_true rfl⟩ (fun r14 u14 H locs hp14 hI => ?_)
        obtain ⟨rfl, e9⟩ := hp14
        rw [e9] at hI
        rw [cp_lost_sil]
        refine lv_if_eq (tgt := 33) hx hb dX0_silenceServicesWithoutRight_17 (by decide) (fun c17 => ?_) (fun c17 => ?_)
        · have c17 := cp_b0.mp c17
          obtain ⟨x33, ex33⟩ : ∃ y9 : Int32, y9 = (nI k) + 1 := ⟨_, rfl⟩
          refine lv_iinc (v := x33) (lv' := [(3, .int x33), (1, .long (cp_msk u k)), (0, .ref h)]) hx hb dX0_silenceServicesWithoutRight_33 hl (k := 0) rfl (by rw [ex33]; rfl) (by decide) rfl (fun ls hl => ?_)
          refine lv_goto (tgt := 4) hx hb dX0_silenceServicesWithoutRight_36 (by decide) ?_
          rw [← cp_msk_f c17] at hl
          rw [← cp_sil_f u c17] at hI
          obtain rfl : x33 = nI (k + 1) := by rw [ex33]; exact nI_1 k
          exact ih (k + 1) (by omega) (by omega) _ _ hI ls (lv_sub hl [0, 1, 2] rfl)
        · have c17 := Classical.not_not.mp (fun h9 => c17 (cp_b0.mpr h9))
          refine lv_aload_n hx hb dX0_silenceServicesWithoutRight_20 rfl (lv_at hl 2 rfl) ?_
          refine cp_get (v := .ref (a 13)) hx hb hts inW hown hK hI (cp_hX _ _ _ _) rfl 17 (by decide) fl_hymnOfService rfl rfl dX0_silenceServicesWithoutRight_21 ?_
          refine lv_iload_n hx hb dX0_silenceServicesWithoutRight_24 rfl (lv_at hl 0 rfl) ?_
          refine lv_iconst (v := (-1)) hx hb dX0_silenceServicesWithoutRight_25 (by decide) ?_
          refine cp_iast hx hb hK hI 0 (cp_aX_13 _ _ _ _) rfl (j := k) (cp_ix_n (by omega) (by decide)) dX0_silenceServicesWithoutRight_26 (cp_sX_13 _ _ _ _ _) (fun H locs hI => ?_)
          obtain ⟨u26, eu26⟩ : ∃ z9, z9 = cp_up (cp_sil u k) 13 (upd ((cp_sil u k) 13) k (-1)) := ⟨_, rfl⟩
          rw [← eu26] at hI
          refine lv_lload_n hx hb dX0_silenceServicesWithoutRight_27 rfl (lv_at hl 1 rfl) ?_
          refine lv_lconst (v := 1) hx hb dX0_silenceServicesWithoutRight_28 (by decide) ?_
          refine lv_iload_n hx hb dX0_silenceServicesWithoutRight_29 rfl (lv_at hl 0 rfl) ?_
          refine lv_lshl (v := ((1 : Int64) <<< ((nI k).toInt64 &&& 63))) hx hb dX0_silenceServicesWithoutRight_30 rfl ?_
          refine lv_lor hx hb dX0_silenceServicesWithoutRight_31 ?_
          refine lv_topl (fun x32 ex32 => ?_)
          refine lv_lstore_n (lv' := [(1, .long x32), (3, .int (nI k)), (0, .ref h)]) hx hb dX0_silenceServicesWithoutRight_32 rfl hl (by decide) rfl (fun ls hl => ?_)
          obtain ⟨x33, ex33⟩ : ∃ y9 : Int32, y9 = (nI k) + 1 := ⟨_, rfl⟩
          refine lv_iinc (v := x33) (lv' := [(3, .int x33), (1, .long x32), (0, .ref h)]) hx hb dX0_silenceServicesWithoutRight_33 hl (k := 1) rfl (by rw [ex33]; rfl) (by decide) rfl (fun ls hl => ?_)
          refine lv_goto (tgt := 4) hx hb dX0_silenceServicesWithoutRight_36 (by decide) ?_
          obtain rfl : x32 = cp_msk u (k + 1) := by rw [ex32, cp_msk_t c17]
          rw [eu26, cp_sil_t u c17] at hI
          obtain rfl : x33 = nI (k + 1) := by rw [ex33]; exact nI_1 k
          exact ih (k + 1) (by omega) (by omega) _ _ hI ls (lv_sub hl [0, 1, 2] rfl)
  rw [← cp_sil_0 u] at hI
  exact L4 ((cp_n u 3) + 1) 0 (Nat.lt_succ_self _) (Nat.zero_le _) _ _ hI ls (lv_sub hl [0, 1, 2] rfl)
set_option maxHeartbeats 4000000 in
set_option maxRecDepth 100000 in
theorem c_X0_planEach (l : Launch) (D : va_G) (cI : ClassId) (h : Nat) (a : Nat → Nat) (u : cp_M) (set : Int64) (hN1 : cp_cn u 1 16) (hN2 : cp_cn u 2 40) (hN3 : cp_cn u 3 40) : ∀ sz : Nat, Met l yX0_planEach wsX0_planEach ({ frames := 5, cells := 0, slots := 0, locals := 116 } : Room) (va_Pc [.ref h, .long set] (cp_pre D [(cI, .int)] (cp_wX cI h a u) sz)) (va_Qv (fun (u1 : cp_M) => u1 = cp_pe (fun j => cp_inS (nI j) set) u (cp_n u 3)) (cp_at D [(cI, .int)] (va_A (cp_wX cI h a u) sz) (cp_wX cI h a)) (va_A (cp_wX cI h a u) sz)) 0 0 (va_A (cp_wX cI h a u) sz) := by
  refine cp_MetI (Qk := fun A => va_Qv (fun (u1 : cp_M) => u1 = cp_pe (fun j => cp_inS (nI j) set) u (cp_n u 3)) (cp_at D [(cI, .int)] A (cp_wX cI h a)) A) (by decide) rfl (Nat.le_of_ble_eq_true rfl) ?_
  intro p e s m args below meth c A hC hA hK hI ls hl
  obtain ⟨hx, hb, hml, hown, hts, hr, hlocks⟩ := hC
  have hown : s.vm.findClass RX0 = some m.cls := hown
  have hl : lv_has ls 4 [(0, .ref h), (1, .long set)] := hl
  have inW : ∀ w ∈ wsX00, w ∈ wsX0_planEach := by decide +kernel
  have fl_serviceCount : Cond.fieldLink RX0 137 "CanticlePress" "serviceCount" "I" ∈ wsX0_planEach := by decide +kernel
  refine lv_iconst (v := 0) hx hb dX0_planEach_0 (by decide) ?_
  refine lv_istore_n (lv' := [(3, .int 0), (0, .ref h), (1, .long set)]) hx hb dX0_planEach_1 rfl hl (by decide) rfl (fun ls hl => ?_)
  have L2 : ∀ (n9 : Nat) (k : Nat) (hm9 : cp_n u 3 - k < n9) (hk : k ≤ cp_n u 3), ∀ (H : Heap) (locs : List Loc), cp_I D (cp_wX cI h a (cp_pe (fun j => cp_inS (nI j) set) u k)) A s.heap H locs → ∀ ls, lv_has ls 4 [(3, .int (nI k)), (0, .ref h), (1, .long set)] → W p l e ({ frames := 5, cells := 0, slots := 0, locals := 116 } : Room) s m args below meth c H locs 0 0 (MQ below (va_Qv (fun (u1 : cp_M) => u1 = cp_pe (fun j => cp_inS (nI j) set) u (cp_n u 3)) (cp_at D [(cI, .int)] A (cp_wX cI h a)) A) args s 0 0 A) (F0 m 2 ls []) := by
    intro n9
    induction n9 with
    | zero => intro k hm9; omega
    | succ n9 ih =>
      intro k hm9 hk H locs hI ls hl
      have hN9 := hN3.2.1
      have hs14 := cp_pe_r (fun j => cp_inS (nI j) set) u (k := 14) (by decide) k
      refine lv_iload_n hx hb dX0_planEach_2 rfl (lv_at hl 0 rfl) ?_
      refine lv_aload_n hx hb dX0_planEach_3 rfl (lv_at hl 1 rfl) ?_
      refine cp_get (v := .int ((cp_pe (fun j => cp_inS (nI j) set) u k) 14 3)) hx hb hts inW hown hK hI (cp_hX _ _ _ _) rfl 14 (by decide) fl_serviceCount rfl rfl dX0_planEach_4 ?_
      refine lv_icmp_ge (tgt := 29) hx hb dX0_planEach_7 (by decide) (fun c7 => ?_) (fun c7 => ?_)
      · have hk2 := cp_ex (k := k) hN3 hk (by rw [← hs14]; exact c7)
        exact cp_retv (u := (cp_pe (fun j => cp_inS (nI j) set) u k)) hx hb hr hlocks hK hI (by rw [hk2]) dX0_planEach_29
      · have hk2 := cp_in (k := k) hN3 (by omega) (by rw [← hs14]; exact c7)
        refine lv_iload_n hx hb dX0_planEach_10 rfl (lv_at hl 0 rfl) ?_
        refine lv_lload_n hx hb dX0_planEach_11 rfl (lv_at hl 2 rfl) ?_
        refine cp_cSi0 (As := [.int (nI k), .long set]) (rest := []) ⟨hx, hb, hml, hown, hts⟩ ((c_X0_isInSet l (nI k) set) D) (va_cwS 2 hts gX0_planEach_X0_isInSet rfl rfl rfl (by decide +kernel) ⟨Nat.le_of_ble_eq_true rfl, Nat.le_of_ble_eq_true rfl⟩) hK hI hA rfl hl.1 rfl (Nat.le_of_ble_eq_true rfl) dX0_planEach_12 ⟨Nat.le_of_ble_eq_true rfl, Nat.le_of_ble_eq_true rfl⟩ (fun r12 u12 H locs hp12 hI => ?_)
        obtain rfl := hp12
        refine lv_if_eq (tgt := 23) hx hb dX0_planEach_15 (by decide) (fun c15 => ?_) (fun c15 => ?_)
        · have c15 := cp_b0.mp c15
          obtain ⟨x23, ex23⟩ : ∃ y9 : Int32, y9 = (nI k) + 1 := ⟨_, rfl⟩
          refine lv_iinc (v := x23) (lv' := [(3, .int x23), (0, .ref h), (1, .long set)]) hx hb dX0_planEach_23 hl (k := 0) rfl (by rw [ex23]; rfl) (by decide) rfl (fun ls hl => ?_)
          refine lv_goto (tgt := 2) hx hb dX0_planEach_26 (by decide) ?_
          rw [← cp_pe_f (q := fun j => cp_inS (nI j) set) c15] at hI
          obtain rfl : x23 = nI (k + 1) := by rw [ex23]; exact nI_1 k
          exact ih (k + 1) (by omega) (by omega) _ _ hI ls (lv_sub hl [0, 1, 2] rfl)
        · have c15 := Classical.not_not.mp (fun h9 => c15 (cp_b0.mpr h9))
          refine lv_aload_n hx hb dX0_planEach_18 rfl (lv_at hl 1 rfl) ?_
          refine lv_iload_n hx hb dX0_planEach_19 rfl (lv_at hl 0 rfl) ?_
          refine cp_cVv0 (wc := cp_wX cI h a) (u := (cp_pe (fun j => cp_inS (nI j) set) u k)) (As := [.int (nI k)]) (rest := []) ⟨hx, hb, hml, hown, hts⟩ (c_X0_planAnew l D cI h a (cp_pe (fun j => cp_inS (nI j) set) u k) k (by omega) (cp_cn_c hN1 hs14) (cp_cn_c hN2 hs14) (cp_cn_c hN3 hs14)) (cwV 1 hts gX0_planEach_X0_planAnew rfl rfl rfl (by decide +kernel) ⟨Nat.le_of_ble_eq_true rfl, Nat.le_of_ble_eq_true rfl⟩) hK hI hA ⟨_, cp_hX _ _ _ _⟩ rfl rfl rfl hl.1 rfl (Nat.le_of_ble_eq_true rfl) dX0_planEach_20 ⟨Nat.le_of_ble_eq_true rfl, Nat.le_of_ble_eq_true rfl⟩ (fun u20 H locs hp20 hI => ?_)
          have eu20 := hp20
          obtain ⟨x23, ex23⟩ : ∃ y9 : Int32, y9 = (nI k) + 1 := ⟨_, rfl⟩
          refine lv_iinc (v := x23) (lv' := [(3, .int x23), (0, .ref h), (1, .long set)]) hx hb dX0_planEach_23 hl (k := 0) rfl (by rw [ex23]; rfl) (by decide) rfl (fun ls hl => ?_)
          refine lv_goto (tgt := 2) hx hb dX0_planEach_26 (by decide) ?_
          rw [eu20, ← cp_pe_t (q := fun j => cp_inS (nI j) set) c15] at hI
          obtain rfl : x23 = nI (k + 1) := by rw [ex23]; exact nI_1 k
          exact ih (k + 1) (by omega) (by omega) _ _ hI ls (lv_sub hl [0, 1, 2] rfl)
  exact L2 ((cp_n u 3) + 1) 0 (Nat.lt_succ_self _) (Nat.zero_le _) _ _ hI ls (lv_sub hl [0, 1, 2] rfl)
