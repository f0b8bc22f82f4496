set_option maxHeartbeats 4000000 in
set_option maxRecDepth 100000 in
theorem c_X1_hymn (l : Launch) (D : va_G) (cI cZ : ClassId) (h : Nat) (a : Nat → Nat) (u : cp_M) (ow : Int32) (se : Int32) (li : Int32) (re : Int32) (hN1 : cp_cn u 1 16) : ∀ sz : Nat, Met l yX1_hymn wsX1_hymn ({ frames := 1, cells := 0, slots := 0, locals := 22 } : Room) (va_Pc [.ref h, .int ow, .int se, .int li, .int re] (cp_pre D [(cI, .int), (cZ, .boolean)] (cp_wY cI cZ h a u) sz)) (va_Qi (fun (r : Int32) (u1 : cp_M) => (¬ cp_bw ow 0 4 ∧ u1 = cp_thw u 1) ∨ (cp_bw ow 0 4 ∧ ¬ (cp_bw se 1 15 ∧ cp_bw li 1 30 ∧ ¬ re < 0 ∧ re >>> (li &&& 31) = 0) ∧ u1 = cp_thw u 2) ∨ (cp_bw ow 0 4 ∧ (cp_bw se 1 15 ∧ cp_bw li 1 30 ∧ ¬ re < 0 ∧ re >>> (li &&& 31) = 0) ∧ ¬ ¬ (16 : Int32) ≤ u 14 1 ∧ u1 = cp_thw u 3) ∨ (cp_bw ow 0 4 ∧ (cp_bw se 1 15 ∧ cp_bw li 1 30 ∧ ¬ re < 0 ∧ re >>> (li &&& 31) = 0) ∧ ¬ (16 : Int32) ≤ u 14 1 ∧ r = u 14 1 ∧ u1 = cp_up (cp_up (cp_up (cp_up (cp_up (cp_thw u 0) 0 (upd (u 0) (cp_n u 1) ow)) 1 (upd (u 1) (cp_n u 1) se)) 2 (upd (u 2) (cp_n u 1) li)) 3 (upd (u 3) (cp_n u 1) re)) 14 (upd (cp_thw u 0 14) 1 (u 14 1 + 1)))) (cp_at D [(cI, .int), (cZ, .boolean)] (va_A (cp_wY cI cZ h a u) sz) (cp_wY cI cZ h a)) (va_A (cp_wY cI cZ h a u) sz)) 0 0 (va_A (cp_wY cI cZ h a u) sz) := by
  refine cp_MetI (Qk := fun A => va_Qi (fun (r : Int32) (u1 : cp_M) => (¬ cp_bw ow 0 4 ∧ u1 = cp_thw u 1) ∨ (cp_bw ow 0 4 ∧ ¬ (cp_bw se 1 15 ∧ cp_bw li 1 30 ∧ ¬ re < 0 ∧ re >>> (li &&& 31) = 0) ∧ u1 = cp_thw u 2) ∨ (cp_bw ow 0 4 ∧ (cp_bw se 1 15 ∧ cp_bw li 1 30 ∧ ¬ re < 0 ∧ re >>> (li &&& 31) = 0) ∧ ¬ ¬ (16 : Int32) ≤ u 14 1 ∧ u1 = cp_thw u 3) ∨ (cp_bw ow 0 4 ∧ (cp_bw se 1 15 ∧ cp_bw li 1 30 ∧ ¬ re < 0 ∧ re >>> (li &&& 31) = 0) ∧ ¬ (16 : Int32) ≤ u 14 1 ∧ r = u 14 1 ∧ u1 = cp_up (cp_up (cp_up (cp_up (cp_up (cp_thw u 0) 0 (upd (u 0) (cp_n u 1) ow)) 1 (upd (u 1) (cp_n u 1) se)) 2 (upd (u 2) (cp_n u 1) li)) 3 (upd (u 3) (cp_n u 1) re)) 14 (upd (cp_thw u 0 14) 1 (u 14 1 + 1)))) (cp_at D [(cI, .int), (cZ, .boolean)] A (cp_wY cI cZ h a)) A) (by decide) rfl (Nat.le_of_ble_eq_true rfl) ?_
  intro p e s m args below meth c A hC hA hK hI ls hl
  obtain ⟨hx, hb, hml, hown, hts, hr, hlocks⟩ := hC
  have hown : s.vm.findClass RX1 = some m.cls := hown
  have hl : lv_has ls 6 [(0, .ref h), (1, .int ow), (2, .int se), (3, .int li), (4, .int re)] := hl
  have inW : ∀ w ∈ wsX10, w ∈ wsX1_hymn := by decide +kernel
  have fl_hymns : Cond.fieldLink RX1 57 "CanticlePressModel" "hymns" "I" ∈ wsX1_hymn := by decide +kernel
  have fl_lines : Cond.fieldLink RX1 16 "CanticlePressModel" "lines" "[I" ∈ wsX1_hymn := by decide +kernel
  have fl_owner : Cond.fieldLink RX1 7 "CanticlePressModel" "owner" "[I" ∈ wsX1_hymn := by decide +kernel
  have fl_rests : Cond.fieldLink RX1 19 "CanticlePressModel" "rests" "[I" ∈ wsX1_hymn := by decide +kernel
  have fl_seasons : Cond.fieldLink RX1 13 "CanticlePressModel" "seasons" "[I" ∈ wsX1_hymn := by decide +kernel
  have fl_thrown : Cond.fieldLink RX1 53 "CanticlePressModel" "thrown" "I" ∈ wsX1_hymn := by decide +kernel
  refine lv_iload_n hx hb dX1_hymn_0 rfl (lv_at hl 2 rfl) ?_
  refine lv_iconst (v := 1) hx hb dX1_hymn_1 (by decide) ?_
  refine lv_bipush (v := 15) hx hb dX1_hymn_2 (by decide) ?_
  refine cp_cSi0 (As := [.int se, .int 1, .int 15]) (rest := []) ⟨hx, hb, hml, hown, hts⟩ ((c_X1_isIn l se 1 15) D) (va_cwS 3 hts gX1_hymn_X1_isIn rfl rfl rfl (by decide +kernel) ⟨Nat.le_of_ble_eq_true rfl, Nat.le_of_ble_eq_true rfl⟩) hK hI hA rfl hl.1 rfl (Nat.le_of_ble_eq_true rfl) dX1_hymn_4 ⟨Nat.le_of_ble_eq_true rfl, Nat.le_of_ble_eq_true rfl⟩ (fun r4 u4 H locs hp4 hI => ?_)
  obtain rfl := hp4
  refine lv_if_eq (tgt := 50) hx hb dX1_hymn_7 (by decide) (fun c7 => ?_) (fun c7 => ?_)
  · have c7 := cp_b0.mp c7
    refine lv_iconst (v := 0) hx hb dX1_hymn_50 (by decide) ?_
    refine lv_istore (lv' := [(5, .int 0), (0, .ref h), (1, .int ow), (2, .int se), (3, .int li), (4, .int re)]) hx hb dX1_hymn_51 hl (by decide) rfl (fun ls hl => ?_)
    refine lv_aload_n hx hb dX1_hymn_53 rfl (lv_at hl 1 rfl) ?_
    refine lv_iload_n hx hb dX1_hymn_54 rfl (lv_at hl 2 rfl) ?_
    refine lv_iconst (v := 0) hx hb dX1_hymn_55 (by decide) ?_
    refine lv_iconst (v := 4) hx hb dX1_hymn_56 (by decide) ?_
    refine cp_cSi0 (As := [.int ow, .int 0, .int 4]) (rest := [.ref h]) ⟨hx, hb, hml, hown, hts⟩ ((c_X1_isIn l ow 0 4) D) (va_cwS 3 hts gX1_hymn_X1_isIn rfl rfl rfl (by decide +kernel) ⟨Nat.le_of_ble_eq_true rfl, Nat.le_of_ble_eq_true rfl⟩) hK hI hA rfl hl.1 rfl (Nat.le_of_ble_eq_true rfl) dX1_hymn_57 ⟨Nat.le_of_ble_eq_true rfl, Nat.le_of_ble_eq_true rfl⟩ (fun r57 u57 H locs hp57 hI => ?_)
    obtain rfl := hp57
    refine lv_if_ne (tgt := 67) hx hb dX1_hymn_60 (by decide) (fun c60 => ?_) (fun c60 => ?_)
    · have c60 := Classical.not_not.mp (fun h9 => c60 (cp_b0.mpr h9))
      refine lv_iload hx hb dX1_hymn_67 (lv_at hl 0 rfl) ?_
      refine lv_if_ne (tgt := 76) hx hb dX1_hymn_69 (by decide) (fun c69 => ?_) (fun c69 => ?_)
      · exact absurd rfl c69
      · refine lv_iconst (v := 2) hx hb dX1_hymn_72 (by decide) ?_
        refine lv_goto (tgt := 90) hx hb dX1_hymn_73 (by decide) ?_
        refine cp_puti hx hb hts inW tyX1 tyX1_ok nmX1 hown hK hI (cp_hY _ _ _ _ _) rfl 0 (by decide) fl_thrown rfl rfl (by decide +kernel) (Nat.le_of_ble_eq_true rfl) dX1_hymn_90 (cp_tY _ _ _ _ _ _) (fun H locs hI => ?_)
        refine lv_aload_n hx hb dX1_hymn_93 rfl (lv_at hl 1 rfl) ?_
        refine cp_get (v := .int 2) hx hb hts inW hown hK hI (cp_hY _ _ _ _ _) rfl 0 (by decide) fl_thrown rfl rfl dX1_hymn_94 ?_
        refine lv_if_le (tgt := 102) hx hb dX1_hymn_97 (by decide) (fun c97 => ?_) (fun c97 => ?_)
        · exact absurd c97 (by decide)
        · refine lv_iconst (v := 0) hx hb dX1_hymn_100 (by decide) ?_
          exact cp_reti (u := (cp_thw u 2)) (v := 0) hx hb hr hlocks hK hI (Or.inr (Or.inl ⟨c60, by first | exact fun h => c7 h.1 | exact fun h => c17 h.2.1 | exact fun h => h.2.2.1 c22 | exact fun h => c43 h.2.2.2, rfl⟩)) dX1_hymn_101
    · have c60 := cp_b0.mp c60
      refine lv_iconst (v := 1) hx hb dX1_hymn_63 (by decide) ?_
      refine lv_goto (tgt := 90) hx hb dX1_hymn_64 (by decide) ?_
      refine cp_puti hx hb hts inW tyX1 tyX1_ok nmX1 hown hK hI (cp_hY _ _ _ _ _) rfl 0 (by decide) fl_thrown rfl rfl (by decide +kernel) (Nat.le_of_ble_eq_true rfl) dX1_hymn_90 (cp_tY _ _ _ _ _ _) (fun H locs hI => ?_)
      refine lv_aload_n hx hb dX1_hymn_93 rfl (lv_at hl 1 rfl) ?_
      refine cp_get (v := .int 1) hx hb hts inW hown hK hI (cp_hY _ _ _ _ _) rfl 0 (by decide) fl_thrown rfl rfl dX1_hymn_94 ?_
      refine lv_if_le (tgt := 102) hx hb dX1_hymn_97 (by decide) (fun c97 => ?_) (fun c97 => ?_)
      · exact absurd c97 (by decide)
      · refine lv_iconst (v := 0) hx hb dX1_hymn_100 (by decide) ?_
        exact cp_reti (u := (cp_thw u 1)) (v := 0) hx hb hr hlocks hK hI (Or.inl ⟨c60, rfl⟩) dX1_hymn_101
  · have c7 := Classical.not_not.mp (fun h9 => c7 (cp_b0.mpr h9))
    refine lv_iload_n hx hb dX1_hymn_10 rfl (lv_at hl 3 rfl) ?_
    refine lv_iconst (v := 1) hx hb dX1_hymn_11 (by decide) ?_
    refine lv_bipush (v := 30) hx hb dX1_hymn_12 (by decide) ?_
    refine cp_cSi0 (As := [.int li, .int 1, .int 30]) (rest := []) ⟨hx, hb, hml, hown, hts⟩ ((c_X1_isIn l li 1 30) D) (va_cwS 3 hts gX1_hymn_X1_isIn rfl rfl rfl (by decide +kernel) ⟨Nat.le_of_ble_eq_true rfl, Nat.le_of_ble_eq_true rfl⟩) hK hI hA rfl hl.1 rfl (Nat.le_of_ble_eq_true rfl) dX1_hymn_14 ⟨Nat.le_of_ble_eq_true rfl, Nat.le_of_ble_eq_true rfl⟩ (fun r14 u14 H locs hp14 hI => ?_)
    obtain rfl := hp14
    refine lv_if_eq (tgt := 50) hx hb dX1_hymn_17 (by decide) (fun c17 => ?_) (fun c17 => ?_)
    · have c17 := cp_b0.mp c17
      refine lv_iconst (v := 0) hx hb dX1_hymn_50 (by decide) ?_
      refine lv_istore (lv' := [(5, .int 0), (0, .ref h), (1, .int ow), (2, .int se), (3, .int li), (4, .int re)]) hx hb dX1_hymn_51 hl (by decide) rfl (fun ls hl => ?_)
      refine lv_aload_n hx hb dX1_hymn_53 rfl (lv_at hl 1 rfl) ?_
      refine lv_iload_n hx hb dX1_hymn_54 rfl (lv_at hl 2 rfl) ?_
      refine lv_iconst (v := 0) hx hb dX1_hymn_55 (by decide) ?_
      refine lv_iconst (v := 4) hx hb dX1_hymn_56 (by decide) ?_
      refine cp_cSi0 (As := [.int ow, .int 0, .int 4]) (rest := [.ref h]) ⟨hx, hb, hml, hown, hts⟩ ((c_X1_isIn l ow 0 4) D) (va_cwS 3 hts gX1_hymn_X1_isIn rfl rfl rfl (by decide +kernel) ⟨Nat.le_of_ble_eq_true rfl, Nat.le_of_ble_eq_true rfl⟩) hK hI hA rfl hl.1 rfl (Nat.le_of_ble_eq_true rfl) dX1_hymn_57 ⟨Nat.le_of_ble_eq_true rfl, Nat.le_of_ble_eq_true rfl⟩ (fun r57 u57 H locs hp57 hI => ?_)
      obtain rfl := hp57
      refine lv_if_ne (tgt := 67) hx hb dX1_hymn_60 (by decide) (fun c60 => ?_) (fun c60 => ?_)
      · have c60 := Classical.not_not.mp (fun h9 => c60 (cp_b0.mpr h9))
        refine lv_iload hx hb dX1_hymn_67 (lv_at hl 0 rfl) ?_
        refine lv_if_ne (tgt := 76) hx hb dX1_hymn_69 (by decide) (fun c69 => ?_) (fun c69 => ?_)
        · exact absurd rfl c69
        · refine lv_iconst (v := 2) hx hb dX1_hymn_72 (by decide) ?_
          refine lv_goto (tgt := 90) hx hb dX1_hymn_73 (by decide) ?_
          refine cp_puti hx hb hts inW tyX1 tyX1_ok nmX1 hown hK hI (cp_hY _ _ _ _ _) rfl 0 (by decide) fl_thrown rfl rfl (by decide +kernel) (Nat.le_of_ble_eq_true rfl) dX1_hymn_90 (cp_tY _ _ _ _ _ _) (fun H locs hI => ?_)
          refine lv_aload_n hx hb dX1_hymn_93 rfl (lv_at hl 1 rfl) ?_
          refine cp_get (v := .int 2) hx hb hts inW hown hK hI (cp_hY _ _ _ _ _) rfl 0 (by decide) fl_thrown rfl rfl dX1_hymn_94 ?_
          refine lv_if_le (tgt := 102) hx hb dX1_hymn_97 (by decide) (fun c97 => ?_) (fun c97 => ?_)
          · exact absurd c97 (by decide)
          · refine lv_iconst (v := 0) hx hb dX1_hymn_100 (by decide) ?_
            exact cp_reti (u := (cp_thw u 2)) (v := 0) hx hb hr hlocks hK hI (Or.inr (Or.inl ⟨c60, by first | exact fun h => c7 h.1 | exact fun h => c17 h.2.1 | exact fun h => h.2.2.1 c22 | exact fun h => c43 h.2.2.2, rfl⟩)) dX1_hymn_101
      · have c60 := cp_b0.mp c60
        refine lv_iconst (v := 1) hx hb dX1_hymn_63 (by decide) ?_
        refine lv_goto (tgt := 90) hx hb dX1_hymn_64 (by decide) ?_
        refine cp_puti hx hb hts inW tyX1 tyX1_ok nmX1 hown hK hI (cp_hY _ _ _ _ _) rfl 0 (by decide) fl_thrown rfl rfl (by decide +kernel) (Nat.le_of_ble_eq_true rfl) dX1_hymn_90 (cp_tY _ _ _ _ _ _) (fun H locs hI => ?_)
        refine lv_aload_n hx hb dX1_hymn_93 rfl (lv_at hl 1 rfl) ?_
        refine cp_get (v := .int 1) hx hb hts inW hown hK hI (cp_hY _ _ _ _ _) rfl 0 (by decide) fl_thrown rfl rfl dX1_hymn_94 ?_
        refine lv_if_le (tgt := 102) hx hb dX1_hymn_97 (by decide) (fun c97 => ?_) (fun c97 => ?_)
        · exact absurd c97 (by decide)
        · refine lv_iconst (v := 0) hx hb dX1_hymn_100 (by decide) ?_
          exact cp_reti (u := (cp_thw u 1)) (v := 0) hx hb hr hlocks hK hI (Or.inl ⟨c60, rfl⟩) dX1_hymn_101
    · have c17 := Classical.not_not.mp (fun h9 => c17 (cp_b0.mpr h9))
      refine lv_iload hx hb dX1_hymn_20 (lv_at hl 4 rfl) ?_
      refine lv_if_lt (tgt := 50) hx hb dX1_hymn_22 (by decide) (fun c22 => ?_) (fun c22 => ?_)
      · refine lv_iconst (v := 0) hx hb dX1_hymn_50 (by decide) ?_
        refine lv_istore (lv' := [(5, .int 0), (0, .ref h), (1, .int ow), (2, .int se), (3, .int li), (4, .int re)]) hx hb dX1_hymn_51 hl (by decide) rfl (fun ls hl => ?_)
        refine lv_aload_n hx hb dX1_hymn_53 rfl (lv_at hl 1 rfl) ?_
        refine lv_iload_n hx hb dX1_hymn_54 rfl (lv_at hl 2 rfl) ?_
        refine lv_iconst (v := 0) hx hb dX1_hymn_55 (by decide) ?_
        refine lv_iconst (v := 4) hx hb dX1_hymn_56 (by decide) ?_
        refine cp_cSi0 (As := [.int ow, .int 0, .int 4]) (rest := [.ref h]) ⟨hx, hb, hml, hown, hts⟩ ((c_X1_isIn l ow 0 4) D) (va_cwS 3 hts gX1_hymn_X1_isIn rfl rfl rfl (by decide +kernel) ⟨Nat.le_of_ble_eq_true rfl, Nat.le_of_ble_eq_true rfl⟩) hK hI hA rfl hl.1 rfl (Nat.le_of_ble_eq_true rfl) dX1_hymn_57 ⟨Nat.le_of_ble_eq_true rfl, Nat.le_of_ble_eq_true rfl⟩ (fun r57 u57 H locs hp57 hI => ?_)
        obtain rfl := hp57
        refine lv_if_ne (tgt := 67) hx hb dX1_hymn_60 (by decide) (fun c60 => ?_) (fun c60 => ?_)
        · have c60 := Classical.not_not.mp (fun h9 => c60 (cp_b0.mpr h9))
          refine lv_iload hx hb dX1_hymn_67 (lv_at hl 0 rfl) ?_
          refine lv_if_ne (tgt := 76) hx hb dX1_hymn_69 (by decide) (fun c69 => ?_) (fun c69 => ?_)
          · exact absurd rfl c69
          · refine lv_iconst (v := 2) hx hb dX1_hymn_72 (by decide) ?_
            refine lv_goto (tgt := 90) hx hb dX1_hymn_73 (by decide) ?_
            refine cp_puti hx hb hts inW tyX1 tyX1_ok nmX1 hown hK hI (cp_hY _ _ _ _ _) rfl 0 (by decide) fl_thrown rfl rfl (by decide +kernel) (Nat.le_of_ble_eq_true rfl) dX1_hymn_90 (cp_tY _ _ _ _ _ _) (fun H locs hI => ?_)
            refine lv_aload_n hx hb dX1_hymn_93 rfl (lv_at hl 1 rfl) ?_
            refine cp_get (v := .int 2) hx hb hts inW hown hK hI (cp_hY _ _ _ _ _) rfl 0 (by decide) fl_thrown rfl rfl dX1_hymn_94 ?_
            refine lv_if_le (tgt := 102) hx hb dX1_hymn_97 (by decide) (fun c97 => ?_) (fun c97 => ?_)
            · exact absurd c97 (by decide)
            · refine lv_iconst (v := 0) hx hb dX1_hymn_100 (by decide) ?_
              exact cp_reti (u := (cp_thw u 2)) (v := 0) hx hb hr hlocks hK hI (Or.inr (Or.inl ⟨c60, by first | exact fun h => c7 h.1 | exact fun h => c17 h.2.1 | exact fun h => h.2.2.1 c22 | exact fun h => c43 h.2.2.2, rfl⟩)) dX1_hymn_101
        · have c60 := cp_b0.mp c60
          refine lv_iconst (v := 1) hx hb dX1_hymn_63 (by decide) ?_
          refine lv_goto (tgt := 90) hx hb dX1_hymn_64 (by decide) ?_
          refine cp_puti hx hb hts inW tyX1 tyX1_ok nmX1 hown hK hI (cp_hY _ _ _ _ _) rfl 0 (by decide) fl_thrown rfl rfl (by decide +kernel) (Nat.le_of_ble_eq_true rfl) dX1_hymn_90 (cp_tY _ _ _ _ _ _) (fun H locs hI => ?_)
          refine lv_aload_n hx hb dX1_hymn_93 rfl (lv_at hl 1 rfl) ?_
          refine cp_get (v := .int 1) hx hb hts inW hown hK hI (cp_hY _ _ _ _ _) rfl 0 (by decide) fl_thrown rfl rfl dX1_hymn_94 ?_
          refine lv_if_le (tgt := 102) hx hb dX1_hymn_97 (by decide) (fun c97 => ?_) (fun c97 => ?_)
          · exact absurd c97 (by decide)
          · refine lv_iconst (v := 0) hx hb dX1_hymn_100 (by decide) ?_
            exact cp_reti (u := (cp_thw u 1)) (v := 0) hx hb hr hlocks hK hI (Or.inl ⟨c60, rfl⟩) dX1_hymn_101
      · refine lv_iload hx hb dX1_hymn_25 (lv_at hl 4 rfl) ?_
        refine lv_iload_n hx hb dX1_hymn_27 rfl (lv_at hl 3 rfl) ?_
        refine lv_iconst (v := 1) hx hb dX1_hymn_28 (by decide) ?_
        refine lv_bipush (v := 30) hx hb dX1_hymn_29 (by decide) ?_
        refine cp_cSi0 (As := [.int li, .int 1, .int 30]) (rest := [.int re]) ⟨hx, hb, hml, hown, hts⟩ ((c_X1_isIn l li 1 30) D) (va_cwS 3 hts gX1_hymn_X1_isIn rfl rfl rfl (by decide +kernel) ⟨Nat.le_of_ble_eq_true rfl, Nat.le_of_ble_eq_true rfl⟩) hK hI hA rfl hl.1 rfl (Nat.le_of_ble_eq_true rfl) dX1_hymn_31 ⟨Nat.le_of_ble_eq_true rfl, Nat.le_of_ble_eq_true rfl⟩ (fun r31 u31 H locs hp31 hI => ?_)
        obtain rfl := hp31
        refine lv_if_eq (tgt := 41) hx hb dX1_hymn_34 (by decide) (fun c34 => ?_) (fun c34 => ?_)
        · have c34 := cp_b0.mp c34
          exact absurd c17 c34
        · have c34 := Classical.not_not.mp (fun h9 => c34 (cp_b0.mpr h9))
          refine lv_iload_n hx hb dX1_hymn_37 rfl (lv_at hl 3 rfl) ?_
          refine lv_goto (tgt := 42) hx hb dX1_hymn_38 (by decide) ?_
          refine lv_ishr hx hb dX1_hymn_42 ?_
          refine lv_if_ne (tgt := 50) hx hb dX1_hymn_43 (by decide) (fun c43 => ?_) (fun c43 => ?_)
          · refine lv_iconst (v := 0) hx hb dX1_hymn_50 (by decide) ?_
            refine lv_istore (lv' := [(5, .int 0), (0, .ref h), (1, .int ow), (2, .int se), (3, .int li), (4, .int re)]) hx hb dX1_hymn_51 hl (by decide) rfl (fun ls hl => ?_)
            refine lv_aload_n hx hb dX1_hymn_53 rfl (lv_at hl 1 rfl) ?_
            refine lv_iload_n hx hb dX1_hymn_54 rfl (lv_at hl 2 rfl) ?_
            refine lv_iconst (v := 0) hx hb dX1_hymn_55 (by decide) ?_
            refine lv_iconst (v := 4) hx hb dX1_hymn_56 (by decide) ?_
            refine cp_cSi0 (As := [.int ow, .int 0, .int 4]) (rest := [.ref h]) ⟨hx, hb, hml, hown, hts⟩ ((c_X1_isIn l ow 0 4) D) (va_cwS 3 hts gX1_hymn_X1_isIn rfl rfl rfl (by decide +kernel) ⟨Nat.le_of_ble_eq_true rfl, Nat.le_of_ble_eq_true rfl⟩) hK hI hA rfl hl.1 rfl (Nat.le_of_ble_eq_true rfl) dX1_hymn_57 ⟨Nat.le_of_ble_eq_true rfl, Nat.le_of_ble_eq_true rfl⟩ (fun r57 u57 H locs hp57 hI => ?_)
            obtain rfl := hp57
            refine lv_if_ne (tgt := 67) hx hb dX1_hymn_60 (by decide) (fun c60 => ?_) (fun c60 => ?_)
            · have c60 := Classical.not_not.mp (fun h9 => c60 (cp_b0.mpr h9))
              refine lv_iload hx hb dX1_hymn_67 (lv_at hl 0 rfl) ?_
              refine lv_if_ne (tgt := 76) hx hb dX1_hymn_69 (by decide) (fun c69 => ?_) (fun c69 => ?_)
              · exact absurd rfl c69
              · refine lv_iconst (v := 2) hx hb dX1_hymn_72 (by decide) ?_
                refine lv_goto (tgt := 90) hx hb dX1_hymn_73 (by decide) ?_
                refine cp_puti hx hb hts inW tyX1 tyX1_ok nmX1 hown hK hI (cp_hY _ _ _ _ _) rfl 0 (by decide) fl_thrown rfl rfl (by decide +kernel) (Nat.le_of_ble_eq_true rfl) dX1_hymn_90 (cp_tY _ _ _ _ _ _) (fun H locs hI => ?_)
                refine lv_aload_n hx hb dX1_hymn_93 rfl (lv_at hl 1 rfl) ?_
                refine cp_get (v := .int 2) hx hb hts inW hown hK hI (cp_hY _ _ _ _ _) rfl 0 (by decide) fl_thrown rfl rfl dX1_hymn_94 ?_
                refine lv_if_le (tgt := 102) hx hb dX1_hymn_97 (by decide) (fun c97 => ?_) (fun c97 => ?_)
                · exact absurd c97 (by decide)
                · refine lv_iconst (v := 0) hx hb dX1_hymn_100 (by decide) ?_
                  exact cp_reti (u := (cp_thw u 2)) (v := 0) hx hb hr hlocks hK hI (Or.inr (Or.inl ⟨c60, by first | exact fun h => c7 h.1 | exact fun h => c17 h.2.1 | exact fun h => h.2.2.1 c22 | exact fun h => c43 h.2.2.2, rfl⟩)) dX1_hymn_101
            · have c60 := cp_b0.mp c60
              refine lv_iconst (v := 1) hx hb dX1_hymn_63 (by decide) ?_
              refine lv_goto (tgt := 90) hx hb dX1_hymn_64 (by decide) ?_
              refine cp_puti hx hb hts inW tyX1 tyX1_ok nmX1 hown hK hI (cp_hY _ _ _ _ _) rfl 0 (by decide) fl_thrown rfl rfl (by decide +kernel) (Nat.le_of_ble_eq_true rfl) dX1_hymn_90 (cp_tY _ _ _ _ _ _) (fun H locs hI => ?_)
              refine lv_aload_n hx hb dX1_hymn_93 rfl (lv_at hl 1 rfl) ?_
              refine cp_get (v := .int 1) hx hb hts inW hown hK hI (cp_hY _ _ _ _ _) rfl 0 (by decide) fl_thrown rfl rfl dX1_hymn_94 ?_
              refine lv_if_le (tgt := 102) hx hb dX1_hymn_97 (by decide) (fun c97 => ?_) (fun c97 => ?_)
              · exact absurd c97 (by decide)
              · refine lv_iconst (v := 0) hx hb dX1_hymn_100 (by decide) ?_
                exact cp_reti (u := (cp_thw u 1)) (v := 0) hx hb hr hlocks hK hI (Or.inl ⟨c60, rfl⟩) dX1_hymn_101
          · refine lv_iconst (v := 1) hx hb dX1_hymn_46 (by decide) ?_
            refine lv_goto (tgt := 51) hx hb dX1_hymn_47 (by decide) ?_
            refine lv_istore (lv' := [(5, .int 1), (0, .ref h), (1, .int ow), (2, .int se), (3, .int li), (4, .int re)]) hx hb dX1_hymn_51 hl (by decide) rfl (fun ls hl => ?_)
            refine lv_aload_n hx hb dX1_hymn_53 rfl (lv_at hl 1 rfl) ?_
            refine lv_iload_n hx hb dX1_hymn_54 rfl (lv_at hl 2 rfl) ?_
            refine lv_iconst (v := 0) hx hb dX1_hymn_55 (by decide) ?_
            refine lv_iconst (v := 4) hx hb dX1_hymn_56 (by decide) ?_
            refine cp_cSi0 (As := [.int ow, .int 0, .int 4]) (rest := [.ref h]) ⟨hx, hb, hml, hown, hts⟩ ((c_X1_isIn l ow 0 4) D) (va_cwS 3 hts gX1_hymn_X1_isIn rfl rfl rfl (by decide +kernel) ⟨Nat.le_of_ble_eq_true rfl, Nat.le_of_ble_eq_true rfl⟩) hK hI hA rfl hl.1 rfl (Nat.le_of_ble_eq_true rfl) dX1_hymn_57 ⟨Nat.le_of_ble_eq_true rfl, Nat.le_of_ble_eq_true rfl⟩ (fun r57 u57 H locs hp57 hI => ?_)
            obtain rfl := hp57
            refine lv_if_ne (tgt := 67) hx hb dX1_hymn_60 (by decide) (fun c60 => ?_) (fun c60 => ?_)
            · have c60 := Classical.not_not.mp (fun h9 => c60 (cp_b0.mpr h9))
              refine lv_iload hx hb dX1_hymn_67 (lv_at hl 0 rfl) ?_
              refine lv_if_ne (tgt := 76) hx hb dX1_hymn_69 (by decide) (fun c69 => ?_) (fun c69 => ?_)
              · refine lv_aload_n hx hb dX1_hymn_76 rfl (lv_at hl 1 rfl) ?_
                refine cp_get (v := .int (u 14 1)) hx hb hts inW hown hK hI (cp_hY _ _ _ _ _) rfl 2 (by decide) fl_hymns rfl rfl dX1_hymn_77 ?_
                refine lv_bipush (v := 16) hx hb dX1_hymn_80 (by decide) ?_
                refine lv_icmp_ne (tgt := 89) hx hb dX1_hymn_82 (by decide) (fun c82 => ?_) (fun c82 => ?_)
                · refine lv_iconst (v := 0) hx hb dX1_hymn_89 (by decide) ?_
                  refine cp_puti hx hb hts inW tyX1 tyX1_ok nmX1 hown hK hI (cp_hY _ _ _ _ _) rfl 0 (by decide) fl_thrown rfl rfl (by decide +kernel) (Nat.le_of_ble_eq_true rfl) dX1_hymn_90 (cp_tY _ _ _ _ _ _) (fun H locs hI => ?_)
                  refine lv_aload_n hx hb dX1_hymn_93 rfl (lv_at hl 1 rfl) ?_
                  refine cp_get (v := .int 0) hx hb hts inW hown hK hI (cp_hY _ _ _ _ _) rfl 0 (by decide) fl_thrown rfl rfl dX1_hymn_94 ?_
                  refine lv_if_le (tgt := 102) hx hb dX1_hymn_97 (by decide) (fun c97 => ?_) (fun c97 => ?_)
                  · have hrm := cp_room (N := 16) hN1 (cp_full hN1 c82)
                    refine lv_aload_n hx hb dX1_hymn_102 rfl (lv_at hl 1 rfl) ?_
                    refine cp_get (v := .ref (a 0)) hx hb hts inW hown hK hI (cp_hY _ _ _ _ _) rfl 3 (by decide) fl_owner rfl rfl dX1_hymn_103 ?_
                    refine lv_aload_n hx hb dX1_hymn_106 rfl (lv_at hl 1 rfl) ?_
                    refine cp_get (v := .int (u 14 1)) hx hb hts inW hown hK hI (cp_hY _ _ _ _ _) rfl 2 (by decide) fl_hymns rfl rfl dX1_hymn_107 ?_
                    refine lv_iload_n hx hb dX1_hymn_110 rfl (lv_at hl 2 rfl) ?_
                    refine cp_iast hx hb hK hI 0 (cp_aY_0 _ _ _ _ _) rfl (j := (cp_n u 1)) (cp_ix_e (by exact hN1.1) (by omega) (by decide)) dX1_hymn_111 (cp_sY_0 _ _ _ _ _ _) (fun H locs hI => ?_)
                    obtain ⟨u111, eu111⟩ : ∃ z9, z9 = cp_up (cp_thw u 0) 0 (upd ((cp_thw u 0) 0) (cp_n u 1) ow) := ⟨_, rfl⟩
                    rw [← eu111] at hI
                    refine lv_aload_n hx hb dX1_hymn_112 rfl (lv_at hl 1 rfl) ?_
                    refine cp_get (v := .ref (a 1)) hx hb hts inW hown hK hI (cp_hY _ _ _ _ _) rfl 4 (by decide) fl_seasons rfl rfl dX1_hymn_113 ?_
                    refine lv_aload_n hx hb dX1_hymn_116 rfl (lv_at hl 1 rfl) ?_
                    refine cp_get (v := .int (u111 14 1)) hx hb hts inW hown hK hI (cp_hY _ _ _ _ _) rfl 2 (by decide) fl_hymns rfl rfl dX1_hymn_117 ?_
                    refine lv_iload_n hx hb dX1_hymn_120 rfl (lv_at hl 3 rfl) ?_
                    refine cp_iast hx hb hK hI 0 (cp_aY_1 _ _ _ _ _) rfl (j := (cp_n u 1)) (cp_ix_e (by rw [eu111]; exact hN1.1) (by omega) (by decide)) dX1_hymn_121 (cp_sY_1 _ _ _ _ _ _) (fun H locs hI => ?_)
                    obtain ⟨u121, eu121⟩ : ∃ z9, z9 = cp_up u111 1 (upd (u111 1) (cp_n u 1) se) := ⟨_, rfl⟩
                    rw [← eu121] at hI
                    refine lv_aload_n hx hb dX1_hymn_122 rfl (lv_at hl 1 rfl) ?_
                    refine cp_get (v := .ref (a 2)) hx hb hts inW hown hK hI (cp_hY _ _ _ _ _) rfl 5 (by decide) fl_lines rfl rfl dX1_hymn_123 ?_
                    refine lv_aload_n hx hb dX1_hymn_126 rfl (lv_at hl 1 rfl) ?_
                    refine cp_get (v := .int (u121 14 1)) hx hb hts inW hown hK hI (cp_hY _ _ _ _ _) rfl 2 (by decide) fl_hymns rfl rfl dX1_hymn_127 ?_
                    refine lv_iload_n hx hb dX1_hymn_130 rfl (lv_at hl 4 rfl) ?_
                    refine cp_iast hx hb hK hI 0 (cp_aY_2 _ _ _ _ _) rfl (j := (cp_n u 1)) (cp_ix_e (by rw [eu121, eu111]; exact hN1.1) (by omega) (by decide)) dX1_hymn_131 (cp_sY_2 _ _ _ _ _ _) (fun H locs hI => ?_)
                    obtain ⟨u131, eu131⟩ : ∃ z9, z9 = cp_up u121 2 (upd (u121 2) (cp_n u 1) li) := ⟨_, rfl⟩
                    rw [← eu131] at hI
                    refine lv_aload_n hx hb dX1_hymn_132 rfl (lv_at hl 1 rfl) ?_
                    refine cp_get (v := .ref (a 3)) hx hb hts inW hown hK hI (cp_hY _ _ _ _ _) rfl 6 (by decide) fl_rests rfl rfl dX1_hymn_133 ?_
                    refine lv_aload_n hx hb dX1_hymn_136 rfl (lv_at hl 1 rfl) ?_
                    refine cp_get (v := .int (u131 14 1)) hx hb hts inW hown hK hI (cp_hY _ _ _ _ _) rfl 2 (by decide) fl_hymns rfl rfl dX1_hymn_137 ?_
                    refine lv_iload hx hb dX1_hymn_140 (lv_at hl 5 rfl) ?_
                    refine cp_iast hx hb hK hI 0 (cp_aY_3 _ _ _ _ _) rfl (j := (cp_n u 1)) (cp_ix_e (by rw [eu131, eu121, eu111]; exact hN1.1) (by omega) (by decide)) dX1_hymn_142 (cp_sY_3 _ _ _ _ _ _) (fun H locs hI => ?_)
                    obtain ⟨u142, eu142⟩ : ∃ z9, z9 = cp_up u131 3 (upd (u131 3) (cp_n u 1) re) := ⟨_, rfl⟩
                    rw [← eu142] at hI
                    refine lv_aload_n hx hb dX1_hymn_143 rfl (lv_at hl 1 rfl) ?_
                    refine lv_dup hx hb dX1_hymn_144 rfl ?_
                    refine cp_get (v := .int (u142 14 1)) hx hb hts inW hown hK hI (cp_hY _ _ _ _ _) rfl 2 (by decide) fl_hymns rfl rfl dX1_hymn_145 ?_
                    refine lv_iconst (v := 1) hx hb dX1_hymn_148 (by decide) ?_
                    refine lv_iadd hx hb dX1_hymn_149 ?_
                    refine cp_puti hx hb hts inW tyX1 tyX1_ok nmX1 hown hK hI (cp_hY _ _ _ _ _) rfl 2 (by decide) fl_hymns rfl rfl (by decide +kernel) (Nat.le_of_ble_eq_true rfl) dX1_hymn_150 (cp_iY_1 _ _ _ _ _ _) (fun H locs hI => ?_)
                    obtain ⟨u150, eu150⟩ : ∃ z9, z9 = cp_up u142 14 (upd (u142 14) 1 ((u142 14 1) + 1)) := ⟨_, rfl⟩
                    rw [← eu150] at hI
                    refine lv_aload_n hx hb dX1_hymn_153 rfl (lv_at hl 1 rfl) ?_
                    refine cp_get (v := .int (u150 14 1)) hx hb hts inW hown hK hI (cp_hY _ _ _ _ _) rfl 2 (by decide) fl_hymns rfl rfl dX1_hymn_154 ?_
                    refine lv_iconst (v := 1) hx hb dX1_hymn_157 (by decide) ?_
                    refine lv_isub hx hb dX1_hymn_158 ?_
                    exact cp_reti (u := u150) (v := ((u150 14 1) - 1)) hx hb hr hlocks hK hI (Or.inr (Or.inr (Or.inr ⟨c60, ⟨c7, c17, c22, c43⟩, cp_full hN1 c82, by subst eu150; subst eu142; subst eu131; subst eu121; subst eu111; exact cp_a1 (u 14 1), by subst eu150; subst eu142; subst eu131; subst eu121; subst eu111; rfl⟩))) dX1_hymn_159
                  · exact absurd (by decide) c97
                · refine lv_iconst (v := 3) hx hb dX1_hymn_85 (by decide) ?_
                  refine lv_goto (tgt := 90) hx hb dX1_hymn_86 (by decide) ?_
                  refine cp_puti hx hb hts inW tyX1 tyX1_ok nmX1 hown hK hI (cp_hY _ _ _ _ _) rfl 0 (by decide) fl_thrown rfl rfl (by decide +kernel) (Nat.le_of_ble_eq_true rfl) dX1_hymn_90 (cp_tY _ _ _ _ _ _) (fun H locs hI => ?_)
                  refine lv_aload_n hx hb dX1_hymn_93 rfl (lv_at hl 1 rfl) ?_
                  refine cp_get (v := .int 3) hx hb hts inW hown hK hI (cp_hY _ _ _ _ _) rfl 0 (by decide) fl_thrown rfl rfl dX1_hymn_94 ?_
                  refine lv_if_le (tgt := 102) hx hb dX1_hymn_97 (by decide) (fun c97 => ?_) (fun c97 => ?_)
                  · exact absurd c97 (by decide)
                  · refine lv_iconst (v := 0) hx hb dX1_hymn_100 (by decide) ?_
                    exact cp_reti (u := (cp_thw u 3)) (v := 0) hx hb hr hlocks hK hI (Or.inr (Or.inr (Or.inl ⟨c60, ⟨c7, c17, c22, c43⟩, fun h => h (cp_full_e c82), rfl⟩))) dX1_hymn_101
              · exact absurd c69 (by decide)
            · have c60 := cp_b0.mp c60
              refine lv_iconst (v := 1) hx hb dX1_hymn_63 (by decide) ?_
              refine lv_goto (tgt := 90) hx hb dX1_hymn_64 (by decide) ?_
              refine cp_puti hx hb hts inW tyX1 tyX1_ok nmX1 hown hK hI (cp_hY _ _ _ _ _) rfl 0 (by decide) fl_thrown rfl rfl (by decide +kernel) (Nat.le_of_ble_eq_true rfl) dX1_hymn_90 (cp_tY _ _ _ _ _ _) (fun H locs hI => ?_)
              refine lv_aload_n hx hb dX1_hymn_93 rfl (lv_at hl 1 rfl) ?_
              refine cp_get (v := .int 1) hx hb hts inW hown hK hI (cp_hY _ _ _ _ _) rfl 0 (by decide) fl_thrown rfl rfl dX1_hymn_94 ?_
              refine lv_if_le (tgt := 102) hx hb dX1_hymn_97 (by decide) (fun c97 => ?_) (fun c97 => ?_)
              · exact absurd c97 (by decide)
              · refine lv_iconst (v := 0) hx hb dX1_hymn_100 (by decide) ?_
                exact cp_reti (u := (cp_thw u 1)) (v := 0) hx hb hr hlocks hK hI (Or.inl ⟨c60, rfl⟩) dX1_hymn_101
set_option maxHeartbeats 4000000 in
set_option maxRecDepth 100000 in
theorem c_X1_right (l : Launch) (D : va_G) (cI cZ : ClassId) (h : Nat) (a : Nat → Nat) (u : cp_M) (x : Int32) (y : Int32) (f : Int32) (t9 : Int32) (hN2 : cp_cn u 2 40) : ∀ sz : Nat, Met l yX1_right wsX1_right ({ frames := 2, cells := 0, slots := 0, locals := 43 } : Room) (va_Pc [.ref h, .int x, .int y, .int f, .int t9] (cp_pre D [(cI, .int), (cZ, .boolean)] (cp_wY cI cZ h a u) sz)) (va_Qi (fun (r : Int32) (u1 : cp_M) => (¬ (cp_bw x 0 (u 14 1 - 1) ∧ cp_bw y 0 1) ∧ u1 = cp_thw u 1) ∨ ((cp_bw x 0 (u 14 1 - 1) ∧ cp_bw y 0 1) ∧ ¬ (cp_bw f 0 1459 ∧ cp_bw t9 f 1459) ∧ u1 = cp_thw u 2) ∨ ((cp_bw x 0 (u 14 1 - 1) ∧ cp_bw y 0 1) ∧ (cp_bw f 0 1459 ∧ cp_bw t9 f 1459) ∧ ¬ ¬ (40 : Int32) ≤ u 14 2 ∧ u1 = cp_thw u 3) ∨ ((cp_bw x 0 (u 14 1 - 1) ∧ cp_bw y 0 1) ∧ (cp_bw f 0 1459 ∧ cp_bw t9 f 1459) ∧ ¬ (40 : Int32) ≤ u 14 2 ∧ r = u 14 2 ∧ u1 = cp_addR (cp_thw u 0) x y f t9)) (cp_at D [(cI, .int), (cZ, .boolean)] (va_A (cp_wY cI cZ h a u) sz) (cp_wY cI cZ h a)) (va_A (cp_wY cI cZ h a u) sz)) 0 0 (va_A (cp_wY cI cZ h a u) sz) := by
  refine cp_MetI (Qk := fun A => va_Qi (fun (r : Int32) (u1 : cp_M) => (¬ (cp_bw x 0 (u 14 1 - 1) ∧ cp_bw y 0 1) ∧ u1 = cp_thw u 1) ∨ ((cp_bw x 0 (u 14 1 - 1) ∧ cp_bw y 0 1) ∧ ¬ (cp_bw f 0 1459 ∧ cp_bw t9 f 1459) ∧ u1 = cp_thw u 2) ∨ ((cp_bw x 0 (u 14 1 - 1) ∧ cp_bw y 0 1) ∧ (cp_bw f 0 1459 ∧ cp_bw t9 f 1459) ∧ ¬ ¬ (40 : Int32) ≤ u 14 2 ∧ u1 = cp_thw u 3) ∨ ((cp_bw x 0 (u 14 1 - 1) ∧ cp_bw y 0 1) ∧ (cp_bw f 0 1459 ∧ cp_bw t9 f 1459) ∧ ¬ (40 : Int32) ≤ u 14 2 ∧ r = u 14 2 ∧ u1 = cp_addR (cp_thw u 0) x y f t9)) (cp_at D [(cI, .int), (cZ, .boolean)] A (cp_wY cI cZ h a)) A) (by decide) rfl (Nat.le_of_ble_eq_true rfl) ?_
  intro p e s m args below meth c A hC hA hK hI ls hl
  obtain ⟨hx, hb, hml, hown, hts, hr, hlocks⟩ := hC
  have hown : s.vm.findClass RX1 = some m.cls := hown
  have hl : lv_has ls 5 [(0, .ref h), (1, .int x), (2, .int y), (3, .int f), (4, .int t9)] := hl
  have inW : ∀ w ∈ wsX10, w ∈ wsX1_right := by decide +kernel
  have fl_first : Cond.fieldLink RX1 31 "CanticlePressModel" "first" "[I" ∈ wsX1_right := by decide +kernel
  have fl_last : Cond.fieldLink RX1 34 "CanticlePressModel" "last" "[I" ∈ wsX1_right := by decide +kernel
  have fl_rightHymn : Cond.fieldLink RX1 25 "CanticlePressModel" "rightHymn" "[I" ∈ wsX1_right := by decide +kernel
  have fl_rightUse : Cond.fieldLink RX1 28 "CanticlePressModel" "rightUse" "[I" ∈ wsX1_right := by decide +kernel
  have fl_rights : Cond.fieldLink RX1 86 "CanticlePressModel" "rights" "I" ∈ wsX1_right := by decide +kernel
  have fl_thrown : Cond.fieldLink RX1 53 "CanticlePressModel" "thrown" "I" ∈ wsX1_right := by decide +kernel
  refine lv_aload_n hx hb dX1_right_0 rfl (lv_at hl 0 rfl) ?_
  refine lv_aload_n hx hb dX1_right_1 rfl (lv_at hl 0 rfl) ?_
  refine lv_iload_n hx hb dX1_right_2 rfl (lv_at hl 1 rfl) ?_
  refine cp_cVi0 (wc := cp_wY cI cZ h a) (u := u) (As := [.int x]) (rest := [.ref h]) ⟨hx, hb, hml, hown, hts⟩ (c_X1_isHymn l D cI cZ h a u x) (cwV 1 hts gX1_right_X1_isHymn rfl rfl rfl (by decide +kernel) ⟨Nat.le_of_ble_eq_true rfl, Nat.le_of_ble_eq_true rfl⟩) hK hI hA ⟨_, cp_hY _ _ _ _ _⟩ rfl rfl rfl hl.1 rfl (Nat.le_of_ble_eq_true rfl) dX1_right_3 ⟨Nat.le_of_ble_eq_true rfl, Nat.le_of_ble_eq_true rfl⟩ (fun r3 u3 H locs hp3 hI => ?_)
  obtain ⟨rfl, e9⟩ := hp3
  rw [e9] at hI
  refine lv_if_eq (tgt := 16) hx hb dX1_right_6 (by decide) (fun c6 => ?_) (fun c6 => ?_)
  · have c6 := cp_b0.mp c6
    refine lv_iconst (v := 1) hx hb dX1_right_16 (by decide) ?_
    refine lv_goto (tgt := 57) hx hb dX1_right_17 (by decide) ?_
    refine cp_puti hx hb hts inW tyX1 tyX1_ok nmX1 hown hK hI (cp_hY _ _ _ _ _) rfl 0 (by decide) fl_thrown rfl rfl (by decide +kernel) (Nat.le_of_ble_eq_true rfl) dX1_right_57 (cp_tY _ _ _ _ _ _) (fun H locs hI => ?_)
    refine lv_aload_n hx hb dX1_right_60 rfl (lv_at hl 0 rfl) ?_
    refine cp_get (v := .int 1) hx hb hts inW hown hK hI (cp_hY _ _ _ _ _) rfl 0 (by decide) fl_thrown rfl rfl dX1_right_61 ?_
    refine lv_if_le (tgt := 69) hx hb dX1_right_64 (by decide) (fun c64 => ?_) (fun c64 => ?_)
    · exact absurd c64 (by decide)
    · refine lv_iconst (v := 0) hx hb dX1_right_67 (by decide) ?_
      exact cp_reti (u := (cp_thw u 1)) (v := 0) hx hb hr hlocks hK hI (Or.inl ⟨by first | exact fun h => c6 h.1 | exact fun h => c13 h.2, rfl⟩) dX1_right_68
  · have c6 := Classical.not_not.mp (fun h9 => c6 (cp_b0.mpr h9))
    refine lv_iload_n hx hb dX1_right_9 rfl (lv_at hl 2 rfl) ?_
    refine cp_cSi0 (As := [.int y]) (rest := [.ref h]) ⟨hx, hb, hml, hown, hts⟩ ((c_X1_isUse l y) D) (va_cwS 1 hts gX1_right_X1_isUse rfl rfl rfl (by decide +kernel) ⟨Nat.le_of_ble_eq_true rfl, Nat.le_of_ble_eq_true rfl⟩) hK hI hA rfl hl.1 rfl (Nat.le_of_ble_eq_true rfl) dX1_right_10 ⟨Nat.le_of_ble_eq_true rfl, Nat.le_of_ble_eq_true rfl⟩ (fun r10 u10 H locs hp10 hI => ?_)
    obtain rfl := hp10
    refine lv_if_ne (tgt := 20) hx hb dX1_right_13 (by decide) (fun c13 => ?_) (fun c13 => ?_)
    · have c13 := Classical.not_not.mp (fun h9 => c13 (cp_b0.mpr h9))
      refine lv_iload_n hx hb dX1_right_20 rfl (lv_at hl 3 rfl) ?_
      refine cp_cSi0 (As := [.int f]) (rest := [.ref h]) ⟨hx, hb, hml, hown, hts⟩ ((c_X1_isDay l f) D) (va_cwS 1 hts gX1_right_X1_isDay rfl rfl rfl (by decide +kernel) ⟨Nat.le_of_ble_eq_true rfl, Nat.le_of_ble_eq_true rfl⟩) hK hI hA rfl hl.1 rfl (Nat.le_of_ble_eq_true rfl) dX1_right_21 ⟨Nat.le_of_ble_eq_true rfl, Nat.le_of_ble_eq_true rfl⟩ (fun r21 u21 H locs hp21 hI => ?_)
      obtain rfl := hp21
      refine lv_if_eq (tgt := 39) hx hb dX1_right_24 (by decide) (fun c24 => ?_) (fun c24 => ?_)
      · have c24 := cp_b0.mp c24
        refine lv_iconst (v := 2) hx hb dX1_right_39 (by decide) ?_
        refine lv_goto (tgt := 57) hx hb dX1_right_40 (by decide) ?_
        refine cp_puti hx hb hts inW tyX1 tyX1_ok nmX1 hown hK hI (cp_hY _ _ _ _ _) rfl 0 (by decide) fl_thrown rfl rfl (by decide +kernel) (Nat.le_of_ble_eq_true rfl) dX1_right_57 (cp_tY _ _ _ _ _ _) (fun H locs hI => ?_)
        refine lv_aload_n hx hb dX1_right_60 rfl (lv_at hl 0 rfl) ?_
        refine cp_get (v := .int 2) hx hb hts inW hown hK hI (cp_hY _ _ _ _ _) rfl 0 (by decide) fl_thrown rfl rfl dX1_right_61 ?_
        refine lv_if_le (tgt := 69) hx hb dX1_right_64 (by decide) (fun c64 => ?_) (fun c64 => ?_)
        · exact absurd c64 (by decide)
        · refine lv_iconst (v := 0) hx hb dX1_right_67 (by decide) ?_
          exact cp_reti (u := (cp_thw u 2)) (v := 0) hx hb hr hlocks hK hI (Or.inr (Or.inl ⟨⟨c6, c13⟩, by first | exact fun h => c24 h.1 | exact fun h => c36 h.2, rfl⟩)) dX1_right_68
      · have c24 := Classical.not_not.mp (fun h9 => c24 (cp_b0.mpr h9))
        refine lv_iload hx hb dX1_right_27 (lv_at hl 4 rfl) ?_
        refine lv_iload_n hx hb dX1_right_29 rfl (lv_at hl 3 rfl) ?_
        refine lv_sipush (v := 1459) hx hb dX1_right_30 (by decide) ?_
        refine cp_cSi0 (As := [.int t9, .int f, .int 1459]) (rest := [.ref h]) ⟨hx, hb, hml, hown, hts⟩ ((c_X1_isIn l t9 f 1459) D) (va_cwS 3 hts gX1_right_X1_isIn rfl rfl rfl (by decide +kernel) ⟨Nat.le_of_ble_eq_true rfl, Nat.le_of_ble_eq_true rfl⟩) hK hI hA rfl hl.1 rfl (Nat.le_of_ble_eq_true rfl) dX1_right_33 ⟨Nat.le_of_ble_eq_true rfl, Nat.le_of_ble_eq_true rfl⟩ (fun r33 u33 H locs hp33 hI => ?_)
        obtain rfl := hp33
        refine lv_if_ne (tgt := 43) hx hb dX1_right_36 (by decide) (fun c36 => ?_) (fun c36 => ?_)
        · have c36 := Classical.not_not.mp (fun h9 => c36 (cp_b0.mpr h9))
          refine lv_aload_n hx hb dX1_right_43 rfl (lv_at hl 0 rfl) ?_
          refine cp_get (v := .int (u 14 2)) hx hb hts inW hown hK hI (cp_hY _ _ _ _ _) rfl 8 (by decide) fl_rights rfl rfl dX1_right_44 ?_
          refine lv_bipush (v := 40) hx hb dX1_right_47 (by decide) ?_
          refine lv_icmp_ne (tgt := 56) hx hb dX1_right_49 (by decide) (fun c49 => ?_) (fun c49 => ?_)
          · refine lv_iconst (v := 0) hx hb dX1_right_56 (by decide) ?_
            refine cp_puti hx hb hts inW tyX1 tyX1_ok nmX1 hown hK hI (cp_hY _ _ _ _ _) rfl 0 (by decide) fl_thrown rfl rfl (by decide +kernel) (Nat.le_of_ble_eq_true rfl) dX1_right_57 (cp_tY _ _ _ _ _ _) (fun H locs hI => ?_)
            refine lv_aload_n hx hb dX1_right_60 rfl (lv_at hl 0 rfl) ?_
            refine cp_get (v := .int 0) hx hb hts inW hown hK hI (cp_hY _ _ _ _ _) rfl 0 (by decide) fl_thrown rfl rfl dX1_right_61 ?_
            refine lv_if_le (tgt := 69) hx hb dX1_right_64 (by decide) (fun c64 => ?_) (fun c64 => ?_)
            · have hrm := cp_room (N := 40) hN2 (cp_full hN2 c49)
              refine lv_aload_n hx hb dX1_right_69 rfl (lv_at hl 0 rfl) ?_
              refine cp_get (v := .ref (a 7)) hx hb hts inW hown hK hI (cp_hY _ _ _ _ _) rfl 9 (by decide) fl_rightHymn rfl rfl dX1_right_70 ?_
              refine lv_aload_n hx hb dX1_right_73 rfl (lv_at hl 0 rfl) ?_
              refine cp_get (v := .int (u 14 2)) hx hb hts inW hown hK hI (cp_hY _ _ _ _ _) rfl 8 (by decide) fl_rights rfl rfl dX1_right_74 ?_
              refine lv_iload_n hx hb dX1_right_77 rfl (lv_at hl 1 rfl) ?_
              refine cp_iast hx hb hK hI 0 (cp_aY_7 _ _ _ _ _) rfl (j := (cp_n u 2)) (cp_ix_e (by exact hN2.1) (by omega) (by decide)) dX1_right_78 (cp_sY_7 _ _ _ _ _ _) (fun H locs hI => ?_)
              obtain ⟨u78, eu78⟩ : ∃ z9, z9 = cp_up (cp_thw u 0) 7 (upd ((cp_thw u 0) 7) (cp_n u 2) x) := ⟨_, rfl⟩
              rw [← eu78] at hI
              refine lv_aload_n hx hb dX1_right_79 rfl (lv_at hl 0 rfl) ?_
              refine cp_get (v := .ref (a 8)) hx hb hts inW hown hK hI (cp_hY _ _ _ _ _) rfl 10 (by decide) fl_rightUse rfl rfl dX1_right_80 ?_
              refine lv_aload_n hx hb dX1_right_83 rfl (lv_at hl 0 rfl) ?_
              refine cp_get (v := .int (u78 14 2)) hx hb hts inW hown hK hI (cp_hY _ _ _ _ _) rfl 8 (by decide) fl_rights rfl rfl dX1_right_84 ?_
              refine lv_iload_n hx hb dX1_right_87 rfl (lv_at hl 2 rfl) ?_
              refine cp_iast hx hb hK hI 0 (cp_aY_8 _ _ _ _ _) rfl (j := (cp_n u 2)) (cp_ix_e (by rw [eu78]; exact hN2.1) (by omega) (by decide)) dX1_right_88 (cp_sY_8 _ _ _ _ _ _) (fun H locs hI => ?_)
              obtain ⟨u88, eu88⟩ : ∃ z9, z9 = cp_up u78 8 (upd (u78 8) (cp_n u 2) y) := ⟨_, rfl⟩
              rw [← eu88] at hI
              refine lv_aload_n hx hb dX1_right_89 rfl (lv_at hl 0 rfl) ?_
              refine cp_get (v := .ref (a 9)) hx hb hts inW hown hK hI (cp_hY _ _ _ _ _) rfl 11 (by decide) fl_first rfl rfl dX1_right_90 ?_
              refine lv_aload_n hx hb dX1_right_93 rfl (lv_at hl 0 rfl) ?_
              refine cp_get (v := .int (u88 14 2)) hx hb hts inW hown hK hI (cp_hY _ _ _ _ _) rfl 8 (by decide) fl_rights rfl rfl dX1_right_94 ?_
              refine lv_iload_n hx hb dX1_right_97 rfl (lv_at hl 3 rfl) ?_
              refine cp_iast hx hb hK hI 0 (cp_aY_9 _ _ _ _ _) rfl (j := (cp_n u 2)) (cp_ix_e (by rw [eu88, eu78]; exact hN2.1) (by omega) (by decide)) dX1_right_98 (cp_sY_9 _ _ _ _ _ _) (fun H locs hI => ?_)
              obtain ⟨u98, eu98⟩ : ∃ z9, z9 = cp_up u88 9 (upd (u88 9) (cp_n u 2) f) := ⟨_, rfl⟩
              rw [← eu98] at hI
              refine lv_aload_n hx hb dX1_right_99 rfl (lv_at hl 0 rfl) ?_
              refine cp_get (v := .ref (a 10)) hx hb hts inW hown hK hI (cp_hY _ _ _ _ _) rfl 12 (by decide) fl_last rfl rfl dX1_right_100 ?_
              refine lv_aload_n hx hb dX1_right_103 rfl (lv_at hl 0 rfl) ?_
              refine cp_get (v := .int (u98 14 2)) hx hb hts inW hown hK hI (cp_hY _ _ _ _ _) rfl 8 (by decide) fl_rights rfl rfl dX1_right_104 ?_
              refine lv_iload hx hb dX1_right_107 (lv_at hl 4 rfl) ?_
              refine cp_iast hx hb hK hI 0 (cp_aY_10 _ _ _ _ _) rfl (j := (cp_n u 2)) (cp_ix_e (by rw [eu98, eu88, eu78]; exact hN2.1) (by omega) (by decide)) dX1_right_109 (cp_sY_10 _ _ _ _ _ _) (fun H locs hI => ?_)
              obtain ⟨u109, eu109⟩ : ∃ z9, z9 = cp_up u98 10 (upd (u98 10) (cp_n u 2) t9) := ⟨_, rfl⟩
              rw [← eu109] at hI
              refine lv_aload_n hx hb dX1_right_110 rfl (lv_at hl 0 rfl) ?_
              refine lv_dup hx hb dX1_right_111 rfl ?_
              refine cp_get (v := .int (u109 14 2)) hx hb hts inW hown hK hI (cp_hY _ _ _ _ _) rfl 8 (by decide) fl_rights rfl rfl dX1_right_112 ?_
              refine lv_iconst (v := 1) hx hb dX1_right_115 (by decide) ?_
              refine lv_iadd hx hb dX1_right_116 ?_
              refine cp_puti hx hb hts inW tyX1 tyX1_ok nmX1 hown hK hI (cp_hY _ _ _ _ _) rfl 8 (by decide) fl_rights rfl rfl (by decide +kernel) (Nat.le_of_ble_eq_true rfl) dX1_right_117 (cp_iY_2 _ _ _ _ _ _) (fun H locs hI => ?_)
              obtain ⟨u117, eu117⟩ : ∃ z9, z9 = cp_up u109 14 (upd (u109 14) 2 ((u109 14 2) + 1)) := ⟨_, rfl⟩
              rw [← eu117] at hI
              refine lv_aload_n hx hb dX1_right_120 rfl (lv_at hl 0 rfl) ?_
              refine cp_get (v := .int (u117 14 2)) hx hb hts inW hown hK hI (cp_hY _ _ _ _ _) rfl 8 (by decide) fl_rights rfl rfl dX1_right_121 ?_
              refine lv_iconst (v := 1) hx hb dX1_right_124 (by decide) ?_
              refine lv_isub hx hb dX1_right_125 ?_
              exact cp_reti (u := u117) (v := ((u117 14 2) - 1)) hx hb hr hlocks hK hI (Or.inr (Or.inr (Or.inr ⟨⟨c6, c13⟩, ⟨c24, c36⟩, cp_full hN2 c49, by subst eu117; subst eu109; subst eu98; subst eu88; subst eu78; exact cp_a1 (u 14 2), by subst eu117; subst eu109; subst eu98; subst eu88; subst eu78; rfl⟩))) dX1_right_126
            · exact absurd (by decide) c64
          · refine lv_iconst (v := 3) hx hb dX1_right_52 (by decide) ?_
            refine lv_goto (tgt := 57) hx hb dX1_right_53 (by decide) ?_
            refine cp_puti hx hb hts inW tyX1 tyX1_ok nmX1 hown hK hI (cp_hY _ _ _ _ _) rfl 0 (by decide) fl_thrown rfl rfl (by decide +kernel) (Nat.le_of_ble_eq_true rfl) dX1_right_57 (cp_tY _ _ _ _ _ _) (fun H locs hI => ?_)
            refine lv_aload_n hx hb dX1_right_60 rfl (lv_at hl 0 rfl) ?_
            refine cp_get (v := .int 3) hx hb hts inW hown hK hI (cp_hY _ _ _ _ _) rfl 0 (by decide) fl_thrown rfl rfl dX1_right_61 ?_
            refine lv_if_le (tgt := 69) hx hb dX1_right_64 (by decide) (fun c64 => ?_) (fun c64 => ?_)
            · exact absurd c64 (by decide)
            · refine lv_iconst (v := 0) hx hb dX1_right_67 (by decide) ?_
              exact cp_reti (u := (cp_thw u 3)) (v := 0) hx hb hr hlocks hK hI (Or.inr (Or.inr (Or.inl ⟨⟨c6, c13⟩, ⟨c24, c36⟩, fun h => h (cp_full_e c49), rfl⟩))) dX1_right_68
        · have c36 := cp_b0.mp c36
          refine lv_iconst (v := 2) hx hb dX1_right_39 (by decide) ?_
          refine lv_goto (tgt := 57) hx hb dX1_right_40 (by decide) ?_
          refine cp_puti hx hb hts inW tyX1 tyX1_ok nmX1 hown hK hI (cp_hY _ _ _ _ _) rfl 0 (by decide) fl_thrown rfl rfl (by decide +kernel) (Nat.le_of_ble_eq_true rfl) dX1_right_57 (cp_tY _ _ _ _ _ _) (fun H locs hI => ?_)
          refine lv_aload_n hx hb dX1_right_60 rfl (lv_at hl 0 rfl) ?_
          refine cp_get (v := .int 2) hx hb hts inW hown hK hI (cp_hY _ _ _ _ _) rfl 0 (by decide) fl_thrown rfl rfl dX1_right_61 ?_
          refine lv_if_le (tgt := 69) hx hb dX1_right_64 (by decide) (fun c64 => ?_) (fun c64 => ?_)
          · exact absurd c64 (by decide)
          · refine lv_iconst (v := 0) hx hb dX1_right_67 (by decide) ?_
            exact cp_reti (u := (cp_thw u 2)) (v := 0) hx hb hr hlocks hK hI (Or.inr (Or.inl ⟨⟨c6, c13⟩, by first | exact fun h => c24 h.1 | exact fun h => c36 h.2, rfl⟩)) dX1_right_68
    · have c13 := cp_b0.mp c13
      refine lv_iconst (v := 1) hx hb dX1_right_16 (by decide) ?_
      refine lv_goto (tgt := 57) hx hb dX1_right_17 (by decide) ?_
      refine cp_puti hx hb hts inW tyX1 tyX1_ok nmX1 hown hK hI (cp_hY _ _ _ _ _) rfl 0 (by decide) fl_thrown rfl rfl (by decide +kernel) (Nat.le_of_ble_eq_true rfl) dX1_right_57 (cp_tY _ _ _ _ _ _) (fun H locs hI => ?_)
      refine lv_aload_n hx hb dX1_right_60 rfl (lv_at hl 0 rfl) ?_
      refine cp_get (v := .int 1) hx hb hts inW hown hK hI (cp_hY _ _ _ _ _) rfl 0 (by decide) fl_thrown rfl rfl dX1_right_61 ?_
      refine lv_if_le (tgt := 69) hx hb dX1_right_64 (by decide) (fun c64 => ?_) (fun c64 => ?_)
      · exact absurd c64 (by decide)
      · refine lv_iconst (v := 0) hx hb dX1_right_67 (by decide) ?_
        exact cp_reti (u := (cp_thw u 1)) (v := 0) hx hb hr hlocks hK hI (Or.inl ⟨by first | exact fun h => c6 h.1 | exact fun h => c13 h.2, rfl⟩) dX1_right_68
set_option maxHeartbeats 4000000 in
set_option maxRecDepth 100000 in
theorem c_X1_hasRight (l : Launch) (D : va_G) (cI cZ : ClassId) (h : Nat) (a : Nat → Nat) (u : cp_M) (x : Int32) (y : Int32) (z : Int32) (hN2 : cp_cn u 2 40) : ∀ sz : Nat, Met l yX1_hasRight wsX1_hasRight ({ frames := 2, cells := 0, slots := 0, locals := 47 } : Room) (va_Pc [.ref h, .int x, .int y, .int z] (cp_pre D [(cI, .int), (cZ, .boolean)] (cp_wY cI cZ h a u) sz)) (va_Qi (fun (r : Int32) (u1 : cp_M) => (¬ (cp_bw x 0 (u 14 1 - 1) ∧ cp_bw y 0 1) ∧ u1 = cp_thw u 1) ∨ ((cp_bw x 0 (u 14 1 - 1) ∧ cp_bw y 0 1) ∧ ¬ cp_bw z 0 1459 ∧ u1 = cp_thw u 2) ∨ ((cp_bw x 0 (u 14 1 - 1) ∧ cp_bw y 0 1) ∧ cp_bw z 0 1459 ∧ r = cp_b (cp_may u x y z) ∧ u1 = cp_thw u 0)) (cp_at D [(cI, .int), (cZ, .boolean)] (va_A (cp_wY cI cZ h a u) sz) (cp_wY cI cZ h a)) (va_A (cp_wY cI cZ h a u) sz)) 0 0 (va_A (cp_wY cI cZ h a u) sz) := by
  refine cp_MetI (Qk := fun A => va_Qi (fun (r : Int32) (u1 : cp_M) => (¬ (cp_bw x 0 (u 14 1 - 1) ∧ cp_bw y 0 1) ∧ u1 = cp_thw u 1) ∨ ((cp_bw x 0 (u 14 1 - 1) ∧ cp_bw y 0 1) ∧ ¬ cp_bw z 0 1459 ∧ u1 = cp_thw u 2) ∨ ((cp_bw x 0 (u 14 1 - 1) ∧ cp_bw y 0 1) ∧ cp_bw z 0 1459 ∧ r = cp_b (cp_may u x y z) ∧ u1 = cp_thw u 0)) (cp_at D [(cI, .int), (cZ, .boolean)] A (cp_wY cI cZ h a)) A) (by decide) rfl (Nat.le_of_ble_eq_true rfl) ?_
  intro p e s m args below meth c A hC hA hK hI ls hl
  obtain ⟨hx, hb, hml, hown, hts, hr, hlocks⟩ := hC
  have hown : s.vm.findClass RX1 = some m.cls := hown
  have hl : lv_has ls 4 [(0, .ref h), (1, .int x), (2, .int y), (3, .int z)] := hl
  have inW : ∀ w ∈ wsX10, w ∈ wsX1_hasRight := by decide +kernel
  have fl_thrown : Cond.fieldLink RX1 53 "CanticlePressModel" "thrown" "I" ∈ wsX1_hasRight := by decide +kernel
  refine lv_aload_n hx hb dX1_hasRight_0 rfl (lv_at hl 0 rfl) ?_
  refine lv_aload_n hx hb dX1_hasRight_1 rfl (lv_at hl 0 rfl) ?_
  refine lv_iload_n hx hb dX1_hasRight_2 rfl (lv_at hl 1 rfl) ?_
  refine cp_cVi0 (wc := cp_wY cI cZ h a) (u := u) (As := [.int x]) (rest := [.ref h]) ⟨hx, hb, hml, hown, hts⟩ (c_X1_isHymn l D cI cZ h a u x) (cwV 1 hts gX1_hasRight_X1_isHymn rfl rfl rfl (by decide +kernel) ⟨Nat.le_of_ble_eq_true rfl, Nat.le_of_ble_eq_true rfl⟩) hK hI hA ⟨_, cp_hY _ _ _ _ _⟩ rfl rfl rfl hl.1 rfl (Nat.le_of_ble_eq_true rfl) dX1_hasRight_3 ⟨Nat.le_of_ble_eq_true rfl, Nat.le_of_ble_eq_true rfl⟩ (fun r3 u3 H locs hp3 hI => ?_)
  obtain ⟨rfl, e9⟩ := hp3
  rw [e9] at hI
  refine lv_if_eq (tgt := 16) hx hb dX1_hasRight_6 (by decide) (fun c6 => ?_) (fun c6 => ?_)
  · have c6 := cp_b0.mp c6
    refine lv_iconst (v := 1) hx hb dX1_hasRight_16 (by decide) ?_
    refine lv_goto (tgt := 32) hx hb dX1_hasRight_17 (by decide) ?_
    refine cp_puti hx hb hts inW tyX1 tyX1_ok nmX1 hown hK hI (cp_hY _ _ _ _ _) rfl 0 (by decide) fl_thrown rfl rfl (by decide +kernel) (Nat.le_of_ble_eq_true rfl) dX1_hasRight_32 (cp_tY _ _ _ _ _ _) (fun H locs hI => ?_)
    refine lv_aload_n hx hb dX1_hasRight_35 rfl (lv_at hl 0 rfl) ?_
    refine cp_get (v := .int 1) hx hb hts inW hown hK hI (cp_hY _ _ _ _ _) rfl 0 (by decide) fl_thrown rfl rfl dX1_hasRight_36 ?_
    refine lv_if_ne (tgt := 56) hx hb dX1_hasRight_39 (by decide) (fun c39 => ?_) (fun c39 => ?_)
    · refine lv_iconst (v := 0) hx hb dX1_hasRight_56 (by decide) ?_
      exact cp_retz (u := (cp_thw u 1)) (v := 0) hx hb hr hlocks hK hI rfl (Or.inl ⟨by first | exact fun h => c6 h.1 | exact fun h => c13 h.2, rfl⟩) dX1_hasRight_57
    · exact absurd c39 (by decide)
  · have c6 := Classical.not_not.mp (fun h9 => c6 (cp_b0.mpr h9))
    refine lv_iload_n hx hb dX1_hasRight_9 rfl (lv_at hl 2 rfl) ?_
    refine cp_cSi0 (As := [.int y]) (rest := [.ref h]) ⟨hx, hb, hml, hown, hts⟩ ((c_X1_isUse l y) D) (va_cwS 1 hts gX1_hasRight_X1_isUse rfl rfl rfl (by decide +kernel) ⟨Nat.le_of_ble_eq_true rfl, Nat.le_of_ble_eq_true rfl⟩) hK hI hA rfl hl.1 rfl (Nat.le_of_ble_eq_true rfl) dX1_hasRight_10 ⟨Nat.le_of_ble_eq_true rfl, Nat.le_of_ble_eq_true rfl⟩ (fun r10 u10 H locs hp10 hI => ?_)
    obtain rfl := hp10
    refine lv_if_ne (tgt := 20) hx hb dX1_hasRight_13 (by decide) (fun c13 => ?_) (fun c13 => ?_)
    · have c13 := Classical.not_not.mp (fun h9 => c13 (cp_b0.mpr h9))
      refine lv_iload_n hx hb dX1_hasRight_20 rfl (lv_at hl 3 rfl) ?_
      refine cp_cSi0 (As := [.int z]) (rest := [.ref h]) ⟨hx, hb, hml, hown, hts⟩ ((c_X1_isDay l z) D) (va_cwS 1 hts gX1_hasRight_X1_isDay rfl rfl rfl (by decide +kernel) ⟨Nat.le_of_ble_eq_true rfl, Nat.le_of_ble_eq_true rfl⟩) hK hI hA rfl hl.1 rfl (Nat.le_of_ble_eq_true rfl) dX1_hasRight_21 ⟨Nat.le_of_ble_eq_true rfl, Nat.le_of_ble_eq_true rfl⟩ (fun r21 u21 H locs hp21 hI => ?_)
      obtain rfl := hp21
      refine lv_if_eq (tgt := 31) hx hb dX1_hasRight_24 (by decide) (fun c24 => ?_) (fun c24 => ?_)
      · have c24 := cp_b0.mp c24
        refine lv_iconst (v := 2) hx hb dX1_hasRight_31 (by decide) ?_
        refine cp_puti hx hb hts inW tyX1 tyX1_ok nmX1 hown hK hI (cp_hY _ _ _ _ _) rfl 0 (by decide) fl_thrown rfl rfl (by decide +kernel) (Nat.le_of_ble_eq_true rfl) dX1_hasRight_32 (cp_tY _ _ _ _ _ _) (fun H locs hI => ?_)
        refine lv_aload_n hx hb dX1_hasRight_35 rfl (lv_at hl 0 rfl) ?_
        refine cp_get (v := .int 2) hx hb hts inW hown hK hI (cp_hY _ _ _ _ _) rfl 0 (by decide) fl_thrown rfl rfl dX1_hasRight_36 ?_
        refine lv_if_ne (tgt := 56) hx hb dX1_hasRight_39 (by decide) (fun c39 => ?_) (fun c39 => ?_)
        · refine lv_iconst (v := 0) hx hb dX1_hasRight_56 (by decide) ?_
          exact cp_retz (u := (cp_thw u 2)) (v := 0) hx hb hr hlocks hK hI rfl (Or.inr (Or.inl ⟨⟨c6, c13⟩, c24, rfl⟩)) dX1_hasRight_57
        · exact absurd c39 (by decide)
      · have c24 := Classical.not_not.mp (fun h9 => c24 (cp_b0.mpr h9))
        refine lv_iconst (v := 0) hx hb dX1_hasRight_27 (by decide) ?_
        refine lv_goto (tgt := 32) hx hb dX1_hasRight_28 (by decide) ?_
        refine cp_puti hx hb hts inW tyX1 tyX1_ok nmX1 hown hK hI (cp_hY _ _ _ _ _) rfl 0 (by decide) fl_thrown rfl rfl (by decide +kernel) (Nat.le_of_ble_eq_true rfl) dX1_hasRight_32 (cp_tY _ _ _ _ _ _) (fun H locs hI => ?_)
        refine lv_aload_n hx hb dX1_hasRight_35 rfl (lv_at hl 0 rfl) ?_
        refine cp_get (v := .int 0) hx hb hts inW hown hK hI (cp_hY _ _ _ _ _) rfl 0 (by decide) fl_thrown rfl rfl dX1_hasRight_36 ?_
        refine lv_if_ne (tgt := 56) hx hb dX1_hasRight_39 (by decide) (fun c39 => ?_) (fun c39 => ?_)
        · exact absurd rfl c39
        · refine lv_aload_n hx hb dX1_hasRight_42 rfl (lv_at hl 0 rfl) ?_
          refine lv_iload_n hx hb dX1_hasRight_43 rfl (lv_at hl 1 rfl) ?_
          refine lv_iload_n hx hb dX1_hasRight_44 rfl (lv_at hl 2 rfl) ?_
          refine lv_iload_n hx hb dX1_hasRight_45 rfl (lv_at hl 3 rfl) ?_
          refine cp_cVi0 (wc := cp_wY cI cZ h a) (u := (cp_thw u 0)) (As := [.int x, .int y, .int z]) (rest := []) ⟨hx, hb, hml, hown, hts⟩ (c_X1_may l D cI cZ h a (cp_thw u 0) x y z hN2) (cwV 3 hts gX1_hasRight_X1_may rfl rfl rfl (by decide +kernel) ⟨Nat.le_of_ble_eq_true rfl, Nat.le_of_ble_eq_true rfl⟩) hK hI hA ⟨_, cp_hY _ _ _ _ _⟩ rfl rfl rfl hl.1 rfl (Nat.le_of_ble_eq_true rfl) dX1_hasRight_46 ⟨Nat.le_of_ble_eq_true rfl, Nat.le_of_ble_eq_true rfl⟩ (fun r46 u46 H locs hp46 hI => ?_)
          obtain ⟨rfl, e9⟩ := hp46
          rw [e9] at hI
          refine lv_if_eq (tgt := 56) hx hb dX1_hasRight_49 (by decide) (fun c49 => ?_) (fun c49 => ?_)
          · have c49 := cp_b0.mp c49
            refine lv_iconst (v := 0) hx hb dX1_hasRight_56 (by decide) ?_
            exact cp_retz (u := (cp_thw u 0)) (v := 0) hx hb hr hlocks hK hI rfl (Or.inr (Or.inr ⟨⟨c6, c13⟩, c24, (cp_bf c49).symm, rfl⟩)) dX1_hasRight_57
          · have c49 := Classical.not_not.mp (fun h9 => c49 (cp_b0.mpr h9))
            refine lv_iconst (v := 1) hx hb dX1_hasRight_52 (by decide) ?_
            refine lv_goto (tgt := 57) hx hb dX1_hasRight_53 (by decide) ?_
            exact cp_retz (u := (cp_thw u 0)) (v := 1) hx hb hr hlocks hK hI rfl (Or.inr (Or.inr ⟨⟨c6, c13⟩, c24, (cp_bt c49).symm, rfl⟩)) dX1_hasRight_57
    · have c13 := cp_b0.mp c13
      refine lv_iconst (v := 1) hx hb dX1_hasRight_16 (by decide) ?_
      refine lv_goto (tgt := 32) hx hb dX1_hasRight_17 (by decide) ?_
      refine cp_puti hx hb hts inW tyX1 tyX1_ok nmX1 hown hK hI (cp_hY _ _ _ _ _) rfl 0 (by decide) fl_thrown rfl rfl (by decide +kernel) (Nat.le_of_ble_eq_true rfl) dX1_hasRight_32 (cp_tY _ _ _ _ _ _) (fun H locs hI => ?_)
      refine lv_aload_n hx hb dX1_hasRight_35 rfl (lv_at hl 0 rfl) ?_
      refine cp_get (v := .int 1) hx hb hts inW hown hK hI (cp_hY _ _ _ _ _) rfl 0 (by decide) fl_thrown rfl rfl dX1_hasRight_36 ?_
      refine lv_if_ne (tgt := 56) hx hb dX1_hasRight_39 (by decide) (fun c39 => ?_) (fun c39 => ?_)
      · refine lv_iconst (v := 0) hx hb dX1_hasRight_56 (by decide) ?_
        exact cp_retz (u := (cp_thw u 1)) (v := 0) hx hb hr hlocks hK hI rfl (Or.inl ⟨by first | exact fun h => c6 h.1 | exact fun h => c13 h.2, rfl⟩) dX1_hasRight_57
      · exact absurd c39 (by decide)
set_option maxHeartbeats 4000000 in
set_option maxRecDepth 100000 in
theorem c_X1_print (l : Launch) (D : va_G) (cI cZ : ClassId) (h : Nat) (a : Nat → Nat) (u : cp_M) (x : Int32) (w : Int32) (hN1 : cp_cn u 1 16) (hN2 : cp_cn u 2 40) (hLn : ∀ g, g < cp_n u 1 → ∃ L, 1 ≤ L ∧ L ≤ 30 ∧ u 2 g = nI L) (hT : cp_td u) : ∀ sz : Nat, Met l yX1_print wsX1_print ({ frames := 3, cells := 0, slots := 0, locals := 70 } : Room) (va_Pc [.ref h, .int x, .int w] (cp_pre D [(cI, .int), (cZ, .boolean)] (cp_wY cI cZ h a u) sz)) (va_Qi (fun (r : Int32) (u1 : cp_M) => (¬ (cp_bw x 0 (u 14 1 - 1)) ∧ u1 = cp_thw u 1) ∨ ((cp_bw x 0 (u 14 1 - 1)) ∧ ¬ (cp_bw w 1 1000) ∧ u1 = cp_thw u 2) ∨ ((cp_bw x 0 (u 14 1 - 1)) ∧ (cp_bw w 1 1000) ∧ ¬ (cp_may u x 1 (u 14 0)) ∧ u1 = cp_thw u 3) ∨ ((cp_bw w 1 1000) ∧ (cp_may u x 1 (u 14 0)) ∧ ∃ g1 L1 i1, g1 < cp_n u 1 ∧ x = nI g1 ∧ u 2 g1 = nI L1 ∧ L1 ≤ 30 ∧ r = w * nI i1 ∧ cp_pgs (cp_qY (u 3 g1)) L1 i1 ∧ u1 = cp_up (cp_thw u 0) 6 (upd (u 6) (g1 * 4 + cp_n u 0 / 365) (u 6 (g1 * 4 + cp_n u 0 / 365) + w)))) (cp_at D [(cI, .int), (cZ, .boolean)] (va_A (cp_wY cI cZ h a u) sz) (cp_wY cI cZ h a)) (va_A (cp_wY cI cZ h a u) sz)) 0 0 (va_A (cp_wY cI cZ h a u) sz) := by
  refine cp_MetI (Qk := fun A => va_Qi (fun (r : Int32) (u1 : cp_M) => (¬ (cp_bw x 0 (u 14 1 - 1)) ∧ u1 = cp_thw u 1) ∨ ((cp_bw x 0 (u 14 1 - 1)) ∧ ¬ (cp_bw w 1 1000) ∧ u1 = cp_thw u 2) ∨ ((cp_bw x 0 (u 14 1 - 1)) ∧ (cp_bw w 1 1000) ∧ ¬ (cp_may u x 1 (u 14 0)) ∧ u1 = cp_thw u 3) ∨ ((cp_bw w 1 1000) ∧ (cp_may u x 1 (u 14 0)) ∧ ∃ g1 L1 i1, g1 < cp_n u 1 ∧ x = nI g1 ∧ u 2 g1 = nI L1 ∧ L1 ≤ 30 ∧ r = w * nI i1 ∧ cp_pgs (cp_qY (u 3 g1)) L1 i1 ∧ u1 = cp_up (cp_thw u 0) 6 (upd (u 6) (g1 * 4 + cp_n u 0 / 365) (u 6 (g1 * 4 + cp_n u 0 / 365) + w)))) (cp_at D [(cI, .int), (cZ, .boolean)] A (cp_wY cI cZ h a)) A) (by decide) rfl (Nat.le_of_ble_eq_true rfl) ?_
  intro p e s m args below meth c A hC hA hK hI ls hl
  obtain ⟨hx, hb, hml, hown, hts, hr, hlocks⟩ := hC
  have hown : s.vm.findClass RX1 = some m.cls := hown
  have hl : lv_has ls 3 [(0, .ref h), (1, .int x), (2, .int w)] := hl
  have inW : ∀ w ∈ wsX10, w ∈ wsX1_print := by decide +kernel
  have fl_printed : Cond.fieldLink RX1 22 "CanticlePressModel" "printed" "[I" ∈ wsX1_print := by decide +kernel
  have fl_thrown : Cond.fieldLink RX1 53 "CanticlePressModel" "thrown" "I" ∈ wsX1_print := by decide +kernel
  have fl_today : Cond.fieldLink RX1 89 "CanticlePressModel" "today" "I" ∈ wsX1_print := by decide +kernel
  refine lv_aload_n hx hb dX1_print_0 rfl (lv_at hl 0 rfl) ?_
  refine lv_aload_n hx hb dX1_print_1 rfl (lv_at hl 0 rfl) ?_
  refine lv_iload_n hx hb dX1_print_2 rfl (lv_at hl 1 rfl) ?_
  refine cp_cVi0 (wc := cp_wY cI cZ h a) (u := u) (As := [.int x]) (rest := [.ref h]) ⟨hx, hb, hml, hown, hts⟩ (c_X1_isHymn l D cI cZ h a u x) (cwV 1 hts gX1_print_X1_isHymn rfl rfl rfl (by decide +kernel) ⟨Nat.le_of_ble_eq_true rfl, Nat.le_of_ble_eq_true rfl⟩) hK hI hA ⟨_, cp_hY _ _ _ _ _⟩ rfl rfl rfl hl.1 rfl (Nat.le_of_ble_eq_true rfl) dX1_print_3 ⟨Nat.le_of_ble_eq_true rfl, Nat.le_of_ble_eq_true rfl⟩ (fun r3 u3 H locs hp3 hI => ?_)
  obtain ⟨rfl, e9⟩ := hp3
  rw [e9] at hI
  refine lv_if_ne (tgt := 13) hx hb dX1_print_6 (by decide) (fun c6 => ?_) (fun c6 => ?_)
  · have c6 := Classical.not_not.mp (fun h9 => c6 (cp_b0.mpr h9))
    refine lv_iload_n hx hb dX1_print_13 rfl (lv_at hl 2 rfl) ?_
    refine lv_iconst (v := 1) hx hb dX1_print_14 (by decide) ?_
    refine lv_sipush (v := 1000) hx hb dX1_print_15 (by decide) ?_
    refine cp_cSi0 (As := [.int w, .int 1, .int 1000]) (rest := [.ref h]) ⟨hx, hb, hml, hown, hts⟩ ((c_X1_isIn l w 1 1000) D) (va_cwS 3 hts gX1_print_X1_isIn rfl rfl rfl (by decide +kernel) ⟨Nat.le_of_ble_eq_true rfl, Nat.le_of_ble_eq_true rfl⟩) hK hI hA rfl hl.1 rfl (Nat.le_of_ble_eq_true rfl) dX1_print_18 ⟨Nat.le_of_ble_eq_true rfl, Nat.le_of_ble_eq_true rfl⟩ (fun r18 u18 H locs hp18 hI => ?_)
    obtain rfl := hp18
    refine lv_if_eq (tgt := 28) hx hb dX1_print_21 (by decide) (fun c21 => ?_) (fun c21 => ?_)
    · have c21 := cp_b0.mp c21
      refine lv_iconst (v := 2) hx hb dX1_print_28 (by decide) ?_
      refine cp_puti hx hb hts inW tyX1 tyX1_ok nmX1 hown hK hI (cp_hY _ _ _ _ _) rfl 0 (by decide) fl_thrown rfl rfl (by decide +kernel) (Nat.le_of_ble_eq_true rfl) dX1_print_29 (cp_tY _ _ _ _ _ _) (fun H locs hI => ?_)
      refine lv_aload_n hx hb dX1_print_32 rfl (lv_at hl 0 rfl) ?_
      refine cp_get (v := .int 2) hx hb hts inW hown hK hI (cp_hY _ _ _ _ _) rfl 0 (by decide) fl_thrown rfl rfl dX1_print_33 ?_
      refine lv_if_le (tgt := 41) hx hb dX1_print_36 (by decide) (fun c36 => ?_) (fun c36 => ?_)
      · exact absurd c36 (by decide)
      · refine lv_iconst (v := 0) hx hb dX1_print_39 (by decide) ?_
        exact cp_reti (u := (cp_thw u 2)) (v := 0) hx hb hr hlocks hK hI (Or.inr (Or.inl ⟨c6, c21, rfl⟩)) dX1_print_40
    · have c21 := Classical.not_not.mp (fun h9 => c21 (cp_b0.mpr h9))
      refine lv_iconst (v := 0) hx hb dX1_print_24 (by decide) ?_
      refine lv_goto (tgt := 29) hx hb dX1_print_25 (by decide) ?_
      refine cp_puti hx hb hts inW tyX1 tyX1_ok nmX1 hown hK hI (cp_hY _ _ _ _ _) rfl 0 (by decide) fl_thrown rfl rfl (by decide +kernel) (Nat.le_of_ble_eq_true rfl) dX1_print_29 (cp_tY _ _ _ _ _ _) (fun H locs hI => ?_)
      refine lv_aload_n hx hb dX1_print_32 rfl (lv_at hl 0 rfl) ?_
      refine cp_get (v := .int 0) hx hb hts inW hown hK hI (cp_hY _ _ _ _ _) rfl 0 (by decide) fl_thrown rfl rfl dX1_print_33 ?_
      refine lv_if_le (tgt := 41) hx hb dX1_print_36 (by decide) (fun c36 => ?_) (fun c36 => ?_)
      · refine lv_aload_n hx hb dX1_print_41 rfl (lv_at hl 0 rfl) ?_
        refine lv_aload_n hx hb dX1_print_42 rfl (lv_at hl 0 rfl) ?_
        refine lv_iload_n hx hb dX1_print_43 rfl (lv_at hl 1 rfl) ?_
        refine lv_iconst (v := 1) hx hb dX1_print_44 (by decide) ?_
        refine lv_aload_n hx hb dX1_print_45 rfl (lv_at hl 0 rfl) ?_
        refine cp_get (v := .int (u 14 0)) hx hb hts inW hown hK hI (cp_hY _ _ _ _ _) rfl 1 (by decide) fl_today rfl rfl dX1_print_46 ?_
        refine cp_cVi0 (wc := cp_wY cI cZ h a) (u := (cp_thw u 0)) (As := [.int x, .int 1, .int (u 14 0)]) (rest := [.ref h]) ⟨hx, hb, hml, hown, hts⟩ (c_X1_may l D cI cZ h a (cp_thw u 0) x 1 (u 14 0) hN2) (cwV 3 hts gX1_print_X1_may rfl rfl rfl (by decide +kernel) ⟨Nat.le_of_ble_eq_true rfl, Nat.le_of_ble_eq_true rfl⟩) hK hI hA ⟨_, cp_hY _ _ _ _ _⟩ rfl rfl rfl hl.1 rfl (Nat.le_of_ble_eq_true rfl) dX1_print_49 ⟨Nat.le_of_ble_eq_true rfl, Nat.le_of_ble_eq_true rfl⟩ (fun r49 u49 H locs hp49 hI => ?_)
        obtain ⟨rfl, e9⟩ := hp49
        rw [e9] at hI
        refine lv_if_eq (tgt := 59) hx hb dX1_print_52 (by decide) (fun c52 => ?_) (fun c52 => ?_)
        · have c52 := cp_b0.mp c52
          refine lv_iconst (v := 3) hx hb dX1_print_59 (by decide) ?_
          refine cp_puti hx hb hts inW tyX1 tyX1_ok nmX1 hown hK hI (cp_hY _ _ _ _ _) rfl 0 (by decide) fl_thrown rfl rfl (by decide +kernel) (Nat.le_of_ble_eq_true rfl) dX1_print_60 (cp_tY _ _ _ _ _ _) (fun H locs hI => ?_)
          rw [cp_thw_thw] at hI
          refine lv_aload_n hx hb dX1_print_63 rfl (lv_at hl 0 rfl) ?_
          refine cp_get (v := .int 3) hx hb hts inW hown hK hI (cp_hY _ _ _ _ _) rfl 0 (by decide) fl_thrown rfl rfl dX1_print_64 ?_
          refine lv_if_le (tgt := 72) hx hb dX1_print_67 (by decide) (fun c67 => ?_) (fun c67 => ?_)
          · exact absurd c67 (by decide)
          · refine lv_iconst (v := 0) hx hb dX1_print_70 (by decide) ?_
            exact cp_reti (u := (cp_thw u 3)) (v := 0) hx hb hr hlocks hK hI (Or.inr (Or.inr (Or.inl ⟨c6, c21, c52, rfl⟩))) dX1_print_71
        · have c52 := Classical.not_not.mp (fun h9 => c52 (cp_b0.mpr h9))
          refine lv_iconst (v := 0) hx hb dX1_print_55 (by decide) ?_
          refine lv_goto (tgt := 60) hx hb dX1_print_56 (by decide) ?_
          refine cp_puti hx hb hts inW tyX1 tyX1_ok nmX1 hown hK hI (cp_hY _ _ _ _ _) rfl 0 (by decide) fl_thrown rfl rfl (by decide +kernel) (Nat.le_of_ble_eq_true rfl) dX1_print_60 (cp_tY _ _ _ _ _ _) (fun H locs hI => ?_)
          rw [cp_thw_thw] at hI
          refine lv_aload_n hx hb dX1_print_63 rfl (lv_at hl 0 rfl) ?_
          refine cp_get (v := .int 0) hx hb hts inW hown hK hI (cp_hY _ _ _ _ _) rfl 0 (by decide) fl_thrown rfl rfl dX1_print_64 ?_
          refine lv_if_le (tgt := 72) hx hb dX1_print_67 (by decide) (fun c67 => ?_) (fun c67 => ?_)
          · obtain ⟨g, hg, rfl⟩ := cp_idx hN1 c6
            have hN9 := hN1.2.1
            obtain ⟨L, hL0, hL3, hL1⟩ := hLn g hg
            have hT2 := hT.2
            have hy9 : 4 * nI g + u 14 0 / 365 = nI (g * 4 + cp_n u 0 / 365) := by rw [hT.1]; exact (congrArg (fun z9 => 4 * nI g + z9) (cp_year_n (t := cp_n u 0) (by omega))).trans cp_4i
            refine lv_aload_n hx hb dX1_print_72 rfl (lv_at hl 0 rfl) ?_
            refine cp_get (v := .ref (a 6)) hx hb hts inW hown hK hI (cp_hY _ _ _ _ _) rfl 7 (by decide) fl_printed rfl rfl dX1_print_73 ?_
            refine lv_iconst (v := 4) hx hb dX1_print_76 (by decide) ?_
            refine lv_iload_n hx hb dX1_print_77 rfl (lv_at hl 1 rfl) ?_
            refine lv_imul hx hb dX1_print_78 ?_
            refine lv_aload_n hx hb dX1_print_79 rfl (lv_at hl 0 rfl) ?_
            refine cp_get (v := .int (u 14 0)) hx hb hts inW hown hK hI (cp_hY _ _ _ _ _) rfl 1 (by decide) fl_today rfl rfl dX1_print_80 ?_
            refine lv_sipush (v := 365) hx hb dX1_print_83 (by decide) ?_
            refine lv_idiv hx hb dX1_print_86 (by decide) ?_
            refine lv_iadd hx hb dX1_print_87 ?_
            refine lv_dup2_11 hx hb dX1_print_88 rfl rfl ?_
            refine cp_iald (f := u 6) hx hb hK hI 0 (cp_aY_6 _ _ _ _ _) rfl (j := (g * 4 + cp_n u 0 / 365)) (cp_ix_e hy9 (by omega) (by decide)) dX1_print_89 ?_
            refine lv_iload_n hx hb dX1_print_90 rfl (lv_at hl 2 rfl) ?_
            refine lv_iadd hx hb dX1_print_91 ?_
            refine cp_iast hx hb hK hI 0 (cp_aY_6 _ _ _ _ _) rfl (j := (g * 4 + cp_n u 0 / 365)) (cp_ix_e hy9 (by omega) (by decide)) dX1_print_92 (cp_sY_6 _ _ _ _ _ _) (fun H locs hI => ?_)
            obtain ⟨u92, eu92⟩ : ∃ z9, z9 = cp_up (cp_thw u 0) 6 (upd ((cp_thw u 0) 6) (g * 4 + cp_n u 0 / 365) ((u 6 (g * 4 + cp_n u 0 / 365)) + w)) := ⟨_, rfl⟩
            rw [← eu92] at hI
            refine lv_iload_n hx hb dX1_print_93 rfl (lv_at hl 2 rfl) ?_
            refine lv_aload_n hx hb dX1_print_94 rfl (lv_at hl 0 rfl) ?_
            refine lv_iload_n hx hb dX1_print_95 rfl (lv_at hl 1 rfl) ?_
            refine cp_cVi0 (wc := cp_wY cI cZ h a) (u := u92) (As := [.int (nI g)]) (rest := [.int w]) ⟨hx, hb, hml, hown, hts⟩ (c_X1_pagesOf l D cI cZ h a u92 g L (by omega) (by rw [eu92]; exact hL1) hL3) (cwV 1 hts gX1_print_X1_pagesOf rfl rfl rfl (by decide +kernel) ⟨Nat.le_of_ble_eq_true rfl, Nat.le_of_ble_eq_true rfl⟩) hK hI hA ⟨_, cp_hY _ _ _ _ _⟩ rfl rfl rfl hl.1 rfl (Nat.le_of_ble_eq_true rfl) dX1_print_96 ⟨Nat.le_of_ble_eq_true rfl, Nat.le_of_ble_eq_true rfl⟩ (fun r96 u96 H locs hp96 hI => ?_)
            obtain ⟨⟨i96, hia96, rfl, hib96, hic96⟩, e9⟩ := hp96
            rw [e9] at hI
            refine lv_imul hx hb dX1_print_99 ?_
            exact cp_reti (u := u92) (v := (w * (nI i96))) hx hb hr hlocks hK hI (Or.inr (Or.inr (Or.inr ⟨c21, c52, g, L, i96, hg, rfl, hL1, hL3, rfl, by subst eu92; exact ⟨hia96, hib96, hic96⟩, eu92⟩))) dX1_print_100
          · exact absurd (by decide) c67
      · exact absurd (by decide) c36
  · have c6 := cp_b0.mp c6
    refine lv_iconst (v := 1) hx hb dX1_print_9 (by decide) ?_
    refine lv_goto (tgt := 29) hx hb dX1_print_10 (by decide) ?_
    refine cp_puti hx hb hts inW tyX1 tyX1_ok nmX1 hown hK hI (cp_hY _ _ _ _ _) rfl 0 (by decide) fl_thrown rfl rfl (by decide +kernel) (Nat.le_of_ble_eq_true rfl) dX1_print_29 (cp_tY _ _ _ _ _ _) (fun H locs hI => ?_)
    refine lv_aload_n hx hb dX1_print_32 rfl (lv_at hl 0 rfl) ?_
    refine cp_get (v := .int 1) hx hb hts inW hown hK hI (cp_hY _ _ _ _ _) rfl 0 (by decide) fl_thrown rfl rfl dX1_print_33 ?_
    refine lv_if_le (tgt := 41) hx hb dX1_print_36 (by decide) (fun c36 => ?_) (fun c36 => ?_)
    · exact absurd c36 (by decide)
    · refine lv_iconst (v := 0) hx hb dX1_print_39 (by decide) ?_
      exact cp_reti (u := (cp_thw u 1)) (v := 0) hx hb hr hlocks hK hI (Or.inl ⟨c6, rfl⟩) dX1_print_40
set_option maxHeartbeats 4000000 in
set_option maxRecDepth 100000 in
theorem c_X1_printed (l : Launch) (D : va_G) (cI cZ : ClassId) (h : Nat) (a : Nat → Nat) (u : cp_M) (x : Int32) (y : Int32) (hN1 : cp_cn u 1 16) : ∀ sz : Nat, Met l yX1_printed wsX1_printed ({ frames := 2, cells := 0, slots := 0, locals := 43 } : Room) (va_Pc [.ref h, .int x, .int y] (cp_pre D [(cI, .int), (cZ, .boolean)] (cp_wY cI cZ h a u) sz)) (va_Qi (fun (r : Int32) (u1 : cp_M) => (¬ (cp_bw x 0 (u 14 1 - 1) ∧ cp_bw y 0 3) ∧ u1 = cp_thw u 1) ∨ (∃ g1 k1, g1 < cp_n u 1 ∧ k1 ≤ 3 ∧ x = nI g1 ∧ y = nI k1 ∧ r = u 6 (g1 * 4 + k1) ∧ u1 = cp_thw u 0)) (cp_at D [(cI, .int), (cZ, .boolean)] (va_A (cp_wY cI cZ h a u) sz) (cp_wY cI cZ h a)) (va_A (cp_wY cI cZ h a u) sz)) 0 0 (va_A (cp_wY cI cZ h a u) sz) := by
  refine cp_MetI (Qk := fun A => va_Qi (fun (r : Int32) (u1 : cp_M) => (¬ (cp_bw x 0 (u 14 1 - 1) ∧ cp_bw y 0 3) ∧ u1 = cp_thw u 1) ∨ (∃ g1 k1, g1 < cp_n u 1 ∧ k1 ≤ 3 ∧ x = nI g1 ∧ y = nI k1 ∧ r = u 6 (g1 * 4 + k1) ∧ u1 = cp_thw u 0)) (cp_at D [(cI, .int), (cZ, .boolean)] A (cp_wY cI cZ h a)) A) (by decide) rfl (Nat.le_of_ble_eq_true rfl) ?_
  intro p e s m args below meth c A hC hA hK hI ls hl
  obtain ⟨hx, hb, hml, hown, hts, hr, hlocks⟩ := hC
  have hown : s.vm.findClass RX1 = some m.cls := hown
  have hl : lv_has ls 3 [(0, .ref h), (1, .int x), (2, .int y)] := hl
  have inW : ∀ w ∈ wsX10, w ∈ wsX1_printed := by decide +kernel
  have fl_printed : Cond.fieldLink RX1 22 "CanticlePressModel" "printed" "[I" ∈ wsX1_printed := by decide +kernel
  have fl_thrown : Cond.fieldLink RX1 53 "CanticlePressModel" "thrown" "I" ∈ wsX1_printed := by decide +kernel
  refine lv_aload_n hx hb dX1_printed_0 rfl (lv_at hl 0 rfl) ?_
  refine lv_aload_n hx hb dX1_printed_1 rfl (lv_at hl 0 rfl) ?_
  refine lv_iload_n hx hb dX1_printed_2 rfl (lv_at hl 1 rfl) ?_
  refine cp_cVi0 (wc := cp_wY cI cZ h a) (u := u) (As := [.int x]) (rest := [.ref h]) ⟨hx, hb, hml, hown, hts⟩ (c_X1_isHymn l D cI cZ h a u x) (cwV 1 hts gX1_printed_X1_isHymn rfl rfl rfl (by decide +kernel) ⟨Nat.le_of_ble_eq_true rfl, Nat.le_of_ble_eq_true rfl⟩) hK hI hA ⟨_, cp_hY _ _ _ _ _⟩ rfl rfl rfl hl.1 rfl (Nat.le_of_ble_eq_true rfl) dX1_printed_3 ⟨Nat.le_of_ble_eq_true rfl, Nat.le_of_ble_eq_true rfl⟩ (fun r3 u3 H locs hp3 hI => ?_)
  obtain ⟨rfl, e9⟩ := hp3
  rw [e9] at hI
  refine lv_if_eq (tgt := 22) hx hb dX1_printed_6 (by decide) (fun c6 => ?_) (fun c6 => ?_)
  · have c6 := cp_b0.mp c6
    refine lv_iconst (v := 1) hx hb dX1_printed_22 (by decide) ?_
    refine cp_puti hx hb hts inW tyX1 tyX1_ok nmX1 hown hK hI (cp_hY _ _ _ _ _) rfl 0 (by decide) fl_thrown rfl rfl (by decide +kernel) (Nat.le_of_ble_eq_true rfl) dX1_printed_23 (cp_tY _ _ _ _ _ _) (fun H locs hI => ?_)
    refine lv_aload_n hx hb dX1_printed_26 rfl (lv_at hl 0 rfl) ?_
    refine cp_get (v := .int 1) hx hb hts inW hown hK hI (cp_hY _ _ _ _ _) rfl 0 (by decide) fl_thrown rfl rfl dX1_printed_27 ?_
    refine lv_if_le (tgt := 37) hx hb dX1_printed_30 (by decide) (fun c30 => ?_) (fun c30 => ?_)
    · exact absurd c30 (by decide)
    · refine lv_iconst (v := 0) hx hb dX1_printed_33 (by decide) ?_
      refine lv_goto (tgt := 47) hx hb dX1_printed_34 (by decide) ?_
      exact cp_reti (u := (cp_thw u 1)) (v := 0) hx hb hr hlocks hK hI (Or.inl ⟨by first | exact fun h => c6 h.1 | exact fun h => c15 h.2, rfl⟩) dX1_printed_47
  · have c6 := Classical.not_not.mp (fun h9 => c6 (cp_b0.mpr h9))
    refine lv_iload_n hx hb dX1_printed_9 rfl (lv_at hl 2 rfl) ?_
    refine lv_iconst (v := 0) hx hb dX1_printed_10 (by decide) ?_
    refine lv_iconst (v := 3) hx hb dX1_printed_11 (by decide) ?_
    refine cp_cSi0 (As := [.int y, .int 0, .int 3]) (rest := [.ref h]) ⟨hx, hb, hml, hown, hts⟩ ((c_X1_isIn l y 0 3) D) (va_cwS 3 hts gX1_printed_X1_isIn rfl rfl rfl (by decide +kernel) ⟨Nat.le_of_ble_eq_true rfl, Nat.le_of_ble_eq_true rfl⟩) hK hI hA rfl hl.1 rfl (Nat.le_of_ble_eq_true rfl) dX1_printed_12 ⟨Nat.le_of_ble_eq_true rfl, Nat.le_of_ble_eq_true rfl⟩ (fun r12 u12 H locs hp12 hI => ?_)
    obtain rfl := hp12
    refine lv_if_eq (tgt := 22) hx hb dX1_printed_15 (by decide) (fun c15 => ?_) (fun c15 => ?_)
    · have c15 := cp_b0.mp c15
      refine lv_iconst (v := 1) hx hb dX1_printed_22 (by decide) ?_
      refine cp_puti hx hb hts inW tyX1 tyX1_ok nmX1 hown hK hI (cp_hY _ _ _ _ _) rfl 0 (by decide) fl_thrown rfl rfl (by decide +kernel) (Nat.le_of_ble_eq_true rfl) dX1_printed_23 (cp_tY _ _ _ _ _ _) (fun H locs hI => ?_)
      refine lv_aload_n hx hb dX1_printed_26 rfl (lv_at hl 0 rfl) ?_
      refine cp_get (v := .int 1) hx hb hts inW hown hK hI (cp_hY _ _ _ _ _) rfl 0 (by decide) fl_thrown rfl rfl dX1_printed_27 ?_
      refine lv_if_le (tgt := 37) hx hb dX1_printed_30 (by decide) (fun c30 => ?_) (fun c30 => ?_)
      · exact absurd c30 (by decide)
      · refine lv_iconst (v := 0) hx hb dX1_printed_33 (by decide) ?_
        refine lv_goto (tgt := 47) hx hb dX1_printed_34 (by decide) ?_
        exact cp_reti (u := (cp_thw u 1)) (v := 0) hx hb hr hlocks hK hI (Or.inl ⟨by first | exact fun h => c6 h.1 | exact fun h => c15 h.2, rfl⟩) dX1_printed_47
    · have c15 := Classical.not_not.mp (fun h9 => c15 (cp_b0.mpr h9))
      refine lv_iconst (v := 0) hx hb dX1_printed_18 (by decide) ?_
      refine lv_goto (tgt := 23) hx hb dX1_printed_19 (by decide) ?_
      refine cp_puti hx hb hts inW tyX1 tyX1_ok nmX1 hown hK hI (cp_hY _ _ _ _ _) rfl 0 (by decide) fl_thrown rfl rfl (by decide +kernel) (Nat.le_of_ble_eq_true rfl) dX1_printed_23 (cp_tY _ _ _ _ _ _) (fun H locs hI => ?_)
      refine lv_aload_n hx hb dX1_printed_26 rfl (lv_at hl 0 rfl) ?_
      refine cp_get (v := .int 0) hx hb hts inW hown hK hI (cp_hY _ _ _ _ _) rfl 0 (by decide) fl_thrown rfl rfl dX1_printed_27 ?_
      refine lv_if_le (tgt := 37) hx hb dX1_printed_30 (by decide) (fun c30 => ?_) (fun c30 => ?_)
      · obtain ⟨g, hg, rfl⟩ := cp_idx hN1 c6
        have hN9 := hN1.2.1
        obtain ⟨k, hk, rfl⟩ := cp_idc (n := 3) (by decide) c15
        refine lv_aload_n hx hb dX1_printed_37 rfl (lv_at hl 0 rfl) ?_
        refine cp_get (v := .ref (a 6)) hx hb hts inW hown hK hI (cp_hY _ _ _ _ _) rfl 7 (by decide) fl_printed rfl rfl dX1_printed_38 ?_
        refine lv_iconst (v := 4) hx hb dX1_printed_41 (by decide) ?_
        refine lv_iload_n hx hb dX1_printed_42 rfl (lv_at hl 1 rfl) ?_
        refine lv_imul hx hb dX1_printed_43 ?_
        refine lv_iload_n hx hb dX1_printed_44 rfl (lv_at hl 2 rfl) ?_
        refine lv_iadd hx hb dX1_printed_45 ?_
        refine cp_iald (f := u 6) hx hb hK hI 0 (cp_aY_6 _ _ _ _ _) rfl (j := (g * 4 + k)) (cp_ix_e cp_4i (by omega) (by decide)) dX1_printed_46 ?_
        exact cp_reti (u := (cp_thw u 0)) (v := (u 6 (g * 4 + k))) hx hb hr hlocks hK hI (Or.inr ⟨g, k, hg, hk, rfl, rfl, rfl, rfl⟩) dX1_printed_47
      · exact absurd (by decide) c30
set_option maxHeartbeats 4000000 in
set_option maxRecDepth 100000 in
theorem c_X1_learn (l : Launch) (D : va_G) (cI cZ : ClassId) (h : Nat) (a : Nat → Nat) (u : cp_M) (ch : Int32) (x : Int32) (hN1 : cp_cn u 1 16) : ∀ sz : Nat, Met l yX1_learn wsX1_learn ({ frames := 2, cells := 0, slots := 0, locals := 43 } : Room) (va_Pc [.ref h, .int ch, .int x] (cp_pre D [(cI, .int), (cZ, .boolean)] (cp_wY cI cZ h a u) sz)) (va_Qi (fun (r : Int32) (u1 : cp_M) => (¬ (cp_bw ch 0 3 ∧ cp_bw x 0 (u 14 1 - 1)) ∧ u1 = cp_thw u 1) ∨ (∃ g1 k1, g1 < cp_n u 1 ∧ k1 ≤ 3 ∧ x = nI g1 ∧ ch = nI k1 ∧ r = cp_b (cp_bit (u 5 k1 ^^^ (1 <<< (nI g1 &&& 31))) (nI g1)) ∧ u1 = cp_up (cp_thw u 0) 5 (upd (u 5) k1 (u 5 k1 ^^^ (1 <<< (nI g1 &&& 31)))))) (cp_at D [(cI, .int), (cZ, .boolean)] (va_A (cp_wY cI cZ h a u) sz) (cp_wY cI cZ h a)) (va_A (cp_wY cI cZ h a u) sz)) 0 0 (va_A (cp_wY cI cZ h a u) sz) := by
  refine cp_MetI (Qk := fun A => va_Qi (fun (r : Int32) (u1 : cp_M) => (¬ (cp_bw ch 0 3 ∧ cp_bw x 0 (u 14 1 - 1)) ∧ u1 = cp_thw u 1) ∨ (∃ g1 k1, g1 < cp_n u 1 ∧ k1 ≤ 3 ∧ x = nI g1 ∧ ch = nI k1 ∧ r = cp_b (cp_bit (u 5 k1 ^^^ (1 <<< (nI g1 &&& 31))) (nI g1)) ∧ u1 = cp_up (cp_thw u 0) 5 (upd (u 5) k1 (u 5 k1 ^^^ (1 <<< (nI g1 &&& 31)))))) (cp_at D [(cI, .int), (cZ, .boolean)] A (cp_wY cI cZ h a)) A) (by decide) rfl (Nat.le_of_ble_eq_true rfl) ?_
  intro p e s m args below meth c A hC hA hK hI ls hl
  obtain ⟨hx, hb, hml, hown, hts, hr, hlocks⟩ := hC
  have hown : s.vm.findClass RX1 = some m.cls := hown
  have hl : lv_has ls 3 [(0, .ref h), (1, .int ch), (2, .int x)] := hl
  have inW : ∀ w ∈ wsX10, w ∈ wsX1_learn := by decide +kernel
  have fl_known : Cond.fieldLink RX1 37 "CanticlePressModel" "known" "[I" ∈ wsX1_learn := by decide +kernel
  have fl_thrown : Cond.fieldLink RX1 53 "CanticlePressModel" "thrown" "I" ∈ wsX1_learn := by decide +kernel
  refine lv_aload_n hx hb dX1_learn_0 rfl (lv_at hl 0 rfl) ?_
  refine lv_iload_n hx hb dX1_learn_1 rfl (lv_at hl 1 rfl) ?_
  refine lv_iconst (v := 0) hx hb dX1_learn_2 (by decide) ?_
  refine lv_iconst (v := 3) hx hb dX1_learn_3 (by decide) ?_
  refine cp_cSi0 (As := [.int ch, .int 0, .int 3]) (rest := [.ref h]) ⟨hx, hb, hml, hown, hts⟩ ((c_X1_isIn l ch 0 3) D) (va_cwS 3 hts gX1_learn_X1_isIn rfl rfl rfl (by decide +kernel) ⟨Nat.le_of_ble_eq_true rfl, Nat.le_of_ble_eq_true rfl⟩) hK hI hA rfl hl.1 rfl (Nat.le_of_ble_eq_true rfl) dX1_learn_4 ⟨Nat.le_of_ble_eq_true rfl, Nat.le_of_ble_eq_true rfl⟩ (fun r4 u4 H locs hp4 hI => ?_)
  obtain rfl := hp4
  refine lv_if_eq (tgt := 22) hx hb dX1_learn_7 (by decide) (fun c7 => ?_) (fun c7 => ?_)
  · have c7 := cp_b0.mp c7
    refine lv_iconst (v := 1) hx hb dX1_learn_22 (by decide) ?_
    refine cp_puti hx hb hts inW tyX1 tyX1_ok nmX1 hown hK hI (cp_hY _ _ _ _ _) rfl 0 (by decide) fl_thrown rfl rfl (by decide +kernel) (Nat.le_of_ble_eq_true rfl) dX1_learn_23 (cp_tY _ _ _ _ _ _) (fun H locs hI => ?_)
    refine lv_aload_n hx hb dX1_learn_26 rfl (lv_at hl 0 rfl) ?_
    refine cp_get (v := .int 1) hx hb hts inW hown hK hI (cp_hY _ _ _ _ _) rfl 0 (by decide) fl_thrown rfl rfl dX1_learn_27 ?_
    refine lv_if_le (tgt := 35) hx hb dX1_learn_30 (by decide) (fun c30 => ?_) (fun c30 => ?_)
    · exact absurd c30 (by decide)
    · refine lv_iconst (v := 0) hx hb dX1_learn_33 (by decide) ?_
      exact cp_retz (u := (cp_thw u 1)) (v := 0) hx hb hr hlocks hK hI rfl (Or.inl ⟨by first | exact fun h => c7 h.1 | exact fun h => c15 h.2, rfl⟩) dX1_learn_34
  · have c7 := Classical.not_not.mp (fun h9 => c7 (cp_b0.mpr h9))
    refine lv_aload_n hx hb dX1_learn_10 rfl (lv_at hl 0 rfl) ?_
    refine lv_iload_n hx hb dX1_learn_11 rfl (lv_at hl 2 rfl) ?_
    refine cp_cVi0 (wc := cp_wY cI cZ h a) (u := u) (As := [.int x]) (rest := [.ref h]) ⟨hx, hb, hml, hown, hts⟩ (c_X1_isHymn l D cI cZ h a u x) (cwV 1 hts gX1_learn_X1_isHymn rfl rfl rfl (by decide +kernel) ⟨Nat.le_of_ble_eq_true rfl, Nat.le_of_ble_eq_true rfl⟩) hK hI hA ⟨_, cp_hY _ _ _ _ _⟩ rfl rfl rfl hl.1 rfl (Nat.le_of_ble_eq_true rfl) dX1_learn_12 ⟨Nat.le_of_ble_eq_true rfl, Nat.le_of_ble_eq_true rfl⟩ (fun r12 u12 H locs hp12 hI => ?_)
    obtain ⟨rfl, e9⟩ := hp12
    rw [e9] at hI
    refine lv_if_eq (tgt := 22) hx hb dX1_learn_15 (by decide) (fun c15 => ?_) (fun c15 => ?_)
    · have c15 := cp_b0.mp c15
      refine lv_iconst (v := 1) hx hb dX1_learn_22 (by decide) ?_
      refine cp_puti hx hb hts inW tyX1 tyX1_ok nmX1 hown hK hI (cp_hY _ _ _ _ _) rfl 0 (by decide) fl_thrown rfl rfl (by decide +kernel) (Nat.le_of_ble_eq_true rfl) dX1_learn_23 (cp_tY _ _ _ _ _ _) (fun H locs hI => ?_)
      refine lv_aload_n hx hb dX1_learn_26 rfl (lv_at hl 0 rfl) ?_
      refine cp_get (v := .int 1) hx hb hts inW hown hK hI (cp_hY _ _ _ _ _) rfl 0 (by decide) fl_thrown rfl rfl dX1_learn_27 ?_
      refine lv_if_le (tgt := 35) hx hb dX1_learn_30 (by decide) (fun c30 => ?_) (fun c30 => ?_)
      · exact absurd c30 (by decide)
      · refine lv_iconst (v := 0) hx hb dX1_learn_33 (by decide) ?_
        exact cp_retz (u := (cp_thw u 1)) (v := 0) hx hb hr hlocks hK hI rfl (Or.inl ⟨by first | exact fun h => c7 h.1 | exact fun h => c15 h.2, rfl⟩) dX1_learn_34
    · have c15 := Classical.not_not.mp (fun h9 => c15 (cp_b0.mpr h9))
      refine lv_iconst (v := 0) hx hb dX1_learn_18 (by decide) ?_
      refine lv_goto (tgt := 23) hx hb dX1_learn_19 (by decide) ?_
      refine cp_puti hx hb hts inW tyX1 tyX1_ok nmX1 hown hK hI (cp_hY _ _ _ _ _) rfl 0 (by decide) fl_thrown rfl rfl (by decide +kernel) (Nat.le_of_ble_eq_true rfl) dX1_learn_23 (cp_tY _ _ _ _ _ _) (fun H locs hI => ?_)
      refine lv_aload_n hx hb dX1_learn_26 rfl (lv_at hl 0 rfl) ?_
      refine cp_get (v := .int 0) hx hb hts inW hown hK hI (cp_hY _ _ _ _ _) rfl 0 (by decide) fl_thrown rfl rfl dX1_learn_27 ?_
      refine lv_if_le (tgt := 35) hx hb dX1_learn_30 (by decide) (fun c30 => ?_) (fun c30 => ?_)
      · obtain ⟨g, hg, rfl⟩ := cp_idx hN1 c15
        have hN9 := hN1.2.1
        obtain ⟨k, hk, rfl⟩ := cp_idc (n := 3) (by decide) c7
        refine lv_aload_n hx hb dX1_learn_35 rfl (lv_at hl 0 rfl) ?_
        refine cp_get (v := .ref (a 5)) hx hb hts inW hown hK hI (cp_hY _ _ _ _ _) rfl 13 (by decide) fl_known rfl rfl dX1_learn_36 ?_
        refine lv_iload_n hx hb dX1_learn_39 rfl (lv_at hl 1 rfl) ?_
        refine lv_dup2_11 hx hb dX1_learn_40 rfl rfl ?_
        refine cp_iald (f := u 5) hx hb hK hI 0 (cp_aY_5 _ _ _ _ _) rfl (j := k) (cp_ix_n (by omega) (by decide)) dX1_learn_41 ?_
        refine lv_iconst (v := 1) hx hb dX1_learn_42 (by decide) ?_
        refine lv_iload_n hx hb dX1_learn_43 rfl (lv_at hl 2 rfl) ?_
        refine lv_ishl hx hb dX1_learn_44 ?_
        refine lv_ixor hx hb dX1_learn_45 ?_
        refine cp_iast hx hb hK hI 0 (cp_aY_5 _ _ _ _ _) rfl (j := k) (cp_ix_n (by omega) (by decide)) dX1_learn_46 (cp_sY_5 _ _ _ _ _ _) (fun H locs hI => ?_)
        obtain ⟨u46, eu46⟩ : ∃ z9, z9 = cp_up (cp_thw u 0) 5 (upd ((cp_thw u 0) 5) k ((u 5 k) ^^^ (1 <<< ((nI g) &&& 31)))) := ⟨_, rfl⟩
        rw [← eu46] at hI
        refine lv_aload_n hx hb dX1_learn_47 rfl (lv_at hl 0 rfl) ?_
        refine cp_get (v := .ref (a 5)) hx hb hts inW hown hK hI (cp_hY _ _ _ _ _) rfl 13 (by decide) fl_known rfl rfl dX1_learn_48 ?_
        refine lv_iload_n hx hb dX1_learn_51 rfl (lv_at hl 1 rfl) ?_
        refine cp_iald (f := u46 5) hx hb hK hI 0 (cp_aY_5 _ _ _ _ _) rfl (j := k) (cp_ix_n (by omega) (by decide)) dX1_learn_52 ?_
        have h46 : u46 5 k = u 5 k ^^^ (1 <<< (nI g &&& 31)) := by rw [eu46, cp_up_s, cp_upd_s]
        refine lv_iload_n hx hb dX1_learn_53 rfl (lv_at hl 2 rfl) ?_
        refine lv_ishr hx hb dX1_learn_54 ?_
        refine lv_iconst (v := 1) hx hb dX1_learn_55 (by decide) ?_
        refine lv_iand hx hb dX1_learn_56 ?_
        refine lv_iconst (v := 1) hx hb dX1_learn_57 (by decide) ?_
        refine lv_icmp_ne (tgt := 65) hx hb dX1_learn_58 (by decide) (fun c58 => ?_) (fun c58 => ?_)
        · refine lv_iconst (v := 0) hx hb dX1_learn_65 (by decide) ?_
          exact cp_retz (u := u46) (v := 0) hx hb hr hlocks hK hI rfl (Or.inr ⟨g, k, hg, hk, rfl, rfl, (cp_bf (by rw [← h46]; exact c58)).symm, eu46⟩) dX1_learn_66
        · refine lv_iconst (v := 1) hx hb dX1_learn_61 (by decide) ?_
          refine lv_goto (tgt := 66) hx hb dX1_learn_62 (by decide) ?_
          exact cp_retz (u := u46) (v := 1) hx hb hr hlocks hK hI rfl (Or.inr ⟨g, k, hg, hk, rfl, rfl, (cp_bt (by rw [← h46]; exact c58)).symm, eu46⟩) dX1_learn_66
      · exact absurd (by decide) c30
set_option maxHeartbeats 4000000 in
set_option maxRecDepth 100000 in
theorem c_X1_service (l : Launch) (D : va_G) (cI cZ : ClassId) (h : Nat) (a : Nat → Nat) (u : cp_M) (ch : Int32) (z : Int32) (hN1 : cp_cn u 1 16) (hN2 : cp_cn u 2 40) (hN3 : cp_cn u 3 40) : ∀ sz : Nat, Met l yX1_service wsX1_service ({ frames := 3, cells := 0, slots := 0, locals := 72 } : Room) (va_Pc [.ref h, .int ch, .int z] (cp_pre D [(cI, .int), (cZ, .boolean)] (cp_wY cI cZ h a u) sz)) (va_Qi (fun (r : Int32) (u1 : cp_M) => (¬ (cp_bw ch 0 3) ∧ u1 = cp_thw u 1) ∨ ((cp_bw ch 0 3) ∧ ¬ (cp_bw z (u 14 0) 1459) ∧ u1 = cp_thw u 2) ∨ ((cp_bw ch 0 3) ∧ (cp_bw z (u 14 0) 1459) ∧ ¬ (¬ (40 : Int32) ≤ u 14 3 ∧ ¬ cp_hasS u ch z) ∧ u1 = cp_thw u 3) ∨ (cp_bw ch 0 3 ∧ (cp_bw z (u 14 0) 1459) ∧ (¬ (40 : Int32) ≤ u 14 3 ∧ ¬ cp_hasS u ch z) ∧ ∃ k1, k1 ≤ 3 ∧ ch = nI k1 ∧ r = u 14 3 ∧ u1 = cp_planY (cp_up (cp_up (cp_up (cp_up (cp_thw u 0) 11 (upd (u 11) (cp_n u 3) ch)) 12 (upd (u 12) (cp_n u 3) z)) 13 (upd (u 13) (cp_n u 3) (-1))) 14 (upd (cp_thw u 0 14) 3 (u 14 3 + 1))) (cp_n u 3) k1)) (cp_at D [(cI, .int), (cZ, .boolean)] (va_A (cp_wY cI cZ h a u) sz) (cp_wY cI cZ h a)) (va_A (cp_wY cI cZ h a u) sz)) 0 0 (va_A (cp_wY cI cZ h a u) sz) := by
  refine cp_MetI (Qk := fun A => va_Qi (fun (r : Int32) (u1 : cp_M) => (¬ (cp_bw ch 0 3) ∧ u1 = cp_thw u 1) ∨ ((cp_bw ch 0 3) ∧ ¬ (cp_bw z (u 14 0) 1459) ∧ u1 = cp_thw u 2) ∨ ((cp_bw ch 0 3) ∧ (cp_bw z (u 14 0) 1459) ∧ ¬ (¬ (40 : Int32) ≤ u 14 3 ∧ ¬ cp_hasS u ch z) ∧ u1 = cp_thw u 3) ∨ (cp_bw ch 0 3 ∧ (cp_bw z (u 14 0) 1459) ∧ (¬ (40 : Int32) ≤ u 14 3 ∧ ¬ cp_hasS u ch z) ∧ ∃ k1, k1 ≤ 3 ∧ ch = nI k1 ∧ r = u 14 3 ∧ u1 = cp_planY (cp_up (cp_up (cp_up (cp_up (cp_thw u 0) 11 (upd (u 11) (cp_n u 3) ch)) 12 (upd (u 12) (cp_n u 3) z)) 13 (upd (u 13) (cp_n u 3) (-1))) 14 (upd (cp_thw u 0 14) 3 (u 14 3 + 1))) (cp_n u 3) k1)) (cp_at D [(cI, .int), (cZ, .boolean)] A (cp_wY cI cZ h a)) A) (by decide) rfl (Nat.le_of_ble_eq_true rfl) ?_
  intro p e s m args below meth c A hC hA hK hI ls hl
  obtain ⟨hx, hb, hml, hown, hts, hr, hlocks⟩ := hC
  have hown : s.vm.findClass RX1 = some m.cls := hown
  have hl : lv_has ls 5 [(0, .ref h), (1, .int ch), (2, .int z)] := hl
  have inW : ∀ w ∈ wsX10, w ∈ wsX1_service := by decide +kernel
  have fl_choir : Cond.fieldLink RX1 40 "CanticlePressModel" "choir" "[I" ∈ wsX1_service := by decide +kernel
  have fl_day : Cond.fieldLink RX1 43 "CanticlePressModel" "day" "[I" ∈ wsX1_service := by decide +kernel
  have fl_services : Cond.fieldLink RX1 92 "CanticlePressModel" "services" "I" ∈ wsX1_service := by decide +kernel
  have fl_sung : Cond.fieldLink RX1 46 "CanticlePressModel" "sung" "[I" ∈ wsX1_service := by decide +kernel
  have fl_thrown : Cond.fieldLink RX1 53 "CanticlePressModel" "thrown" "I" ∈ wsX1_service := by decide +kernel
  have fl_today : Cond.fieldLink RX1 89 "CanticlePressModel" "today" "I" ∈ wsX1_service := by decide +kernel
  refine lv_aload_n hx hb dX1_service_0 rfl (lv_at hl 0 rfl) ?_
  refine lv_iload_n hx hb dX1_service_1 rfl (lv_at hl 1 rfl) ?_
  refine lv_iconst (v := 0) hx hb dX1_service_2 (by decide) ?_
  refine lv_iconst (v := 3) hx hb dX1_service_3 (by decide) ?_
  refine cp_cSi0 (As := [.int ch, .int 0, .int 3]) (rest := [.ref h]) ⟨hx, hb, hml, hown, hts⟩ ((c_X1_isIn l ch 0 3) D) (va_cwS 3 hts gX1_service_X1_isIn rfl rfl rfl (by decide +kernel) ⟨Nat.le_of_ble_eq_true rfl, Nat.le_of_ble_eq_true rfl⟩) hK hI hA rfl hl.1 rfl (Nat.le_of_ble_eq_true rfl) dX1_service_4 ⟨Nat.le_of_ble_eq_true rfl, Nat.le_of_ble_eq_true rfl⟩ (fun r4 u4 H locs hp4 hI => ?_)
  obtain rfl := hp4
  refine lv_if_ne (tgt := 14) hx hb dX1_service_7 (by decide) (fun c7 => ?_) (fun c7 => ?_)
  · have c7 := Classical.not_not.mp (fun h9 => c7 (cp_b0.mpr h9))
    refine lv_iload_n hx hb dX1_service_14 rfl (lv_at hl 2 rfl) ?_
    refine lv_aload_n hx hb dX1_service_15 rfl (lv_at hl 0 rfl) ?_
    refine cp_get (v := .int (u 14 0)) hx hb hts inW hown hK hI (cp_hY _ _ _ _ _) rfl 1 (by decide) fl_today rfl rfl dX1_service_16 ?_
    refine lv_sipush (v := 1459) hx hb dX1_service_19 (by decide) ?_
    refine cp_cSi0 (As := [.int z, .int (u 14 0), .int 1459]) (rest := [.ref h]) ⟨hx, hb, hml, hown, hts⟩ ((c_X1_isIn l z (u 14 0) 1459) D) (va_cwS 3 hts gX1_service_X1_isIn rfl rfl rfl (by decide +kernel) ⟨Nat.le_of_ble_eq_true rfl, Nat.le_of_ble_eq_true rfl⟩) hK hI hA rfl hl.1 rfl (Nat.le_of_ble_eq_true rfl) dX1_service_22 ⟨Nat.le_of_ble_eq_true rfl, Nat.le_of_ble_eq_true rfl⟩ (fun r22 u22 H locs hp22 hI => ?_)
    obtain rfl := hp22
    refine lv_if_eq (tgt := 32) hx hb dX1_service_25 (by decide) (fun c25 => ?_) (fun c25 => ?_)
    · have c25 := cp_b0.mp c25
      refine lv_iconst (v := 2) hx hb dX1_service_32 (by decide) ?_
      refine cp_puti hx hb hts inW tyX1 tyX1_ok nmX1 hown hK hI (cp_hY _ _ _ _ _) rfl 0 (by decide) fl_thrown rfl rfl (by decide +kernel) (Nat.le_of_ble_eq_true rfl) dX1_service_33 (cp_tY _ _ _ _ _ _) (fun H locs hI => ?_)
      refine lv_aload_n hx hb dX1_service_36 rfl (lv_at hl 0 rfl) ?_
      refine cp_get (v := .int 2) hx hb hts inW hown hK hI (cp_hY _ _ _ _ _) rfl 0 (by decide) fl_thrown rfl rfl dX1_service_37 ?_
      refine lv_if_le (tgt := 45) hx hb dX1_service_40 (by decide) (fun c40 => ?_) (fun c40 => ?_)
      · exact absurd c40 (by decide)
      · refine lv_iconst (v := 0) hx hb dX1_service_43 (by decide) ?_
        exact cp_reti (u := (cp_thw u 2)) (v := 0) hx hb hr hlocks hK hI (Or.inr (Or.inl ⟨c7, c25, rfl⟩)) dX1_service_44
    · have c25 := Classical.not_not.mp (fun h9 => c25 (cp_b0.mpr h9))
      refine lv_iconst (v := 0) hx hb dX1_service_28 (by decide) ?_
      refine lv_goto (tgt := 33) hx hb dX1_service_29 (by decide) ?_
      refine cp_puti hx hb hts inW tyX1 tyX1_ok nmX1 hown hK hI (cp_hY _ _ _ _ _) rfl 0 (by decide) fl_thrown rfl rfl (by decide +kernel) (Nat.le_of_ble_eq_true rfl) dX1_service_33 (cp_tY _ _ _ _ _ _) (fun H locs hI => ?_)
      refine lv_aload_n hx hb dX1_service_36 rfl (lv_at hl 0 rfl) ?_
      refine cp_get (v := .int 0) hx hb hts inW hown hK hI (cp_hY _ _ _ _ _) rfl 0 (by decide) fl_thrown rfl rfl dX1_service_37 ?_
      refine lv_if_le (tgt := 45) hx hb dX1_service_40 (by decide) (fun c40 => ?_) (fun c40 => ?_)
      · refine lv_aload_n hx hb dX1_service_45 rfl (lv_at hl 0 rfl) ?_
        refine cp_get (v := .int (u 14 3)) hx hb hts inW hown hK hI (cp_hY _ _ _ _ _) rfl 14 (by decide) fl_services rfl rfl dX1_service_46 ?_
        refine lv_bipush (v := 40) hx hb dX1_service_49 (by decide) ?_
        refine lv_icmp_ge (tgt := 58) hx hb dX1_service_51 (by decide) (fun c51 => ?_) (fun c51 => ?_)
        · refine lv_iconst (v := 0) hx hb dX1_service_58 (by decide) ?_
          refine lv_istore_n (lv' := [(3, .int 0), (0, .ref h), (1, .int ch), (2, .int z)]) hx hb dX1_service_59 rfl hl (by decide) rfl (fun ls hl => ?_)
          refine lv_iconst (v := 0) hx hb dX1_service_60 (by decide) ?_
          refine lv_istore (lv' := [(4, .int 0), (3, .int 0), (0, .ref h), (1, .int ch), (2, .int z)]) hx hb dX1_service_61 hl (by decide) rfl (fun ls hl => ?_)
          have L63 : ∀ (n9 : Nat) (k : Nat) (hm9 : cp_n u 3 - k < n9) (hk : k ≤ cp_n u 3), ∀ (H : Heap) (locs : List Loc), cp_I D (cp_wY cI cZ h a (cp_thw u 0)) A s.heap H locs → ∀ ls, lv_has ls 5 [(4, .int (nI k)), (3, .int (cp_b (cp_canK u ch z k))), (0, .ref h), (1, .int ch), (2, .int z)] → W p l e ({ frames := 3, cells := 0, slots := 0, locals := 72 } : Room) s m args below meth c H locs 0 0 (MQ below (va_Qi (fun (r : Int32) (u1 : cp_M) => (¬ (cp_bw ch 0 3) ∧ u1 = cp_thw u 1) ∨ ((cp_bw ch 0 3) ∧ ¬ (cp_bw z (u 14 0) 1459) ∧ u1 = cp_thw u 2) ∨ ((cp_bw ch 0 3) ∧ (cp_bw z (u 14 0) 1459) ∧ ¬ (¬ (40 : Int32) ≤ u 14 3 ∧ ¬ cp_hasS u ch z) ∧ u1 = cp_thw u 3) ∨ (cp_bw ch 0 3 ∧ (cp_bw z (u 14 0) 1459) ∧ (¬ (40 : Int32) ≤ u 14 3 ∧ ¬ cp_hasS u ch z) ∧ ∃ k1, k1 ≤ 3 ∧ ch = nI k1 ∧ r = u 14 3 ∧ u1 = cp_planY (cp_up (cp_up (cp_up (cp_up (cp_thw u 0) 11 (upd (u 11) (cp_n u 3) ch)) 12 (upd (u 12) (cp_n u 3) z)) 13 (upd (u 13) (cp_n u 3) (-1))) 14 (upd (cp_thw u 0 14) 3 (u 14 3 + 1))) (cp_n u 3) k1)) (cp_at D [(cI, .int), (cZ, .boolean)] A (cp_wY cI cZ h a)) A) args s 0 0 A) (F0 m 63 ls []) := by
            intro n9
            induction n9 with
            | zero => intro k hm9; omega
            | succ n9 ih =>
              intro k hm9 hk H locs hI ls hl
              have hN9 := hN3.2.1
              refine lv_iload hx hb dX1_service_63 (lv_at hl 0 rfl) ?_
              refine lv_aload_n hx hb dX1_service_65 rfl (lv_at hl 2 rfl) ?_
              refine cp_get (v := .int (u 14 3)) hx hb hts inW hown hK hI (cp_hY _ _ _ _ _) rfl 14 (by decide) fl_services rfl rfl dX1_service_66 ?_
              refine lv_icmp_ge (tgt := 110) hx hb dX1_service_69 (by decide) (fun c69 => ?_) (fun c69 => ?_)
              · have hk2 := cp_ex hN3 hk c69
                refine lv_aload_n hx hb dX1_service_110 rfl (lv_at hl 2 rfl) ?_
                refine lv_iload_n hx hb dX1_service_111 rfl (lv_at hl 1 rfl) ?_
                refine lv_if_eq (tgt := 119) hx hb dX1_service_112 (by decide) (fun c112 => ?_) (fun c112 => ?_)
                · have c112 := cp_b0.mp c112
                  refine lv_iconst (v := 3) hx hb dX1_service_119 (by decide) ?_
                  refine cp_puti hx hb hts inW tyX1 tyX1_ok nmX1 hown hK hI (cp_hY _ _ _ _ _) rfl 0 (by decide) fl_thrown rfl rfl (by decide +kernel) (Nat.le_of_ble_eq_true rfl) dX1_service_120 (cp_tY _ _ _ _ _ _) (fun H locs hI => ?_)
                  rw [cp_thw_thw] at hI
                  refine lv_aload_n hx hb dX1_service_123 rfl (lv_at hl 2 rfl) ?_
                  refine cp_get (v := .int 3) hx hb hts inW hown hK hI (cp_hY _ _ _ _ _) rfl 0 (by decide) fl_thrown rfl rfl dX1_service_124 ?_
                  refine lv_if_le (tgt := 132) hx hb dX1_service_127 (by decide) (fun c127 => ?_) (fun c127 => ?_)
                  · exact absurd c127 (by decide)
                  · refine lv_iconst (v := 0) hx hb dX1_service_130 (by decide) ?_
                    exact cp_reti (u := (cp_thw u 3)) (v := 0) hx hb hr hlocks hK hI (Or.inr (Or.inr (Or.inl ⟨c7, c25, fun h => c112 ⟨h.1, fun r hr h9 => h.2 ⟨r, by omega, h9⟩⟩, rfl⟩))) dX1_service_131
                · have c112 := Classical.not_not.mp (fun h9 => c112 (cp_b0.mpr h9))
                  refine lv_iconst (v := 0) hx hb dX1_service_115 (by decide) ?_
                  refine lv_goto (tgt := 120) hx hb dX1_service_116 (by decide) ?_
                  refine cp_puti hx hb hts inW tyX1 tyX1_ok nmX1 hown hK hI (cp_hY _ _ _ _ _) rfl 0 (by decide) fl_thrown rfl rfl (by decide +kernel) (Nat.le_of_ble_eq_true rfl) dX1_service_120 (cp_tY _ _ _ _ _ _) (fun H locs hI => ?_)
                  rw [cp_thw_thw] at hI
                  refine lv_aload_n hx hb dX1_service_123 rfl (lv_at hl 2 rfl) ?_
                  refine cp_get (v := .int 0) hx hb hts inW hown hK hI (cp_hY _ _ _ _ _) rfl 0 (by decide) fl_thrown rfl rfl dX1_service_124 ?_
                  refine lv_if_le (tgt := 132) hx hb dX1_service_127 (by decide) (fun c127 => ?_) (fun c127 => ?_)
                  · have hrm := cp_room (N := 40) hN3 c112.1
                    obtain ⟨k1, hk1, e1⟩ := cp_idc (n := 3) (by decide) c7
                    refine lv_aload_n hx hb dX1_service_132 rfl (lv_at hl 2 rfl) ?_
                    refine cp_get (v := .ref (a 11)) hx hb hts inW hown hK hI (cp_hY _ _ _ _ _) rfl 15 (by decide) fl_choir rfl rfl dX1_service_133 ?_
                    refine lv_aload_n hx hb dX1_service_136 rfl (lv_at hl 2 rfl) ?_
                    refine cp_get (v := .int (u 14 3)) hx hb hts inW hown hK hI (cp_hY _ _ _ _ _) rfl 14 (by decide) fl_services rfl rfl dX1_service_137 ?_
                    refine lv_iload_n hx hb dX1_service_140 rfl (lv_at hl 3 rfl) ?_
                    refine cp_iast hx hb hK hI 0 (cp_aY_11 _ _ _ _ _) rfl (j := (cp_n u 3)) (cp_ix_e (by exact hN3.1) (by omega) (by decide)) dX1_service_141 (cp_sY_11 _ _ _ _ _ _) (fun H locs hI => ?_)
                    obtain ⟨u141, eu141⟩ : ∃ z9, z9 = cp_up (cp_thw u 0) 11 (upd ((cp_thw u 0) 11) (cp_n u 3) ch) := ⟨_, rfl⟩
                    rw [← eu141] at hI
                    refine lv_aload_n hx hb dX1_service_142 rfl (lv_at hl 2 rfl) ?_
                    refine cp_get (v := .ref (a 12)) hx hb hts inW hown hK hI (cp_hY _ _ _ _ _) rfl 16 (by decide) fl_day rfl rfl dX1_service_143 ?_
                    refine lv_aload_n hx hb dX1_service_146 rfl (lv_at hl 2 rfl) ?_
                    refine cp_get (v := .int (u141 14 3)) hx hb hts inW hown hK hI (cp_hY _ _ _ _ _) rfl 14 (by decide) fl_services rfl rfl dX1_service_147 ?_
                    refine lv_iload_n hx hb dX1_service_150 rfl (lv_at hl 4 rfl) ?_
                    refine cp_iast hx hb hK hI 0 (cp_aY_12 _ _ _ _ _) rfl (j := (cp_n u 3)) (cp_ix_e (by rw [eu141]; exact hN3.1) (by omega) (by decide)) dX1_service_151 (cp_sY_12 _ _ _ _ _ _) (fun H locs hI => ?_)
                    obtain ⟨u151, eu151⟩ : ∃ z9, z9 = cp_up u141 12 (upd (u141 12) (cp_n u 3) z) := ⟨_, rfl⟩
                    rw [← eu151] at hI
                    refine lv_aload_n hx hb dX1_service_152 rfl (lv_at hl 2 rfl) ?_
                    refine cp_get (v := .ref (a 13)) hx hb hts inW hown hK hI (cp_hY _ _ _ _ _) rfl 17 (by decide) fl_sung rfl rfl dX1_service_153 ?_
                    refine lv_aload_n hx hb dX1_service_156 rfl (lv_at hl 2 rfl) ?_
                    refine cp_get (v := .int (u151 14 3)) hx hb hts inW hown hK hI (cp_hY _ _ _ _ _) rfl 14 (by decide) fl_services rfl rfl dX1_service_157 ?_
                    refine lv_iconst (v := (-1)) hx hb dX1_service_160 (by decide) ?_
                    refine cp_iast hx hb hK hI 0 (cp_aY_13 _ _ _ _ _) rfl (j := (cp_n u 3)) (cp_ix_e (by rw [eu151, eu141]; exact hN3.1) (by omega) (by decide)) dX1_service_161 (cp_sY_13 _ _ _ _ _ _) (fun H locs hI => ?_)
                    obtain ⟨u161, eu161⟩ : ∃ z9, z9 = cp_up u151 13 (upd (u151 13) (cp_n u 3) (-1)) := ⟨_, rfl⟩
                    rw [← eu161] at hI
                    refine lv_aload_n hx hb dX1_service_162 rfl (lv_at hl 2 rfl) ?_
                    refine lv_dup hx hb dX1_service_163 rfl ?_
                    refine cp_get (v := .int (u161 14 3)) hx hb hts inW hown hK hI (cp_hY _ _ _ _ _) rfl 14 (by decide) fl_services rfl rfl dX1_service_164 ?_
                    refine lv_iconst (v := 1) hx hb dX1_service_167 (by decide) ?_
                    refine lv_iadd hx hb dX1_service_168 ?_
                    refine cp_puti hx hb hts inW tyX1 tyX1_ok nmX1 hown hK hI (cp_hY _ _ _ _ _) rfl 14 (by decide) fl_services rfl rfl (by decide +kernel) (Nat.le_of_ble_eq_true rfl) dX1_service_169 (cp_iY_3 _ _ _ _ _ _) (fun H locs hI => ?_)
                    obtain ⟨u169, eu169⟩ : ∃ z9, z9 = cp_up u161 14 (upd (u161 14) 3 ((u161 14 3) + 1)) := ⟨_, rfl⟩
                    rw [← eu169] at hI
                    refine lv_aload_n hx hb dX1_service_172 rfl (lv_at hl 2 rfl) ?_
                    refine lv_aload_n hx hb dX1_service_173 rfl (lv_at hl 2 rfl) ?_
                    refine cp_get (v := .int (u169 14 3)) hx hb hts inW hown hK hI (cp_hY _ _ _ _ _) rfl 14 (by decide) fl_services rfl rfl dX1_service_174 ?_
                    refine lv_iconst (v := 1) hx hb dX1_service_177 (by decide) ?_
                    refine lv_isub hx hb dX1_service_178 ?_
                    have hj179 : u169 14 3 - 1 = nI (cp_n u 3) := by subst eu169; subst eu161; subst eu151; subst eu141; exact (cp_a1 (u 14 3)).trans hN3.1
                    rw [hj179]
                    refine cp_cVv0 (wc := cp_wY cI cZ h a) (u := u169) (As := [.int (nI (cp_n u 3))]) (rest := []) ⟨hx, hb, hml, hown, hts⟩ (c_X1_plans l D cI cZ h a u169 (cp_n u 3) k1 (by omega) (by omega) (by rw [← e1]; subst eu169; subst eu161; subst eu151; subst eu141; exact cp_upd_s _ _ _) (cp_cn_of (n := cp_n u 1) (by subst eu169; subst eu161; subst eu151; subst eu141; exact hN1.1) hN1.2.1 (by decide)) (cp_cn_of (n := cp_n u 2) (by subst eu169; subst eu161; subst eu151; subst eu141; exact hN2.1) hN2.2.1 (by decide)) (cp_cn_of (n := cp_n u 3 + 1) (by subst eu169; subst eu161; subst eu151; subst eu141; show u 14 3 + 1 = _; rw [hN3.1]; exact nI_1 _) (by omega) (by decide))) (cwV 1 hts gX1_service_X1_plans rfl rfl rfl (by decide +kernel) ⟨Nat.le_of_ble_eq_true rfl, Nat.le_of_ble_eq_true rfl⟩) hK hI hA ⟨_, cp_hY _ _ _ _ _⟩ rfl rfl rfl hl.1 rfl (Nat.le_of_ble_eq_true rfl) dX1_service_179 ⟨Nat.le_of_ble_eq_true rfl, Nat.le_of_ble_eq_true rfl⟩ (fun u179 H locs hp179 hI => ?_)
                    have eu179 := hp179
                    refine lv_aload_n hx hb dX1_service_182 rfl (lv_at hl 2 rfl) ?_
                    refine cp_get (v := .int (u179 14 3)) hx hb hts inW hown hK hI (cp_hY _ _ _ _ _) rfl 14 (by decide) fl_services rfl rfl dX1_service_183 ?_
                    refine lv_iconst (v := 1) hx hb dX1_service_186 (by decide) ?_
                    refine lv_isub hx hb dX1_service_187 ?_
                    exact cp_reti (u := u179) (v := ((u179 14 3) - 1)) hx hb hr hlocks hK hI (Or.inr (Or.inr (Or.inr ⟨c7, c25, ⟨c112.1, fun ⟨r, hr, h9⟩ => c112.2 r (by omega) h9⟩, k1, hk1, e1, by rw [eu179, cp_planY_r _ _ _ (by decide)]; subst eu169; subst eu161; subst eu151; subst eu141; exact cp_a1 (u 14 3), by rw [eu179]; subst eu169; subst eu161; subst eu151; subst eu141; rfl⟩))) dX1_service_188
                  · exact absurd (by decide) c127
              · have hk2 := cp_in hN3 (by omega) c69
                refine lv_iload_n hx hb dX1_service_72 rfl (lv_at hl 1 rfl) ?_
                refine lv_if_eq (tgt := 102) hx hb dX1_service_73 (by decide) (fun c73 => ?_) (fun c73 => ?_)
                · have c73 := cp_b0.mp c73
                  refine lv_iconst (v := 0) hx hb dX1_service_102 (by decide) ?_
                  refine lv_istore_n (lv' := [(3, .int 0), (4, .int (nI k)), (0, .ref h), (1, .int ch), (2, .int z)]) hx hb dX1_service_103 rfl hl (by decide) rfl (fun ls hl => ?_)
                  obtain ⟨x104, ex104⟩ : ∃ y9 : Int32, y9 = (nI k) + 1 := ⟨_, rfl⟩
                  refine lv_iinc (v := x104) (lv' := [(4, .int x104), (3, .int 0), (0, .ref h), (1, .int ch), (2, .int z)]) hx hb dX1_service_104 hl (k := 1) rfl (by rw [ex104]; rfl) (by decide) rfl (fun ls hl => ?_)
                  refine lv_goto (tgt := 63) hx hb dX1_service_107 (by decide) ?_
                  have hl : lv_has ls 5 [(4, .int x104), (3, .int (cp_b (cp_canK u ch z (k + 1)))), (0, .ref h), (1, .int ch), (2, .int z)] := by rw [cp_bf (by first | exact cp_canK_n c73 | exact fun h => h.2 k (by omega) ⟨c84, c95⟩)]; exact hl
                  obtain rfl : x104 = nI (k + 1) := by rw [ex104]; exact nI_1 k
                  exact ih (k + 1) (by omega) (by omega) _ _ hI ls (lv_sub hl [0, 1, 2, 3, 4] rfl)
                · have c73 := Classical.not_not.mp (fun h9 => c73 (cp_b0.mpr h9))
                  refine lv_aload_n hx hb dX1_service_76 rfl (lv_at hl 2 rfl) ?_
                  refine cp_get (v := .ref (a 11)) hx hb hts inW hown hK hI (cp_hY _ _ _ _ _) rfl 15 (by decide) fl_choir rfl rfl dX1_service_77 ?_
                  refine lv_iload hx hb dX1_service_80 (lv_at hl 0 rfl) ?_
                  refine cp_iald (f := u 11) hx hb hK hI 0 (cp_aY_11 _ _ _ _ _) rfl (j := k) (cp_ix_n (by omega) (by decide)) dX1_service_82 ?_
                  refine lv_iload_n hx hb dX1_service_83 rfl (lv_at hl 3 rfl) ?_
                  refine lv_icmp_ne (tgt := 98) hx hb dX1_service_84 (by decide) (fun c84 => ?_) (fun c84 => ?_)
                  · refine lv_iconst (v := 1) hx hb dX1_service_98 (by decide) ?_
                    refine lv_goto (tgt := 103) hx hb dX1_service_99 (by decide) ?_
                    refine lv_istore_n (lv' := [(3, .int 1), (4, .int (nI k)), (0, .ref h), (1, .int ch), (2, .int z)]) hx hb dX1_service_103 rfl hl (by decide) rfl (fun ls hl => ?_)
                    obtain ⟨x104, ex104⟩ : ∃ y9 : Int32, y9 = (nI k) + 1 := ⟨_, rfl⟩
                    refine lv_iinc (v := x104) (lv' := [(4, .int x104), (3, .int 1), (0, .ref h), (1, .int ch), (2, .int z)]) hx hb dX1_service_104 hl (k := 1) rfl (by rw [ex104]; rfl) (by decide) rfl (fun ls hl => ?_)
                    refine lv_goto (tgt := 63) hx hb dX1_service_107 (by decide) ?_
                    have hl : lv_has ls 5 [(4, .int x104), (3, .int (cp_b (cp_canK u ch z (k + 1)))), (0, .ref h), (1, .int ch), (2, .int z)] := by rw [cp_bt (cp_canK_s c73 (by first | exact fun h => c84 h.1 | exact fun h => c95 h.2))]; exact hl
                    obtain rfl : x104 = nI (k + 1) := by rw [ex104]; exact nI_1 k
                    exact ih (k + 1) (by omega) (by omega) _ _ hI ls (lv_sub hl [0, 1, 2, 3, 4] rfl)
                  · refine lv_aload_n hx hb dX1_service_87 rfl (lv_at hl 2 rfl) ?_
                    refine cp_get (v := .ref (a 12)) hx hb hts inW hown hK hI (cp_hY _ _ _ _ _) rfl 16 (by decide) fl_day rfl rfl dX1_service_88 ?_
                    refine lv_iload hx hb dX1_service_91 (lv_at hl 0 rfl) ?_
                    refine cp_iald (f := u 12) hx hb hK hI 0 (cp_aY_12 _ _ _ _ _) rfl (j := k) (cp_ix_n (by omega) (by decide)) dX1_service_93 ?_
                    refine lv_iload_n hx hb dX1_service_94 rfl (lv_at hl 4 rfl) ?_
                    refine lv_icmp_eq (tgt := 102) hx hb dX1_service_95 (by decide) (fun c95 => ?_) (fun c95 => ?_)
                    · refine lv_iconst (v := 0) hx hb dX1_service_102 (by decide) ?_
                      refine lv_istore_n (lv' := [(3, .int 0), (4, .int (nI k)), (0, .ref h), (1, .int ch), (2, .int z)]) hx hb dX1_service_103 rfl hl (by decide) rfl (fun ls hl => ?_)
                      obtain ⟨x104, ex104⟩ : ∃ y9 : Int32, y9 = (nI k) + 1 := ⟨_, rfl⟩
                      refine lv_iinc (v := x104) (lv' := [(4, .int x104), (3, .int 0), (0, .ref h), (1, .int ch), (2, .int z)]) hx hb dX1_service_104 hl (k := 1) rfl (by rw [ex104]; rfl) (by decide) rfl (fun ls hl => ?_)
                      refine lv_goto (tgt := 63) hx hb dX1_service_107 (by decide) ?_
                      have hl : lv_has ls 5 [(4, .int x104), (3, .int (cp_b (cp_canK u ch z (k + 1)))), (0, .ref h), (1, .int ch), (2, .int z)] := by rw [cp_bf (by first | exact cp_canK_n c73 | exact fun h => h.2 k (by omega) ⟨c84, c95⟩)]; exact hl
                      obtain rfl : x104 = nI (k + 1) := by rw [ex104]; exact nI_1 k
                      exact ih (k + 1) (by omega) (by omega) _ _ hI ls (lv_sub hl [0, 1, 2, 3, 4] rfl)
                    · refine lv_iconst (v := 1) hx hb dX1_service_98 (by decide) ?_
                      refine lv_goto (tgt := 103) hx hb dX1_service_99 (by decide) ?_
                      refine lv_istore_n (lv' := [(3, .int 1), (4, .int (nI k)), (0, .ref h), (1, .int ch), (2, .int z)]) hx hb dX1_service_103 rfl hl (by decide) rfl (fun ls hl => ?_)
                      obtain ⟨x104, ex104⟩ : ∃ y9 : Int32, y9 = (nI k) + 1 := ⟨_, rfl⟩
                      refine lv_iinc (v := x104) (lv' := [(4, .int x104), (3, .int 1), (0, .ref h), (1, .int ch), (2, .int z)]) hx hb dX1_service_104 hl (k := 1) rfl (by rw [ex104]; rfl) (by decide) rfl (fun ls hl => ?_)
                      refine lv_goto (tgt := 63) hx hb dX1_service_107 (by decide) ?_
                      have hl : lv_has ls 5 [(4, .int x104), (3, .int (cp_b (cp_canK u ch z (k + 1)))), (0, .ref h), (1, .int ch), (2, .int z)] := by rw [cp_bt (cp_canK_s c73 (by first | exact fun h => c84 h.1 | exact fun h => c95 h.2))]; exact hl
                      obtain rfl : x104 = nI (k + 1) := by rw [ex104]; exact nI_1 k
                      exact ih (k + 1) (by omega) (by omega) _ _ hI ls (lv_sub hl [0, 1, 2, 3, 4] rfl)
          have hl : lv_has ls 5 [(4, .int 0), (3, .int (cp_b (cp_canK u ch z 0))), (0, .ref h), (1, .int ch), (2, .int z)] := by rw [cp_bf (fun h => h.1 c51)]; exact hl
          exact L63 ((cp_n u 3) + 1) 0 (Nat.lt_succ_self _) (Nat.zero_le _) _ _ hI ls (lv_sub hl [0, 1, 2, 3, 4] rfl)
        · refine lv_iconst (v := 1) hx hb dX1_service_54 (by decide) ?_
          refine lv_goto (tgt := 59) hx hb dX1_service_55 (by decide) ?_
          refine lv_istore_n (lv' := [(3, .int 1), (0, .ref h), (1, .int ch), (2, .int z)]) hx hb dX1_service_59 rfl hl (by decide) rfl (fun ls hl => ?_)
          refine lv_iconst (v := 0) hx hb dX1_service_60 (by decide) ?_
          refine lv_istore (lv' := [(4, .int 0), (3, .int 1), (0, .ref h), (1, .int ch), (2, .int z)]) hx hb dX1_service_61 hl (by decide) rfl (fun ls hl => ?_)
          have L63 : ∀ (n9 : Nat) (k : Nat) (hm9 : cp_n u 3 - k < n9) (hk : k ≤ cp_n u 3), ∀ (H : Heap) (locs : List Loc), cp_I D (cp_wY cI cZ h a (cp_thw u 0)) A s.heap H locs → ∀ ls, lv_has ls 5 [(4, .int (nI k)), (3, .int (cp_b (cp_canK u ch z k))), (0, .ref h), (1, .int ch), (2, .int z)] → W p l e ({ frames := 3, cells := 0, slots := 0, locals := 72 } : Room) s m args below meth c H locs 0 0 (MQ below (va_Qi (fun (r : Int32) (u1 : cp_M) => (¬ (cp_bw ch 0 3) ∧ u1 = cp_thw u 1) ∨ ((cp_bw ch 0 3) ∧ ¬ (cp_bw z (u 14 0) 1459) ∧ u1 = cp_thw u 2) ∨ ((cp_bw ch 0 3) ∧ (cp_bw z (u 14 0) 1459) ∧ ¬ (¬ (40 : Int32) ≤ u 14 3 ∧ ¬ cp_hasS u ch z) ∧ u1 = cp_thw u 3) ∨ (cp_bw ch 0 3 ∧ (cp_bw z (u 14 0) 1459) ∧ (¬ (40 : Int32) ≤ u 14 3 ∧ ¬ cp_hasS u ch z) ∧ ∃ k1, k1 ≤ 3 ∧ ch = nI k1 ∧ r = u 14 3 ∧ u1 = cp_planY (cp_up (cp_up (cp_up (cp_up (cp_thw u 0) 11 (upd (u 11) (cp_n u 3) ch)) 12 (upd (u 12) (cp_n u 3) z)) 13 (upd (u 13) (cp_n u 3) (-1))) 14 (upd (cp_thw u 0 14) 3 (u 14 3 + 1))) (cp_n u 3) k1)) (cp_at D [(cI, .int), (cZ, .boolean)] A (cp_wY cI cZ h a)) A) args s 0 0 A) (F0 m 63 ls []) := by
            intro n9
            induction n9 with
            | zero => intro k hm9; omega
            | succ n9 ih =>
              intro k hm9 hk H locs hI ls hl
              have hN9 := hN3.2.1
              refine lv_iload hx hb dX1_service_63 (lv_at hl 0 rfl) ?_
              refine lv_aload_n hx hb dX1_service_65 rfl (lv_at hl 2 rfl) ?_
              refine cp_get (v := .int (u 14 3)) hx hb hts inW hown hK hI (cp_hY _ _ _ _ _) rfl 14 (by decide) fl_services rfl rfl dX1_service_66 ?_
              refine lv_icmp_ge (tgt := 110) hx hb dX1_service_69 (by decide) (fun c69 => ?_) (fun c69 => ?_)
              · have hk2 := cp_ex hN3 hk c69
                refine lv_aload_n hx hb dX1_service_110 rfl (lv_at hl 2 rfl) ?_
                refine lv_iload_n hx hb dX1_service_111 rfl (lv_at hl 1 rfl) ?_
                refine lv_if_eq (tgt := 119) hx hb dX1_service_112 (by decide) (fun c112 => ?_) (fun c112 => ?_)
                · have c112 := cp_b0.mp c112
                  refine lv_iconst (v := 3) hx hb dX1_service_119 (by decide) ?_
                  refine cp_puti hx hb hts inW tyX1 tyX1_ok nmX1 hown hK hI (cp_hY _ _ _ _ _) rfl 0 (by decide) fl_thrown rfl rfl (by decide +kernel) (Nat.le_of_ble_eq_true rfl) dX1_service_120 (cp_tY _ _ _ _ _ _) (fun H locs hI => ?_)
                  rw [cp_thw_thw] at hI
                  refine lv_aload_n hx hb dX1_service_123 rfl (lv_at hl 2 rfl) ?_
                  refine cp_get (v := .int 3) hx hb hts inW hown hK hI (cp_hY _ _ _ _ _) rfl 0 (by decide) fl_thrown rfl rfl dX1_service_124 ?_
                  refine lv_if_le (tgt := 132) hx hb dX1_service_127 (by decide) (fun c127 => ?_) (fun c127 => ?_)
                  · exact absurd c127 (by decide)
                  · refine lv_iconst (v := 0) hx hb dX1_service_130 (by decide) ?_
                    exact cp_reti (u := (cp_thw u 3)) (v := 0) hx hb hr hlocks hK hI (Or.inr (Or.inr (Or.inl ⟨c7, c25, fun h => c112 ⟨h.1, fun r hr h9 => h.2 ⟨r, by omega, h9⟩⟩, rfl⟩))) dX1_service_131
                · have c112 := Classical.not_not.mp (fun h9 => c112 (cp_b0.mpr h9))
                  refine lv_iconst (v := 0) hx hb dX1_service_115 (by decide) ?_
                  refine lv_goto (tgt := 120) hx hb dX1_service_116 (by decide) ?_
                  refine cp_puti hx hb hts inW tyX1 tyX1_ok nmX1 hown hK hI (cp_hY _ _ _ _ _) rfl 0 (by decide) fl_thrown rfl rfl (by decide +kernel) (Nat.le_of_ble_eq_true rfl) dX1_service_120 (cp_tY _ _ _ _ _ _) (fun H locs hI => ?_)
                  rw [cp_thw_thw] at hI
                  refine lv_aload_n hx hb dX1_service_123 rfl (lv_at hl 2 rfl) ?_
                  refine cp_get (v := .int 0) hx hb hts inW hown hK hI (cp_hY _ _ _ _ _) rfl 0 (by decide) fl_thrown rfl rfl dX1_service_124 ?_
                  refine lv_if_le (tgt := 132) hx hb dX1_service_127 (by decide) (fun c127 => ?_) (fun c127 => ?_)
                  · have hrm := cp_room (N := 40) hN3 c112.1
                    obtain ⟨k1, hk1, e1⟩ := cp_idc (n := 3) (by decide) c7
                    refine lv_aload_n hx hb dX1_service_132 rfl (lv_at hl 2 rfl) ?_
                    refine cp_get (v := .ref (a 11)) hx hb hts inW hown hK hI (cp_hY _ _ _ _ _) rfl 15 (by decide) fl_choir rfl rfl dX1_service_133 ?_
                    refine lv_aload_n hx hb dX1_service_136 rfl (lv_at hl 2 rfl) ?_
                    refine cp_get (v := .int (u 14 3)) hx hb hts inW hown hK hI (cp_hY _ _ _ _ _) rfl 14 (by decide) fl_services rfl rfl dX1_service_137 ?_
                    refine lv_iload_n hx hb dX1_service_140 rfl (lv_at hl 3 rfl) ?_
                    refine cp_iast hx hb hK hI 0 (cp_aY_11 _ _ _ _ _) rfl (j := (cp_n u 3)) (cp_ix_e (by exact hN3.1) (by omega) (by decide)) dX1_service_141 (cp_sY_11 _ _ _ _ _ _) (fun H locs hI => ?_)
                    obtain ⟨u141, eu141⟩ : ∃ z9, z9 = cp_up (cp_thw u 0) 11 (upd ((cp_thw u 0) 11) (cp_n u 3) ch) := ⟨_, rfl⟩
                    rw [← eu141] at hI
                    refine lv_aload_n hx hb dX1_service_142 rfl (lv_at hl 2 rfl) ?_
                    refine cp_get (v := .ref (a 12)) hx hb hts inW hown hK hI (cp_hY _ _ _ _ _) rfl 16 (by decide) fl_day rfl rfl dX1_service_143 ?_
                    refine lv_aload_n hx hb dX1_service_146 rfl (lv_at hl 2 rfl) ?_
                    refine cp_get (v := .int (u141 14 3)) hx hb hts inW hown hK hI (cp_hY _ _ _ _ _) rfl 14 (by decide) fl_services rfl rfl dX1_service_147 ?_
                    refine lv_iload_n hx hb dX1_service_150 rfl (lv_at hl 4 rfl) ?_
                    refine cp_iast hx hb hK hI 0 (cp_aY_12 _ _ _ _ _) rfl (j := (cp_n u 3)) (cp_ix_e (by rw [eu141]; exact hN3.1) (by omega) (by decide)) dX1_service_151 (cp_sY_12 _ _ _ _ _ _) (fun H locs hI => ?_)
                    obtain ⟨u151, eu151⟩ : ∃ z9, z9 = cp_up u141 12 (upd (u141 12) (cp_n u 3) z) := ⟨_, rfl⟩
                    rw [← eu151] at hI
                    refine lv_aload_n hx hb dX1_service_152 rfl (lv_at hl 2 rfl) ?_
                    refine cp_get (v := .ref (a 13)) hx hb hts inW hown hK hI (cp_hY _ _ _ _ _) rfl 17 (by decide) fl_sung rfl rfl dX1_service_153 ?_
                    refine lv_aload_n hx hb dX1_service_156 rfl (lv_at hl 2 rfl) ?_
                    refine cp_get (v := .int (u151 14 3)) hx hb hts inW hown hK hI (cp_hY _ _ _ _ _) rfl 14 (by decide) fl_services rfl rfl dX1_service_157 ?_
                    refine lv_iconst (v := (-1)) hx hb dX1_service_160 (by decide) ?_
                    refine cp_iast hx hb hK hI 0 (cp_aY_13 _ _ _ _ _) rfl (j := (cp_n u 3)) (cp_ix_e (by rw [eu151, eu141]; exact hN3.1) (by omega) (by decide)) dX1_service_161 (cp_sY_13 _ _ _ _ _ _) (fun H locs hI => ?_)
                    obtain ⟨u161, eu161⟩ : ∃ z9, z9 = cp_up u151 13 (upd (u151 13) (cp_n u 3) (-1)) := ⟨_, rfl⟩
                    rw [← eu161] at hI
                    refine lv_aload_n hx hb dX1_service_162 rfl (lv_at hl 2 rfl) ?_
                    refine lv_dup hx hb dX1_service_163 rfl ?_
                    refine cp_get (v := .int (u161 14 3)) hx hb hts inW hown hK hI (cp_hY _ _ _ _ _) rfl 14 (by decide) fl_services rfl rfl dX1_service_164 ?_
                    refine lv_iconst (v := 1) hx hb dX1_service_167 (by decide) ?_
                    refine lv_iadd hx hb dX1_service_168 ?_
                    refine cp_puti hx hb hts inW tyX1 tyX1_ok nmX1 hown hK hI (cp_hY _ _ _ _ _) rfl 14 (by decide) fl_services rfl rfl (by decide +kernel) (Nat.le_of_ble_eq_true rfl) dX1_service_169 (cp_iY_3 _ _ _ _ _ _) (fun H locs hI => ?_)
                    obtain ⟨u169, eu169⟩ : ∃ z9, z9 = cp_up u161 14 (upd (u161 14) 3 ((u161 14 3) + 1)) := ⟨_, rfl⟩
                    rw [← eu169] at hI
                    refine lv_aload_n hx hb dX1_service_172 rfl (lv_at hl 2 rfl) ?_
                    refine lv_aload_n hx hb dX1_service_173 rfl (lv_at hl 2 rfl) ?_
                    refine cp_get (v := .int (u169 14 3)) hx hb hts inW hown hK hI (cp_hY _ _ _ _ _) rfl 14 (by decide) fl_services rfl rfl dX1_service_174 ?_
                    refine lv_iconst (v := 1) hx hb dX1_service_177 (by decide) ?_
                    refine lv_isub hx hb dX1_service_178 ?_
                    have hj179 : u169 14 3 - 1 = nI (cp_n u 3) := by subst eu169; subst eu161; subst eu151; subst eu141; exact (cp_a1 (u 14 3)).trans hN3.1
                    rw [hj179]
                    refine cp_cVv0 (wc := cp_wY cI cZ h a) (u := u169) (As := [.int (nI (cp_n u 3))]) (rest := []) ⟨hx, hb, hml, hown, hts⟩ (c_X1_plans l D cI cZ h a u169 (cp_n u 3) k1 (by omega) (by omega) (by rw [← e1]; subst eu169; subst eu161; subst eu151; subst eu141; exact cp_upd_s _ _ _) (cp_cn_of (n := cp_n u 1) (by subst eu169; subst eu161; subst eu151; subst eu141; exact hN1.1) hN1.2.1 (by decide)) (cp_cn_of (n := cp_n u 2) (by subst eu169; subst eu161; subst eu151; subst eu141; exact hN2.1) hN2.2.1 (by decide)) (cp_cn_of (n := cp_n u 3 + 1) (by subst eu169; subst eu161; subst eu151; subst eu141; show u 14 3 + 1 = _; rw [hN3.1]; exact nI_1 _) (by omega) (by decide))) (cwV 1 hts gX1_service_X1_plans rfl rfl rfl (by decide +kernel) ⟨Nat.le_of_ble_eq_true rfl, Nat.le_of_ble_eq_true rfl⟩) hK hI hA ⟨_, cp_hY _ _ _ _ _⟩ rfl rfl rfl hl.1 rfl (Nat.le_of_ble_eq_true rfl) dX1_service_179 ⟨Nat.le_of_ble_eq_true rfl, Nat.le_of_ble_eq_true rfl⟩ (fun u179 H locs hp179 hI => ?_)
                    have eu179 := hp179
                    refine lv_aload_n hx hb dX1_service_182 rfl (lv_at hl 2 rfl) ?_
                    refine cp_get (v := .int (u179 14 3)) hx hb hts inW hown hK hI (cp_hY _ _ _ _ _) rfl 14 (by decide) fl_services rfl rfl dX1_service_183 ?_
                    refine lv_iconst (v := 1) hx hb dX1_service_186 (by decide) ?_
                    refine lv_isub hx hb dX1_service_187 ?_
                    exact cp_reti (u := u179) (v := ((u179 14 3) - 1)) hx hb hr hlocks hK hI (Or.inr (Or.inr (Or.inr ⟨c7, c25, ⟨c112.1, fun ⟨r, hr, h9⟩ => c112.2 r (by omega) h9⟩, k1, hk1, e1, by rw [eu179, cp_planY_r _ _ _ (by decide)]; subst eu169; subst eu161; subst eu151; subst eu141; exact cp_a1 (u 14 3), by rw [eu179]; subst eu169; subst eu161; subst eu151; subst eu141; rfl⟩))) dX1_service_188
                  · exact absurd (by decide) c127
              · have hk2 := cp_in hN3 (by omega) c69
                refine lv_iload_n hx hb dX1_service_72 rfl (lv_at hl 1 rfl) ?_
                refine lv_if_eq (tgt := 102) hx hb dX1_service_73 (by decide) (fun c73 => ?_) (fun c73 => ?_)
                · have c73 := cp_b0.mp c73
                  refine lv_iconst (v := 0) hx hb dX1_service_102 (by decide) ?_
                  refine lv_istore_n (lv' := [(3, .int 0), (4, .int (nI k)), (0, .ref h), (1, .int ch), (2, .int z)]) hx hb dX1_service_103 rfl hl (by decide) rfl (fun ls hl => ?_)
                  obtain ⟨x104, ex104⟩ : ∃ y9 : Int32, y9 = (nI k) + 1 := ⟨_, rfl⟩
                  refine lv_iinc (v := x104) (lv' := [(4, .int x104), (3, .int 0), (0, .ref h), (1, .int ch), (2, .int z)]) hx hb dX1_service_104 hl (k := 1) rfl (by rw [ex104]; rfl) (by decide) rfl (fun ls hl => ?_)
                  refine lv_goto (tgt := 63) hx hb dX1_service_107 (by decide) ?_
                  have hl : lv_has ls 5 [(4, .int x104), (3, .int (cp_b (cp_canK u ch z (k + 1)))), (0, .ref h), (1, .int ch), (2, .int z)] := by rw [cp_bf (by first | exact cp_canK_n c73 | exact fun h => h.2 k (by omega) ⟨c84, c95⟩)]; exact hl
                  obtain rfl : x104 = nI (k + 1) := by rw [ex104]; exact nI_1 k
                  exact ih (k + 1) (by omega) (by omega) _ _ hI ls (lv_sub hl [0, 1, 2, 3, 4] rfl)
                · have c73 := Classical.not_not.mp (fun h9 => c73 (cp_b0.mpr h9))
                  refine lv_aload_n hx hb dX1_service_76 rfl (lv_at hl 2 rfl) ?_
                  refine cp_get (v := .ref (a 11)) hx hb hts inW hown hK hI (cp_hY _ _ _ _ _) rfl 15 (by decide) fl_choir rfl rfl dX1_service_77 ?_
                  refine lv_iload hx hb dX1_service_80 (lv_at hl 0 rfl) ?_
                  refine cp_iald (f := u 11) hx hb hK hI 0 (cp_aY_11 _ _ _ _ _) rfl (j := k) (cp_ix_n (by omega) (by decide)) dX1_service_82 ?_
                  refine lv_iload_n hx hb dX1_service_83 rfl (lv_at hl 3 rfl) ?_
                  refine lv_icmp_ne (tgt := 98) hx hb dX1_service_84 (by decide) (fun c84 => ?_) (fun c84 => ?_)
                  · refine lv_iconst (v := 1) hx hb dX1_service_98 (by decide) ?_
                    refine lv_goto (tgt := 103) hx hb dX1_service_99 (by decide) ?_
                    refine lv_istore_n (lv' := [(3, .int 1), (4, .int (nI k)), (0, .ref h), (1, .int ch), (2, .int z)]) hx hb dX1_service_103 rfl hl (by decide) rfl (fun ls hl => ?_)
                    obtain ⟨x104, ex104⟩ : ∃ y9 : Int32, y9 = (nI k) + 1 := ⟨_, rfl⟩
                    refine lv_iinc (v := x104) (lv' := [(4, .int x104), (3, .int 1), (0, .ref h), (1, .int ch), (2, .int z)]) hx hb dX1_service_104 hl (k := 1) rfl (by rw [ex104]; rfl) (by decide) rfl (fun ls hl => ?_)
                    refine lv_goto (tgt := 63) hx hb dX1_service_107 (by decide) ?_
                    have hl : lv_has ls 5 [(4, .int x104), (3, .int (cp_b (cp_canK u ch z (k + 1)))), (0, .ref h), (1, .int ch), (2, .int z)] := by rw [cp_bt (cp_canK_s c73 (by first | exact fun h => c84 h.1 | exact fun h => c95 h.2))]; exact hl
                    obtain rfl : x104 = nI (k + 1) := by rw [ex104]; exact nI_1 k
                    exact ih (k + 1) (by omega) (by omega) _ _ hI ls (lv_sub hl [0, 1, 2, 3, 4] rfl)
                  · refine lv_aload_n hx hb dX1_service_87 rfl (lv_at hl 2 rfl) ?_
                    refine cp_get (v := .ref (a 12)) hx hb hts inW hown hK hI (cp_hY _ _ _ _ _) rfl 16 (by decide) fl_day rfl rfl dX1_service_88 ?_
                    refine lv_iload hx hb dX1_service_91 (lv_at hl 0 rfl) ?_
                    refine cp_iald (f := u 12) hx hb hK hI 0 (cp_aY_12 _ _ _ _ _) rfl (j := k) (cp_ix_n (by omega) (by decide)) dX1_service_93 ?_
                    refine lv_iload_n hx hb dX1_service_94 rfl (lv_at hl 4 rfl) ?_
                    refine lv_icmp_eq (tgt := 102) hx hb dX1_service_95 (by decide) (fun c95 => ?_) (fun c95 => ?_)
                    · refine lv_iconst (v := 0) hx hb dX1_service_102 (by decide) ?_
                      refine lv_istore_n (lv' := [(3, .int 0), (4, .int (nI k)), (0, .ref h), (1, .int ch), (2, .int z)]) hx hb dX1_service_103 rfl hl (by decide) rfl (fun ls hl => ?_)
                      obtain ⟨x104, ex104⟩ : ∃ y9 : Int32, y9 = (nI k) + 1 := ⟨_, rfl⟩
                      refine lv_iinc (v := x104) (lv' := [(4, .int x104), (3, .int 0), (0, .ref h), (1, .int ch), (2, .int z)]) hx hb dX1_service_104 hl (k := 1) rfl (by rw [ex104]; rfl) (by decide) rfl (fun ls hl => ?_)
                      refine lv_goto (tgt := 63) hx hb dX1_service_107 (by decide) ?_
                      have hl : lv_has ls 5 [(4, .int x104), (3, .int (cp_b (cp_canK u ch z (k + 1)))), (0, .ref h), (1, .int ch), (2, .int z)] := by rw [cp_bf (by first | exact cp_canK_n c73 | exact fun h => h.2 k (by omega) ⟨c84, c95⟩)]; exact hl
                      obtain rfl : x104 = nI (k + 1) := by rw [ex104]; exact nI_1 k
                      exact ih (k + 1) (by omega) (by omega) _ _ hI ls (lv_sub hl [0, 1, 2, 3, 4] rfl)
                    · refine lv_iconst (v := 1) hx hb dX1_service_98 (by decide) ?_
                      refine lv_goto (tgt := 103) hx hb dX1_service_99 (by decide) ?_
                      refine lv_istore_n (lv' := [(3, .int 1), (4, .int (nI k)), (0, .ref h), (1, .int ch), (2, .int z)]) hx hb dX1_service_103 rfl hl (by decide) rfl (fun ls hl => ?_)
                      obtain ⟨x104, ex104⟩ : ∃ y9 : Int32, y9 = (nI k) + 1 := ⟨_, rfl⟩
                      refine lv_iinc (v := x104) (lv' := [(4, .int x104), (3, .int 1), (0, .ref h), (1, .int ch), (2, .int z)]) hx hb dX1_service_104 hl (k := 1) rfl (by rw [ex104]; rfl) (by decide) rfl (fun ls hl => ?_)
                      refine lv_goto (tgt := 63) hx hb dX1_service_107 (by decide) ?_
                      have hl : lv_has ls 5 [(4, .int x104), (3, .int (cp_b (cp_canK u ch z (k + 1)))), (0, .ref h), (1, .int ch), (2, .int z)] := by rw [cp_bt (cp_canK_s c73 (by first | exact fun h => c84 h.1 | exact fun h => c95 h.2))]; exact hl
                      obtain rfl : x104 = nI (k + 1) := by rw [ex104]; exact nI_1 k
                      exact ih (k + 1) (by omega) (by omega) _ _ hI ls (lv_sub hl [0, 1, 2, 3, 4] rfl)
          have hl : lv_has ls 5 [(4, .int 0), (3, .int (cp_b (cp_canK u ch z 0))), (0, .ref h), (1, .int ch), (2, .int z)] := by rw [cp_bt ⟨c51, fun r hr => absurd hr (Nat.not_lt_zero r)⟩]; exact hl
          exact L63 ((cp_n u 3) + 1) 0 (Nat.lt_succ_self _) (Nat.zero_le _) _ _ hI ls (lv_sub hl [0, 1, 2, 3, 4] rfl)
      · exact absurd (by decide) c40
  · have c7 := cp_b0.mp c7
    refine lv_iconst (v := 1) hx hb dX1_service_10 (by decide) ?_
    refine lv_goto (tgt := 33) hx hb dX1_service_11 (by decide) ?_
    refine cp_puti hx hb hts inW tyX1 tyX1_ok nmX1 hown hK hI (cp_hY _ _ _ _ _) rfl 0 (by decide) fl_thrown rfl rfl (by decide +kernel) (Nat.le_of_ble_eq_true rfl) dX1_service_33 (cp_tY _ _ _ _ _ _) (fun H locs hI => ?_)
    refine lv_aload_n hx hb dX1_service_36 rfl (lv_at hl 0 rfl) ?_
    refine cp_get (v := .int 1) hx hb hts inW hown hK hI (cp_hY _ _ _ _ _) rfl 0 (by decide) fl_thrown rfl rfl dX1_service_37 ?_
    refine lv_if_le (tgt := 45) hx hb dX1_service_40 (by decide) (fun c40 => ?_) (fun c40 => ?_)
    · exact absurd c40 (by decide)
    · refine lv_iconst (v := 0) hx hb dX1_service_43 (by decide) ?_
      exact cp_reti (u := (cp_thw u 1)) (v := 0) hx hb hr hlocks hK hI (Or.inl ⟨c7, rfl⟩) dX1_service_44
