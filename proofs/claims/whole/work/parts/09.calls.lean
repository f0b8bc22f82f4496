set_option maxHeartbeats 4000000 in
set_option maxRecDepth 100000 in
theorem c_X0_right (l : Launch) (hst : l.stackTraces = false) (D : va_G) (cI : ClassId) (h : Nat) (a : Nat → Nat) (u : cp_M) (x : Int32) (y : Int32) (f : Int32) (t9 : Int32) (hN2 : cp_cn u 2 40) : ∀ sz : Nat, vx_Met l yX0_right wsX0_right ({ frames := 7, cells := 1, slots := 6, locals := 101 } : Room) (va_Pc [.ref h, .int x, .int y, .int f, .int t9] (cp_preZ D [(cI, .int)] (cp_wX cI h a u) sz)) (va_Qi (fun (r : Int32) (u1 : cp_M) => (cp_bw x 0 (u 14 1 - 1) ∧ cp_bw y 0 1) ∧ (cp_bw f 0 1459 ∧ cp_bw t9 f 1459) ∧ ¬ (40 : Int32) ≤ u 14 2 ∧ r = u 14 2 ∧ u1 = cp_addR u x y f t9) (cp_at D [(cI, .int)] (va_A (cp_wX cI h a u) sz) (cp_wX cI h a)) (va_A (cp_wX cI h a u) sz)) (cp_XC D [(cI, .int)] (cp_wX cI h a) u (fun E => (E = R_iob ∧ ¬ (cp_bw x 0 (u 14 1 - 1) ∧ cp_bw y 0 1)) ∨ (E = R_iae ∧ (cp_bw x 0 (u 14 1 - 1) ∧ cp_bw y 0 1) ∧ ¬ (cp_bw f 0 1459 ∧ cp_bw t9 f 1459)) ∨ (E = R_ise ∧ (cp_bw x 0 (u 14 1 - 1) ∧ cp_bw y 0 1) ∧ (cp_bw f 0 1459 ∧ cp_bw t9 f 1459) ∧ ¬ ¬ (40 : Int32) ≤ u 14 2)) (va_A (cp_wX cI h a u) sz)) 1 6 (va_A (cp_wX cI h a u) sz) := by
  refine cp_MetX (Qk := fun A => va_Qi (fun (r : Int32) (u1 : cp_M) => (cp_bw x 0 (u 14 1 - 1) ∧ cp_bw y 0 1) ∧ (cp_bw f 0 1459 ∧ cp_bw t9 f 1459) ∧ ¬ (40 : Int32) ≤ u 14 2 ∧ r = u 14 2 ∧ u1 = cp_addR u x y f t9) (cp_at D [(cI, .int)] A (cp_wX cI h a)) A) (XCk := fun A => cp_XC D [(cI, .int)] (cp_wX cI h a) u (fun E => (E = R_iob ∧ ¬ (cp_bw x 0 (u 14 1 - 1) ∧ cp_bw y 0 1)) ∨ (E = R_iae ∧ (cp_bw x 0 (u 14 1 - 1) ∧ cp_bw y 0 1) ∧ ¬ (cp_bw f 0 1459 ∧ cp_bw t9 f 1459)) ∨ (E = R_ise ∧ (cp_bw x 0 (u 14 1 - 1) ∧ cp_bw y 0 1) ∧ (cp_bw f 0 1459 ∧ cp_bw t9 f 1459) ∧ ¬ ¬ (40 : Int32) ≤ u 14 2)) A) (by decide) rfl (Nat.le_of_ble_eq_true rfl) ?_
  intro p e s m args below meth c A hC hA hK hI hZ hno ls hl
  obtain ⟨hx, hb, hml, hown, hts, hr, hlocks⟩ := hC
  have hown : s.vm.findClass RX0 = some m.cls := hown
  have hl : lv_has ls 6 [(0, .ref h), (1, .int x), (2, .int y), (3, .int f), (4, .int t9)] := hl
  have inW : ∀ w ∈ wsX00, w ∈ wsX0_right := by decide +kernel
  have fl_firstOfRight : Cond.fieldLink RX0 37 "CanticlePress" "firstOfRight" "[I" ∈ wsX0_right := by decide +kernel
  have fl_hymnOfRight : Cond.fieldLink RX0 31 "CanticlePress" "hymnOfRight" "[I" ∈ wsX0_right := by decide +kernel
  have fl_lastOfRight : Cond.fieldLink RX0 40 "CanticlePress" "lastOfRight" "[I" ∈ wsX0_right := by decide +kernel
  have fl_rightCount : Cond.fieldLink RX0 103 "CanticlePress" "rightCount" "I" ∈ wsX0_right := by decide +kernel
  have fl_useOfRight : Cond.fieldLink RX0 34 "CanticlePress" "useOfRight" "[I" ∈ wsX0_right := by decide +kernel
  refine lv_aload_n hx hb dX0_right_0 rfl (lv_at hl 0 rfl) ?_
  refine lv_iload_n hx hb dX0_right_1 rfl (lv_at hl 1 rfl) ?_
  refine cp_cVi0 (wc := cp_wX cI h a) (u := u) (As := [.int x]) (rest := []) ⟨hx, hb, hml, hown, hts⟩ (c_X0_isHymn l D cI h a u x) (cwV 1 hts gX0_right_X0_isHymn rfl rfl rfl (by decide +kernel) ⟨Nat.le_of_ble_eq_true rfl, Nat.le_of_ble_eq_true rfl⟩) hK hI hA ⟨_, cp_hX _ _ _ _⟩ rfl rfl rfl hl.1 rfl (Nat.le_of_ble_eq_true rfl) dX0_right_2 ⟨Nat.le_of_ble_eq_true rfl, Nat.le_of_ble_eq_true rfl⟩ (fun r2 u2 H locs hp2 hI => ?_)
  obtain ⟨rfl, e9⟩ := hp2
  rw [e9] at hI
  rcases Classical.em (cp_bw x 0 (u 14 1 - 1)) with c5 | c5
  · rw [cp_bt c5]
    refine cp_cSv0 (As := [.int 1]) (rest := []) ⟨hx, hb, hml, hown, hts⟩ (c_X0_needIndex_ok l D) (va_cwS 1 hts gX0_right_X0_needIndex rfl rfl rfl (by decide +kernel) ⟨Nat.le_of_ble_eq_true rfl, Nat.le_of_ble_eq_true rfl⟩) hK hI hA rfl hl.1 rfl (Nat.le_of_ble_eq_true rfl) dX0_right_5 ⟨Nat.le_of_ble_eq_true rfl, Nat.le_of_ble_eq_true rfl⟩ (fun u5 H locs hp5 hI => ?_)
    refine lv_iload_n hx hb dX0_right_8 rfl (lv_at hl 2 rfl) ?_
    refine cp_cSi0 (As := [.int y]) (rest := []) ⟨hx, hb, hml, hown, hts⟩ ((c_X0_isUse l y) D) (va_cwS 1 hts gX0_right_X0_isUse rfl rfl rfl (by decide +kernel) ⟨Nat.le_of_ble_eq_true rfl, Nat.le_of_ble_eq_true rfl⟩) hK hI hA rfl hl.1 rfl (Nat.le_of_ble_eq_true rfl) dX0_right_9 ⟨Nat.le_of_ble_eq_true rfl, Nat.le_of_ble_eq_true rfl⟩ (fun r9 u9 H locs hp9 hI => ?_)
    obtain rfl := hp9
    rcases Classical.em (cp_bw y 0 1) with c12 | c12
    · rw [cp_bt c12]
      refine cp_cSv0 (As := [.int 1]) (rest := []) ⟨hx, hb, hml, hown, hts⟩ (c_X0_needIndex_ok l D) (va_cwS 1 hts gX0_right_X0_needIndex rfl rfl rfl (by decide +kernel) ⟨Nat.le_of_ble_eq_true rfl, Nat.le_of_ble_eq_true rfl⟩) hK hI hA rfl hl.1 rfl (Nat.le_of_ble_eq_true rfl) dX0_right_12 ⟨Nat.le_of_ble_eq_true rfl, Nat.le_of_ble_eq_true rfl⟩ (fun u12 H locs hp12 hI => ?_)
      refine lv_iload_n hx hb dX0_right_15 rfl (lv_at hl 3 rfl) ?_
      refine cp_cSi0 (As := [.int f]) (rest := []) ⟨hx, hb, hml, hown, hts⟩ ((c_X0_isDay l f) D) (va_cwS 1 hts gX0_right_X0_isDay rfl rfl rfl (by decide +kernel) ⟨Nat.le_of_ble_eq_true rfl, Nat.le_of_ble_eq_true rfl⟩) hK hI hA rfl hl.1 rfl (Nat.le_of_ble_eq_true rfl) dX0_right_16 ⟨Nat.le_of_ble_eq_true rfl, Nat.le_of_ble_eq_true rfl⟩ (fun r16 u16 H locs hp16 hI => ?_)
      obtain rfl := hp16
      rcases Classical.em (cp_bw f 0 1459) with c19 | c19
      · rw [cp_bt c19]
        refine cp_cSv0 (As := [.int 1]) (rest := []) ⟨hx, hb, hml, hown, hts⟩ (c_X0_needArgument_ok l D) (va_cwS 1 hts gX0_right_X0_needArgument rfl rfl rfl (by decide +kernel) ⟨Nat.le_of_ble_eq_true rfl, Nat.le_of_ble_eq_true rfl⟩) hK hI hA rfl hl.1 rfl (Nat.le_of_ble_eq_true rfl) dX0_right_19 ⟨Nat.le_of_ble_eq_true rfl, Nat.le_of_ble_eq_true rfl⟩ (fun u19 H locs hp19 hI => ?_)
        refine lv_iload hx hb dX0_right_22 (lv_at hl 4 rfl) ?_
        refine lv_iload_n hx hb dX0_right_24 rfl (lv_at hl 3 rfl) ?_
        refine lv_sipush (v := 1459) hx hb dX0_right_25 (by decide) ?_
        refine cp_cSi0 (As := [.int t9, .int f, .int 1459]) (rest := []) ⟨hx, hb, hml, hown, hts⟩ ((c_X0_isBetween l t9 f 1459) D) (va_cwS 3 hts gX0_right_X0_isBetween rfl rfl rfl (by decide +kernel) ⟨Nat.le_of_ble_eq_true rfl, Nat.le_of_ble_eq_true rfl⟩) hK hI hA rfl hl.1 rfl (Nat.le_of_ble_eq_true rfl) dX0_right_28 ⟨Nat.le_of_ble_eq_true rfl, Nat.le_of_ble_eq_true rfl⟩ (fun r28 u28 H locs hp28 hI => ?_)
        obtain rfl := hp28
        rcases Classical.em (cp_bw t9 f 1459) with c31 | c31
        · rw [cp_bt c31]
          refine cp_cSv0 (As := [.int 1]) (rest := []) ⟨hx, hb, hml, hown, hts⟩ (c_X0_needArgument_ok l D) (va_cwS 1 hts gX0_right_X0_needArgument rfl rfl rfl (by decide +kernel) ⟨Nat.le_of_ble_eq_true rfl, Nat.le_of_ble_eq_true rfl⟩) hK hI hA rfl hl.1 rfl (Nat.le_of_ble_eq_true rfl) dX0_right_31 ⟨Nat.le_of_ble_eq_true rfl, Nat.le_of_ble_eq_true rfl⟩ (fun u31 H locs hp31 hI => ?_)
          refine lv_aload_n hx hb dX0_right_34 rfl (lv_at hl 0 rfl) ?_
          refine cp_get (v := .int (u 14 2)) hx hb hts inW hown hK hI (cp_hX _ _ _ _) rfl 9 (by decide) fl_rightCount rfl rfl dX0_right_35 ?_
          refine lv_bipush (v := 40) hx hb dX0_right_38 (by decide) ?_
          refine lv_icmp_ge (tgt := 47) hx hb dX0_right_40 (by decide) (fun c40 => ?_) (fun c40 => ?_)
          · refine lv_iconst (v := 0) hx hb dX0_right_47 (by decide) ?_
            exact cp_thr (As := [.int 0]) (rest := []) ⟨hx, hb, hml, hown, hts⟩ (c_X0_needState_thr l hst D) (va_cwS 1 hts gX0_right_X0_needState rfl rfl rfl (by decide +kernel) ⟨Nat.le_of_ble_eq_true rfl, Nat.le_of_ble_eq_true rfl⟩) hK hI hA hZ hno hlocks rfl hl.1 rfl (Nat.le_of_ble_eq_true rfl) dX0_right_48 ⟨Nat.le_of_ble_eq_true rfl, Nat.le_of_ble_eq_true rfl⟩ rfl (Or.inr (Or.inr ⟨rfl, ⟨c5, c12⟩, ⟨c19, c31⟩, Classical.not_not.mpr c40⟩))
          · refine lv_iconst (v := 1) hx hb dX0_right_43 (by decide) ?_
            refine lv_goto (tgt := 48) hx hb dX0_right_44 (by decide) ?_
            refine cp_cSv0 (As := [.int 1]) (rest := []) ⟨hx, hb, hml, hown, hts⟩ (c_X0_needState_ok l D) (va_cwS 1 hts gX0_right_X0_needState rfl rfl rfl (by decide +kernel) ⟨Nat.le_of_ble_eq_true rfl, Nat.le_of_ble_eq_true rfl⟩) hK hI hA rfl hl.1 rfl (Nat.le_of_ble_eq_true rfl) dX0_right_48 ⟨Nat.le_of_ble_eq_true rfl, Nat.le_of_ble_eq_true rfl⟩ (fun u48 H locs hp48 hI => ?_)
            have hN9 := hN2.2.1
            have hj16 : cp_n u 2 < 40 := by rcases Nat.lt_or_ge (cp_n u 2) 40 with q | q; exact q; exact absurd (by rw [hN2.1]; exact nI_le (a := 40) q (by omega)) c40
            refine lv_aload_n hx hb dX0_right_51 rfl (lv_at hl 0 rfl) ?_
            refine cp_get (v := .int (u 14 2)) hx hb hts inW hown hK hI (cp_hX _ _ _ _) rfl 9 (by decide) fl_rightCount rfl rfl dX0_right_52 ?_
            refine lv_topi (fun x55 ex55 => ?_)
            refine lv_istore (lv' := [(5, .int x55), (0, .ref h), (1, .int x), (2, .int y), (3, .int f), (4, .int t9)]) hx hb dX0_right_55 hl (by decide) rfl (fun ls hl => ?_)
            obtain ⟨j, hj, rfl⟩ : ∃ j, j = cp_n u 2 ∧ x55 = nI j := ⟨_, rfl, ex55.trans hN2.1⟩
            refine lv_aload_n hx hb dX0_right_57 rfl (lv_at hl 1 rfl) ?_
            refine cp_get (v := .ref (a 7)) hx hb hts inW hown hK hI (cp_hX _ _ _ _) rfl 10 (by decide) fl_hymnOfRight rfl rfl dX0_right_58 ?_
            refine lv_iload hx hb dX0_right_61 (lv_at hl 0 rfl) ?_
            refine lv_iload_n hx hb dX0_right_63 rfl (lv_at hl 2 rfl) ?_
            refine cp_iast hx hb hK hI 0 (cp_aX_7 _ _ _ _) rfl (j := j) (cp_ix_n (by omega) (by decide)) dX0_right_64 (cp_sX_7 _ _ _ _ _) (fun H locs hI => ?_)
            obtain ⟨u64, eu64⟩ : ∃ z9, z9 = cp_up u 7 (upd (u 7) j x) := ⟨_, rfl⟩
            rw [← eu64] at hI
            refine lv_aload_n hx hb dX0_right_65 rfl (lv_at hl 1 rfl) ?_
            refine cp_get (v := .ref (a 8)) hx hb hts inW hown hK hI (cp_hX _ _ _ _) rfl 11 (by decide) fl_useOfRight rfl rfl dX0_right_66 ?_
            refine lv_iload hx hb dX0_right_69 (lv_at hl 0 rfl) ?_
            refine lv_iload_n hx hb dX0_right_71 rfl (lv_at hl 3 rfl) ?_
            refine cp_iast hx hb hK hI 0 (cp_aX_8 _ _ _ _) rfl (j := j) (cp_ix_n (by omega) (by decide)) dX0_right_72 (cp_sX_8 _ _ _ _ _) (fun H locs hI => ?_)
            obtain ⟨u72, eu72⟩ : ∃ z9, z9 = cp_up u64 8 (upd (u64 8) j y) := ⟨_, rfl⟩
            rw [← eu72] at hI
            refine lv_aload_n hx hb dX0_right_73 rfl (lv_at hl 1 rfl) ?_
            refine cp_get (v := .ref (a 9)) hx hb hts inW hown hK hI (cp_hX _ _ _ _) rfl 12 (by decide) fl_firstOfRight rfl rfl dX0_right_74 ?_
            refine lv_iload hx hb dX0_right_77 (lv_at hl 0 rfl) ?_
            refine lv_iload_n hx hb dX0_right_79 rfl (lv_at hl 4 rfl) ?_
            refine cp_iast hx hb hK hI 0 (cp_aX_9 _ _ _ _) rfl (j := j) (cp_ix_n (by omega) (by decide)) dX0_right_80 (cp_sX_9 _ _ _ _ _) (fun H locs hI => ?_)
            obtain ⟨u80, eu80⟩ : ∃ z9, z9 = cp_up u72 9 (upd (u72 9) j f) := ⟨_, rfl⟩
            rw [← eu80] at hI
            refine lv_aload_n hx hb dX0_right_81 rfl (lv_at hl 1 rfl) ?_
            refine cp_get (v := .ref (a 10)) hx hb hts inW hown hK hI (cp_hX _ _ _ _) rfl 13 (by decide) fl_lastOfRight rfl rfl dX0_right_82 ?_
            refine lv_iload hx hb dX0_right_85 (lv_at hl 0 rfl) ?_
            refine lv_iload hx hb dX0_right_87 (lv_at hl 5 rfl) ?_
            refine cp_iast hx hb hK hI 0 (cp_aX_10 _ _ _ _) rfl (j := j) (cp_ix_n (by omega) (by decide)) dX0_right_89 (cp_sX_10 _ _ _ _ _) (fun H locs hI => ?_)
            obtain ⟨u89, eu89⟩ : ∃ z9, z9 = cp_up u80 10 (upd (u80 10) j t9) := ⟨_, rfl⟩
            rw [← eu89] at hI
            refine lv_aload_n hx hb dX0_right_90 rfl (lv_at hl 1 rfl) ?_
            refine lv_dup hx hb dX0_right_91 rfl ?_
            refine cp_get (v := .int (u89 14 2)) hx hb hts inW hown hK hI (cp_hX _ _ _ _) rfl 9 (by decide) fl_rightCount rfl rfl dX0_right_92 ?_
            refine lv_iconst (v := 1) hx hb dX0_right_95 (by decide) ?_
            refine lv_iadd hx hb dX0_right_96 ?_
            refine cp_puti hx hb hts inW tyX0 tyX0_ok nmX0 hown hK hI (cp_hX _ _ _ _) rfl 9 (by decide) fl_rightCount rfl rfl (by decide +kernel) (Nat.le_of_ble_eq_true rfl) dX0_right_97 (cp_iX_2 _ _ _ _ _) (fun H locs hI => ?_)
            obtain ⟨u97, eu97⟩ : ∃ z9, z9 = cp_up u89 14 (upd (u89 14) 2 ((u89 14 2) + 1)) := ⟨_, rfl⟩
            rw [← eu97] at hI
            refine lv_iload hx hb dX0_right_100 (lv_at hl 0 rfl) ?_
            refine vx_ret ?_
            refine W.widen (k := 1) (n := 6) (Nat.le_of_ble_eq_true rfl) (Nat.le_of_ble_eq_true rfl) ?_
            exact cp_reti (u := u97) (v := (nI j)) hx hb hr hlocks hK hI ⟨⟨c5, c12⟩, ⟨c19, c31⟩, c40, by rw [hj]; exact hN2.1.symm, by subst eu97; subst eu89; subst eu80; subst eu72; subst eu64; subst hj; rfl⟩ dX0_right_102
        · rw [cp_bf c31]
          exact cp_thr (As := [.int 0]) (rest := []) ⟨hx, hb, hml, hown, hts⟩ (c_X0_needArgument_thr l hst D) (va_cwS 1 hts gX0_right_X0_needArgument rfl rfl rfl (by decide +kernel) ⟨Nat.le_of_ble_eq_true rfl, Nat.le_of_ble_eq_true rfl⟩) hK hI hA hZ hno hlocks rfl hl.1 rfl (Nat.le_of_ble_eq_true rfl) dX0_right_31 ⟨Nat.le_of_ble_eq_true rfl, Nat.le_of_ble_eq_true rfl⟩ rfl (Or.inr (Or.inl ⟨rfl, ⟨c5, c12⟩, fun h => c31 h.2⟩))
      · rw [cp_bf c19]
        exact cp_thr (As := [.int 0]) (rest := []) ⟨hx, hb, hml, hown, hts⟩ (c_X0_needArgument_thr l hst D) (va_cwS 1 hts gX0_right_X0_needArgument rfl rfl rfl (by decide +kernel) ⟨Nat.le_of_ble_eq_true rfl, Nat.le_of_ble_eq_true rfl⟩) hK hI hA hZ hno hlocks rfl hl.1 rfl (Nat.le_of_ble_eq_true rfl) dX0_right_19 ⟨Nat.le_of_ble_eq_true rfl, Nat.le_of_ble_eq_true rfl⟩ rfl (Or.inr (Or.inl ⟨rfl, ⟨c5, c12⟩, fun h => c19 h.1⟩))
    · rw [cp_bf c12]
      exact cp_thr (As := [.int 0]) (rest := []) ⟨hx, hb, hml, hown, hts⟩ (c_X0_needIndex_thr l hst D) (va_cwS 1 hts gX0_right_X0_needIndex rfl rfl rfl (by decide +kernel) ⟨Nat.le_of_ble_eq_true rfl, Nat.le_of_ble_eq_true rfl⟩) hK hI hA hZ hno hlocks rfl hl.1 rfl (Nat.le_of_ble_eq_true rfl) dX0_right_12 ⟨Nat.le_of_ble_eq_true rfl, Nat.le_of_ble_eq_true rfl⟩ rfl (Or.inl ⟨rfl, fun h => c12 h.2⟩)
  · rw [cp_bf c5]
    exact cp_thr (As := [.int 0]) (rest := []) ⟨hx, hb, hml, hown, hts⟩ (c_X0_needIndex_thr l hst D) (va_cwS 1 hts gX0_right_X0_needIndex rfl rfl rfl (by decide +kernel) ⟨Nat.le_of_ble_eq_true rfl, Nat.le_of_ble_eq_true rfl⟩) hK hI hA hZ hno hlocks rfl hl.1 rfl (Nat.le_of_ble_eq_true rfl) dX0_right_5 ⟨Nat.le_of_ble_eq_true rfl, Nat.le_of_ble_eq_true rfl⟩ rfl (Or.inl ⟨rfl, fun h => c5 h.1⟩)
set_option maxHeartbeats 4000000 in
set_option maxRecDepth 100000 in
theorem c_X0_end (l : Launch) (hst : l.stackTraces = false) (D : va_G) (cI : ClassId) (h : Nat) (a : Nat → Nat) (u : cp_M) (x : Int32) (t9 : Int32) (hN1 : cp_cn u 1 16) (hN2 : cp_cn u 2 40) (hN3 : cp_cn u 3 40) : ∀ sz : Nat, vx_Met l yX0_end wsX0_end ({ frames := 7, cells := 1, slots := 6, locals := 139 } : Room) (va_Pc [.ref h, .int x, .int t9] (cp_preZ D [(cI, .int)] (cp_wX cI h a u) sz)) (va_Qi (fun (r : Int32) (u1 : cp_M) => (cp_bw t9 (u 14 0 - 1) 1459) ∧ ∃ g, g < cp_n u 2 ∧ x = nI g ∧ ¬ u 10 g ≤ t9 ∧ r = cp_swarL (cp_msk (cp_cut u g t9) (cp_n (cp_cut u g t9) 3)) ∧ u1 = cp_pe (fun j => cp_inS (nI j) (cp_msk (cp_cut u g t9) (cp_n (cp_cut u g t9) 3))) (cp_sil (cp_cut u g t9) (cp_n (cp_cut u g t9) 3)) (cp_n (cp_sil (cp_cut u g t9) (cp_n (cp_cut u g t9) 3)) 3)) (cp_at D [(cI, .int)] (va_A (cp_wX cI h a u) sz) (cp_wX cI h a)) (va_A (cp_wX cI h a u) sz)) (cp_XC D [(cI, .int)] (cp_wX cI h a) u (fun E => (E = R_iob ∧ ¬ (cp_bw x 0 (u 14 2 - 1))) ∨ (E = R_iae ∧ (cp_bw x 0 (u 14 2 - 1)) ∧ ¬ (cp_bw t9 (u 14 0 - 1) 1459)) ∨ (E = R_ise ∧ (cp_bw t9 (u 14 0 - 1) 1459) ∧ (∃ g, g < cp_n u 2 ∧ x = nI g ∧ u 10 g ≤ t9))) (va_A (cp_wX cI h a u) sz)) 1 6 (va_A (cp_wX cI h a u) sz) := by
  refine cp_MetX (Qk := fun A => va_Qi (fun (r : Int32) (u1 : cp_M) => (cp_bw t9 (u 14 0 - 1) 1459) ∧ ∃ g, g < cp_n u 2 ∧ x = nI g ∧ ¬ u 10 g ≤ t9 ∧ r = cp_swarL (cp_msk (cp_cut u g t9) (cp_n (cp_cut u g t9) 3)) ∧ u1 = cp_pe (fun j => cp_inS (nI j) (cp_msk (cp_cut u g t9) (cp_n (cp_cut u g t9) 3))) (cp_sil (cp_cut u g t9) (cp_n (cp_cut u g t9) 3)) (cp_n (cp_sil (cp_cut u g t9) (cp_n (cp_cut u g t9) 3)) 3)) (cp_at D [(cI, .int)] A (cp_wX cI h a)) A) (XCk := fun A => cp_XC D [(cI, .int)] (cp_wX cI h a) u (fun E => (E = R_iob ∧ ¬ (cp_bw x 0 (u 14 2 - 1))) ∨ (E = R_iae ∧ (cp_bw x 0 (u 14 2 - 1)) ∧ ¬ (cp_bw t9 (u 14 0 - 1) 1459)) ∨ (E = R_ise ∧ (cp_bw t9 (u 14 0 - 1) 1459) ∧ (∃ g, g < cp_n u 2 ∧ x = nI g ∧ u 10 g ≤ t9))) A) (by decide) rfl (Nat.le_of_ble_eq_true rfl) ?_
  intro p e s m args below meth c A hC hA hK hI hZ hno ls hl
  obtain ⟨hx, hb, hml, hown, hts, hr, hlocks⟩ := hC
  have hown : s.vm.findClass RX0 = some m.cls := hown
  have hl : lv_has ls 5 [(0, .ref h), (1, .int x), (2, .int t9)] := hl
  have inW : ∀ w ∈ wsX00, w ∈ wsX0_end := by decide +kernel
  have fl_lastOfRight : Cond.fieldLink RX0 40 "CanticlePress" "lastOfRight" "[I" ∈ wsX0_end := by decide +kernel
  have fl_today : Cond.fieldLink RX0 109 "CanticlePress" "today" "I" ∈ wsX0_end := by decide +kernel
  refine lv_aload_n hx hb dX0_end_0 rfl (lv_at hl 0 rfl) ?_
  refine lv_iload_n hx hb dX0_end_1 rfl (lv_at hl 1 rfl) ?_
  refine cp_cVi0 (wc := cp_wX cI h a) (u := u) (As := [.int x]) (rest := []) ⟨hx, hb, hml, hown, hts⟩ (c_X0_isRight l D cI h a u x) (cwV 1 hts gX0_end_X0_isRight rfl rfl rfl (by decide +kernel) ⟨Nat.le_of_ble_eq_true rfl, Nat.le_of_ble_eq_true rfl⟩) hK hI hA ⟨_, cp_hX _ _ _ _⟩ rfl rfl rfl hl.1 rfl (Nat.le_of_ble_eq_true rfl) dX0_end_2 ⟨Nat.le_of_ble_eq_true rfl, Nat.le_of_ble_eq_true rfl⟩ (fun r2 u2 H locs hp2 hI => ?_)
  obtain ⟨rfl, e9⟩ := hp2
  rw [e9] at hI
  rcases Classical.em (cp_bw x 0 (u 14 2 - 1)) with c5 | c5
  · rw [cp_bt c5]
    refine cp_cSv0 (As := [.int 1]) (rest := []) ⟨hx, hb, hml, hown, hts⟩ (c_X0_needIndex_ok l D) (va_cwS 1 hts gX0_end_X0_needIndex rfl rfl rfl (by decide +kernel) ⟨Nat.le_of_ble_eq_true rfl, Nat.le_of_ble_eq_true rfl⟩) hK hI hA rfl hl.1 rfl (Nat.le_of_ble_eq_true rfl) dX0_end_5 ⟨Nat.le_of_ble_eq_true rfl, Nat.le_of_ble_eq_true rfl⟩ (fun u5 H locs hp5 hI => ?_)
    obtain ⟨g, hg, rfl⟩ := cp_idx hN2 c5
    have hN9 := hN2.2.1
    refine lv_iload_n hx hb dX0_end_8 rfl (lv_at hl 2 rfl) ?_
    refine lv_aload_n hx hb dX0_end_9 rfl (lv_at hl 0 rfl) ?_
    refine cp_get (v := .int (u 14 0)) hx hb hts inW hown hK hI (cp_hX _ _ _ _) rfl 0 (by decide) fl_today rfl rfl dX0_end_10 ?_
    refine lv_iconst (v := 1) hx hb dX0_end_13 (by decide) ?_
    refine lv_isub hx hb dX0_end_14 ?_
    refine lv_sipush (v := 1459) hx hb dX0_end_15 (by decide) ?_
    refine cp_cSi0 (As := [.int t9, .int ((u 14 0) - 1), .int 1459]) (rest := []) ⟨hx, hb, hml, hown, hts⟩ ((c_X0_isBetween l t9 ((u 14 0) - 1) 1459) D) (va_cwS 3 hts gX0_end_X0_isBetween rfl rfl rfl (by decide +kernel) ⟨Nat.le_of_ble_eq_true rfl, Nat.le_of_ble_eq_true rfl⟩) hK hI hA rfl hl.1 rfl (Nat.le_of_ble_eq_true rfl) dX0_end_18 ⟨Nat.le_of_ble_eq_true rfl, Nat.le_of_ble_eq_true rfl⟩ (fun r18 u18 H locs hp18 hI => ?_)
    obtain rfl := hp18
    rcases Classical.em (cp_bw t9 ((u 14 0) - 1) 1459) with c21 | c21
    · rw [cp_bt c21]
      refine cp_cSv0 (As := [.int 1]) (rest := []) ⟨hx, hb, hml, hown, hts⟩ (c_X0_needArgument_ok l D) (va_cwS 1 hts gX0_end_X0_needArgument rfl rfl rfl (by decide +kernel) ⟨Nat.le_of_ble_eq_true rfl, Nat.le_of_ble_eq_true rfl⟩) hK hI hA rfl hl.1 rfl (Nat.le_of_ble_eq_true rfl) dX0_end_21 ⟨Nat.le_of_ble_eq_true rfl, Nat.le_of_ble_eq_true rfl⟩ (fun u21 H locs hp21 hI => ?_)
      refine lv_aload_n hx hb dX0_end_24 rfl (lv_at hl 0 rfl) ?_
      refine cp_get (v := .ref (a 10)) hx hb hts inW hown hK hI (cp_hX _ _ _ _) rfl 13 (by decide) fl_lastOfRight rfl rfl dX0_end_25 ?_
      refine lv_iload_n hx hb dX0_end_28 rfl (lv_at hl 1 rfl) ?_
      refine cp_iald (f := u 10) hx hb hK hI 0 (cp_aX_10 _ _ _ _) rfl (j := g) (cp_ix_n (by omega) (by decide)) dX0_end_29 ?_
      refine lv_iload_n hx hb dX0_end_30 rfl (lv_at hl 2 rfl) ?_
      refine lv_icmp_le (tgt := 38) hx hb dX0_end_31 (by decide) (fun c31 => ?_) (fun c31 => ?_)
      · refine lv_iconst (v := 0) hx hb dX0_end_38 (by decide) ?_
        exact cp_thr (As := [.int 0]) (rest := []) ⟨hx, hb, hml, hown, hts⟩ (c_X0_needState_thr l hst D) (va_cwS 1 hts gX0_end_X0_needState rfl rfl rfl (by decide +kernel) ⟨Nat.le_of_ble_eq_true rfl, Nat.le_of_ble_eq_true rfl⟩) hK hI hA hZ hno hlocks rfl hl.1 rfl (Nat.le_of_ble_eq_true rfl) dX0_end_39 ⟨Nat.le_of_ble_eq_true rfl, Nat.le_of_ble_eq_true rfl⟩ rfl (Or.inr (Or.inr ⟨rfl, c21, g, hg, rfl, c31⟩))
      · refine lv_iconst (v := 1) hx hb dX0_end_34 (by decide) ?_
        refine lv_goto (tgt := 39) hx hb dX0_end_35 (by decide) ?_
        refine cp_cSv0 (As := [.int 1]) (rest := []) ⟨hx, hb, hml, hown, hts⟩ (c_X0_needState_ok l D) (va_cwS 1 hts gX0_end_X0_needState rfl rfl rfl (by decide +kernel) ⟨Nat.le_of_ble_eq_true rfl, Nat.le_of_ble_eq_true rfl⟩) hK hI hA rfl hl.1 rfl (Nat.le_of_ble_eq_true rfl) dX0_end_39 ⟨Nat.le_of_ble_eq_true rfl, Nat.le_of_ble_eq_true rfl⟩ (fun u39 H locs hp39 hI => ?_)
        refine lv_aload_n hx hb dX0_end_42 rfl (lv_at hl 0 rfl) ?_
        refine cp_get (v := .ref (a 10)) hx hb hts inW hown hK hI (cp_hX _ _ _ _) rfl 13 (by decide) fl_lastOfRight rfl rfl dX0_end_43 ?_
        refine lv_iload_n hx hb dX0_end_46 rfl (lv_at hl 1 rfl) ?_
        refine lv_iload_n hx hb dX0_end_47 rfl (lv_at hl 2 rfl) ?_
        refine cp_iast hx hb hK hI 0 (cp_aX_10 _ _ _ _) rfl (j := g) (cp_ix_n (by omega) (by decide)) dX0_end_48 (cp_sX_10 _ _ _ _ _) (fun H locs hI => ?_)
        obtain ⟨u48, eu48⟩ : ∃ z9, z9 = cp_up u 10 (upd (u 10) g t9) := ⟨_, rfl⟩
        rw [← eu48] at hI
        have hu54 : u48 = cp_cut u g t9 := eu48
        rw [hu54] at hI
        have hM1 : cp_cn (cp_cut u g t9) 1 16 := cp_cn_up hN1 (by decide)
        have hM2 : cp_cn (cp_cut u g t9) 2 40 := cp_cn_up hN2 (by decide)
        have hM3 : cp_cn (cp_cut u g t9) 3 40 := cp_cn_up hN3 (by decide)
        refine lv_aload_n hx hb dX0_end_49 rfl (lv_at hl 0 rfl) ?_
        refine cp_cVl0 (wc := cp_wX cI h a) (u := (cp_cut u g t9)) (As := []) (rest := []) ⟨hx, hb, hml, hown, hts⟩ (c_X0_silenceServicesWithoutRight l D cI h a (cp_cut u g t9)  hM2 hM3) (cwV 0 hts gX0_end_X0_silenceServicesWithoutRight rfl rfl rfl (by decide +kernel) ⟨Nat.le_of_ble_eq_true rfl, Nat.le_of_ble_eq_true rfl⟩) hK hI hA ⟨_, cp_hX _ _ _ _⟩ rfl rfl rfl hl.1 rfl (Nat.le_of_ble_eq_true rfl) dX0_end_50 ⟨Nat.le_of_ble_eq_true rfl, Nat.le_of_ble_eq_true rfl⟩ (fun r50 u50 H locs hp50 hI => ?_)
        obtain ⟨rfl, eu50⟩ := hp50
        refine lv_topl (fun x53 ex53 => ?_)
        refine lv_lstore_n (lv' := [(3, .long x53), (0, .ref h), (1, .int (nI g)), (2, .int t9)]) hx hb dX0_end_53 rfl hl (by decide) rfl (fun ls hl => ?_)
        rw [eu50] at hI
        have hs14 := cp_sil_r (cp_cut u g t9) (cp_n (cp_cut u g t9) 3) (k := 14) (by decide)
        obtain rfl := ex53
        refine lv_aload_n hx hb dX0_end_54 rfl (lv_at hl 1 rfl) ?_
        refine lv_lload_n hx hb dX0_end_55 rfl (lv_at hl 0 rfl) ?_
        refine cp_cVv0 (wc := cp_wX cI h a) (u := (cp_sil (cp_cut u g t9) (cp_n (cp_cut u g t9) 3))) (As := [.long (cp_msk (cp_cut u g t9) (cp_n (cp_cut u g t9) 3))]) (rest := []) ⟨hx, hb, hml, hown, hts⟩ (c_X0_planEach l D cI h a (cp_sil (cp_cut u g t9) (cp_n (cp_cut u g t9) 3)) (cp_msk (cp_cut u g t9) (cp_n (cp_cut u g t9) 3)) (cp_cn_c hM1 hs14) (cp_cn_c hM2 hs14) (cp_cn_c hM3 hs14)) (cwV 1 hts gX0_end_X0_planEach rfl rfl rfl (by decide +kernel) ⟨Nat.le_of_ble_eq_true rfl, Nat.le_of_ble_eq_true rfl⟩) hK hI hA ⟨_, cp_hX _ _ _ _⟩ rfl rfl rfl hl.1 rfl (Nat.le_of_ble_eq_true rfl) dX0_end_56 ⟨Nat.le_of_ble_eq_true rfl, Nat.le_of_ble_eq_true rfl⟩ (fun u56 H locs hp56 hI => ?_)
        have eu56 := hp56
        refine lv_lload_n hx hb dX0_end_59 rfl (lv_at hl 0 rfl) ?_
        refine cp_cSi0 (As := [.long (cp_msk (cp_cut u g t9) (cp_n (cp_cut u g t9) 3))]) (rest := []) ⟨hx, hb, hml, hown, hts⟩ ((c_J13_bitCount_95d88 l (cp_msk (cp_cut u g t9) (cp_n (cp_cut u g t9) 3))) D) (va_cwS 1 hts gX0_end_J13_bitCount_95d88 rfl rfl rfl (by decide +kernel) ⟨Nat.le_of_ble_eq_true rfl, Nat.le_of_ble_eq_true rfl⟩) hK hI hA rfl hl.1 rfl (Nat.le_of_ble_eq_true rfl) dX0_end_60 ⟨Nat.le_of_ble_eq_true rfl, Nat.le_of_ble_eq_true rfl⟩ (fun r60 u60 H locs hp60 hI => ?_)
        obtain rfl := hp60
        refine vx_ret ?_
        refine W.widen (k := 1) (n := 6) (Nat.le_of_ble_eq_true rfl) (Nat.le_of_ble_eq_true rfl) ?_
        exact cp_reti (u := u56) (v := (cp_swarL (cp_msk (cp_cut u g t9) (cp_n (cp_cut u g t9) 3)))) hx hb hr hlocks hK hI ⟨c21, g, hg, rfl, c31, rfl, eu56⟩ dX0_end_63
    · rw [cp_bf c21]
      exact cp_thr (As := [.int 0]) (rest := []) ⟨hx, hb, hml, hown, hts⟩ (c_X0_needArgument_thr l hst D) (va_cwS 1 hts gX0_end_X0_needArgument rfl rfl rfl (by decide +kernel) ⟨Nat.le_of_ble_eq_true rfl, Nat.le_of_ble_eq_true rfl⟩) hK hI hA hZ hno hlocks rfl hl.1 rfl (Nat.le_of_ble_eq_true rfl) dX0_end_21 ⟨Nat.le_of_ble_eq_true rfl, Nat.le_of_ble_eq_true rfl⟩ rfl (Or.inr (Or.inl ⟨rfl, c5, c21⟩))
  · rw [cp_bf c5]
    exact cp_thr (As := [.int 0]) (rest := []) ⟨hx, hb, hml, hown, hts⟩ (c_X0_needIndex_thr l hst D) (va_cwS 1 hts gX0_end_X0_needIndex rfl rfl rfl (by decide +kernel) ⟨Nat.le_of_ble_eq_true rfl, Nat.le_of_ble_eq_true rfl⟩) hK hI hA hZ hno hlocks rfl hl.1 rfl (Nat.le_of_ble_eq_true rfl) dX0_end_5 ⟨Nat.le_of_ble_eq_true rfl, Nat.le_of_ble_eq_true rfl⟩ rfl (Or.inl ⟨rfl, c5⟩)
set_option maxHeartbeats 4000000 in
set_option maxRecDepth 100000 in
theorem c_X0_hasRight (l : Launch) (hst : l.stackTraces = false) (D : va_G) (cI : ClassId) (h : Nat) (a : Nat → Nat) (u : cp_M) (x : Int32) (y : Int32) (z : Int32) (hN2 : cp_cn u 2 40) : ∀ sz : Nat, vx_Met l yX0_hasRight wsX0_hasRight ({ frames := 7, cells := 1, slots := 6, locals := 101 } : Room) (va_Pc [.ref h, .int x, .int y, .int z] (cp_preZ D [(cI, .int)] (cp_wX cI h a u) sz)) (va_Qi (fun (r : Int32) (u1 : cp_M) => (cp_bw x 0 (u 14 1 - 1) ∧ cp_bw y 0 1) ∧ (cp_bw z 0 1459) ∧ r = cp_b (cp_may u x y z) ∧ u1 = u) (cp_at D [(cI, .int)] (va_A (cp_wX cI h a u) sz) (cp_wX cI h a)) (va_A (cp_wX cI h a u) sz)) (cp_XC D [(cI, .int)] (cp_wX cI h a) u (fun E => (E = R_iob ∧ ¬ (cp_bw x 0 (u 14 1 - 1) ∧ cp_bw y 0 1)) ∨ (E = R_iae ∧ (cp_bw x 0 (u 14 1 - 1) ∧ cp_bw y 0 1) ∧ ¬ (cp_bw z 0 1459))) (va_A (cp_wX cI h a u) sz)) 1 6 (va_A (cp_wX cI h a u) sz) := by
  refine cp_MetX (Qk := fun A => va_Qi (fun (r : Int32) (u1 : cp_M) => (cp_bw x 0 (u 14 1 - 1) ∧ cp_bw y 0 1) ∧ (cp_bw z 0 1459) ∧ r = cp_b (cp_may u x y z) ∧ u1 = u) (cp_at D [(cI, .int)] A (cp_wX cI h a)) A) (XCk := fun A => cp_XC D [(cI, .int)] (cp_wX cI h a) u (fun E => (E = R_iob ∧ ¬ (cp_bw x 0 (u 14 1 - 1) ∧ cp_bw y 0 1)) ∨ (E = R_iae ∧ (cp_bw x 0 (u 14 1 - 1) ∧ cp_bw y 0 1) ∧ ¬ (cp_bw z 0 1459))) A) (by decide) rfl (Nat.le_of_ble_eq_true rfl) ?_
  intro p e s m args below meth c A hC hA hK hI hZ hno ls hl
  obtain ⟨hx, hb, hml, hown, hts, hr, hlocks⟩ := hC
  have hown : s.vm.findClass RX0 = some m.cls := hown
  have hl : lv_has ls 4 [(0, .ref h), (1, .int x), (2, .int y), (3, .int z)] := hl
  have inW : ∀ w ∈ wsX00, w ∈ wsX0_hasRight := by decide +kernel
  refine lv_aload_n hx hb dX0_hasRight_0 rfl (lv_at hl 0 rfl) ?_
  refine lv_iload_n hx hb dX0_hasRight_1 rfl (lv_at hl 1 rfl) ?_
  refine cp_cVi0 (wc := cp_wX cI h a) (u := u) (As := [.int x]) (rest := []) ⟨hx, hb, hml, hown, hts⟩ (c_X0_isHymn l D cI h a u x) (cwV 1 hts gX0_hasRight_X0_isHymn rfl rfl rfl (by decide +kernel) ⟨Nat.le_of_ble_eq_true rfl, Nat.le_of_ble_eq_true rfl⟩) hK hI hA ⟨_, cp_hX _ _ _ _⟩ rfl rfl rfl hl.1 rfl (Nat.le_of_ble_eq_true rfl) dX0_hasRight_2 ⟨Nat.le_of_ble_eq_true rfl, Nat.le_of_ble_eq_true rfl⟩ (fun r2 u2 H locs hp2 hI => ?_)
  obtain ⟨rfl, e9⟩ := hp2
  rw [e9] at hI
  rcases Classical.em (cp_bw x 0 (u 14 1 - 1)) with c5 | c5
  · rw [cp_bt c5]
    refine cp_cSv0 (As := [.int 1]) (rest := []) ⟨hx, hb, hml, hown, hts⟩ (c_X0_needIndex_ok l D) (va_cwS 1 hts gX0_hasRight_X0_needIndex rfl rfl rfl (by decide +kernel) ⟨Nat.le_of_ble_eq_true rfl, Nat.le_of_ble_eq_true rfl⟩) hK hI hA rfl hl.1 rfl (Nat.le_of_ble_eq_true rfl) dX0_hasRight_5 ⟨Nat.le_of_ble_eq_true rfl, Nat.le_of_ble_eq_true rfl⟩ (fun u5 H locs hp5 hI => ?_)
    refine lv_iload_n hx hb dX0_hasRight_8 rfl (lv_at hl 2 rfl) ?_
    refine cp_cSi0 (As := [.int y]) (rest := []) ⟨hx, hb, hml, hown, hts⟩ ((c_X0_isUse l y) D) (va_cwS 1 hts gX0_hasRight_X0_isUse rfl rfl rfl (by decide +kernel) ⟨Nat.le_of_ble_eq_true rfl, Nat.le_of_ble_eq_true rfl⟩) hK hI hA rfl hl.1 rfl (Nat.le_of_ble_eq_true rfl) dX0_hasRight_9 ⟨Nat.le_of_ble_eq_true rfl, Nat.le_of_ble_eq_true rfl⟩ (fun r9 u9 H locs hp9 hI => ?_)
    obtain rfl := hp9
    rcases Classical.em (cp_bw y 0 1) with c12 | c12
    · rw [cp_bt c12]
      refine cp_cSv0 (As := [.int 1]) (rest := []) ⟨hx, hb, hml, hown, hts⟩ (c_X0_needIndex_ok l D) (va_cwS 1 hts gX0_hasRight_X0_needIndex rfl rfl rfl (by decide +kernel) ⟨Nat.le_of_ble_eq_true rfl, Nat.le_of_ble_eq_true rfl⟩) hK hI hA rfl hl.1 rfl (Nat.le_of_ble_eq_true rfl) dX0_hasRight_12 ⟨Nat.le_of_ble_eq_true rfl, Nat.le_of_ble_eq_true rfl⟩ (fun u12 H locs hp12 hI => ?_)
      refine lv_iload_n hx hb dX0_hasRight_15 rfl (lv_at hl 3 rfl) ?_
      refine cp_cSi0 (As := [.int z]) (rest := []) ⟨hx, hb, hml, hown, hts⟩ ((c_X0_isDay l z) D) (va_cwS 1 hts gX0_hasRight_X0_isDay rfl rfl rfl (by decide +kernel) ⟨Nat.le_of_ble_eq_true rfl, Nat.le_of_ble_eq_true rfl⟩) hK hI hA rfl hl.1 rfl (Nat.le_of_ble_eq_true rfl) dX0_hasRight_16 ⟨Nat.le_of_ble_eq_true rfl, Nat.le_of_ble_eq_true rfl⟩ (fun r16 u16 H locs hp16 hI => ?_)
      obtain rfl := hp16
      rcases Classical.em (cp_bw z 0 1459) with c19 | c19
      · rw [cp_bt c19]
        refine cp_cSv0 (As := [.int 1]) (rest := []) ⟨hx, hb, hml, hown, hts⟩ (c_X0_needArgument_ok l D) (va_cwS 1 hts gX0_hasRight_X0_needArgument rfl rfl rfl (by decide +kernel) ⟨Nat.le_of_ble_eq_true rfl, Nat.le_of_ble_eq_true rfl⟩) hK hI hA rfl hl.1 rfl (Nat.le_of_ble_eq_true rfl) dX0_hasRight_19 ⟨Nat.le_of_ble_eq_true rfl, Nat.le_of_ble_eq_true rfl⟩ (fun u19 H locs hp19 hI => ?_)
        refine lv_aload_n hx hb dX0_hasRight_22 rfl (lv_at hl 0 rfl) ?_
        refine lv_iload_n hx hb dX0_hasRight_23 rfl (lv_at hl 1 rfl) ?_
        refine lv_iload_n hx hb dX0_hasRight_24 rfl (lv_at hl 2 rfl) ?_
        refine lv_iload_n hx hb dX0_hasRight_25 rfl (lv_at hl 3 rfl) ?_
        refine cp_cVi0 (wc := cp_wX cI h a) (u := u) (As := [.int x, .int y, .int z]) (rest := []) ⟨hx, hb, hml, hown, hts⟩ (c_X0_isAllowed l D cI h a u x y z hN2) (cwV 3 hts gX0_hasRight_X0_isAllowed rfl rfl rfl (by decide +kernel) ⟨Nat.le_of_ble_eq_true rfl, Nat.le_of_ble_eq_true rfl⟩) hK hI hA ⟨_, cp_hX _ _ _ _⟩ rfl rfl rfl hl.1 rfl (Nat.le_of_ble_eq_true rfl) dX0_hasRight_26 ⟨Nat.le_of_ble_eq_true rfl, Nat.le_of_ble_eq_true rfl⟩ (fun r26 u26 H locs hp26 hI => ?_)
        obtain ⟨rfl, e9⟩ := hp26
        rw [e9] at hI
        refine vx_ret ?_
        refine W.widen (k := 1) (n := 6) (Nat.le_of_ble_eq_true rfl) (Nat.le_of_ble_eq_true rfl) ?_
        exact cp_retz (u := u) (v := (cp_b (cp_may u x y z))) hx hb hr hlocks hK hI (cp_bn _) ⟨⟨c5, c12⟩, c19, rfl, rfl⟩ dX0_hasRight_29
      · rw [cp_bf c19]
        exact cp_thr (As := [.int 0]) (rest := []) ⟨hx, hb, hml, hown, hts⟩ (c_X0_needArgument_thr l hst D) (va_cwS 1 hts gX0_hasRight_X0_needArgument rfl rfl rfl (by decide +kernel) ⟨Nat.le_of_ble_eq_true rfl, Nat.le_of_ble_eq_true rfl⟩) hK hI hA hZ hno hlocks rfl hl.1 rfl (Nat.le_of_ble_eq_true rfl) dX0_hasRight_19 ⟨Nat.le_of_ble_eq_true rfl, Nat.le_of_ble_eq_true rfl⟩ rfl (Or.inr ⟨rfl, ⟨c5, c12⟩, c19⟩)
    · rw [cp_bf c12]
      exact cp_thr (As := [.int 0]) (rest := []) ⟨hx, hb, hml, hown, hts⟩ (c_X0_needIndex_thr l hst D) (va_cwS 1 hts gX0_hasRight_X0_needIndex rfl rfl rfl (by decide +kernel) ⟨Nat.le_of_ble_eq_true rfl, Nat.le_of_ble_eq_true rfl⟩) hK hI hA hZ hno hlocks rfl hl.1 rfl (Nat.le_of_ble_eq_true rfl) dX0_hasRight_12 ⟨Nat.le_of_ble_eq_true rfl, Nat.le_of_ble_eq_true rfl⟩ rfl (Or.inl ⟨rfl, fun h => c12 h.2⟩)
  · rw [cp_bf c5]
    exact cp_thr (As := [.int 0]) (rest := []) ⟨hx, hb, hml, hown, hts⟩ (c_X0_needIndex_thr l hst D) (va_cwS 1 hts gX0_hasRight_X0_needIndex rfl rfl rfl (by decide +kernel) ⟨Nat.le_of_ble_eq_true rfl, Nat.le_of_ble_eq_true rfl⟩) hK hI hA hZ hno hlocks rfl hl.1 rfl (Nat.le_of_ble_eq_true rfl) dX0_hasRight_5 ⟨Nat.le_of_ble_eq_true rfl, Nat.le_of_ble_eq_true rfl⟩ rfl (Or.inl ⟨rfl, fun h => c5 h.1⟩)
set_option maxHeartbeats 4000000 in
set_option maxRecDepth 100000 in
theorem c_X0_print (l : Launch) (hst : l.stackTraces = false) (D : va_G) (cI : ClassId) (h : Nat) (a : Nat → Nat) (u : cp_M) (x : Int32) (w : Int32) (hN1 : cp_cn u 1 16) (hN2 : cp_cn u 2 40) (hT : cp_td u) : ∀ sz : Nat, vx_Met l yX0_print wsX0_print ({ frames := 7, cells := 1, slots := 6, locals := 101 } : Room) (va_Pc [.ref h, .int x, .int w] (cp_preZ D [(cI, .int)] (cp_wX cI h a u) sz)) (va_Qi (fun (r : Int32) (u1 : cp_M) => (cp_bw w 1 1000) ∧ (cp_may u x 1 (u 14 0)) ∧ ∃ g, g < cp_n u 1 ∧ x = nI g ∧ r = w * (cp_swar (u 4 g) + 1) ∧ u1 = cp_up u 6 (upd (u 6) (g * 4 + cp_n u 0 / 365) (u 6 (g * 4 + cp_n u 0 / 365) + w))) (cp_at D [(cI, .int)] (va_A (cp_wX cI h a u) sz) (cp_wX cI h a)) (va_A (cp_wX cI h a u) sz)) (cp_XC D [(cI, .int)] (cp_wX cI h a) u (fun E => (E = R_iob ∧ ¬ (cp_bw x 0 (u 14 1 - 1))) ∨ (E = R_iae ∧ (cp_bw x 0 (u 14 1 - 1)) ∧ ¬ (cp_bw w 1 1000)) ∨ (E = R_ise ∧ (cp_bw x 0 (u 14 1 - 1)) ∧ (cp_bw w 1 1000) ∧ ¬ (cp_may u x 1 (u 14 0)))) (va_A (cp_wX cI h a u) sz)) 1 6 (va_A (cp_wX cI h a u) sz) := by
  refine cp_MetX (Qk := fun A => va_Qi (fun (r : Int32) (u1 : cp_M) => (cp_bw w 1 1000) ∧ (cp_may u x 1 (u 14 0)) ∧ ∃ g, g < cp_n u 1 ∧ x = nI g ∧ r = w * (cp_swar (u 4 g) + 1) ∧ u1 = cp_up u 6 (upd (u 6) (g * 4 + cp_n u 0 / 365) (u 6 (g * 4 + cp_n u 0 / 365) + w))) (cp_at D [(cI, .int)] A (cp_wX cI h a)) A) (XCk := fun A => cp_XC D [(cI, .int)] (cp_wX cI h a) u (fun E => (E = R_iob ∧ ¬ (cp_bw x 0 (u 14 1 - 1))) ∨ (E = R_iae ∧ (cp_bw x 0 (u 14 1 - 1)) ∧ ¬ (cp_bw w 1 1000)) ∨ (E = R_ise ∧ (cp_bw x 0 (u 14 1 - 1)) ∧ (cp_bw w 1 1000) ∧ ¬ (cp_may u x 1 (u 14 0)))) A) (by decide) rfl (Nat.le_of_ble_eq_true rfl) ?_
  intro p e s m args below meth c A hC hA hK hI hZ hno ls hl
  obtain ⟨hx, hb, hml, hown, hts, hr, hlocks⟩ := hC
  have hown : s.vm.findClass RX0 = some m.cls := hown
  have hl : lv_has ls 3 [(0, .ref h), (1, .int x), (2, .int w)] := hl
  have inW : ∀ w ∈ wsX00, w ∈ wsX0_print := by decide +kernel
  have fl_copiesOfHymnInYear : Cond.fieldLink RX0 28 "CanticlePress" "copiesOfHymnInYear" "[I" ∈ wsX0_print := by decide +kernel
  have fl_today : Cond.fieldLink RX0 109 "CanticlePress" "today" "I" ∈ wsX0_print := by decide +kernel
  refine lv_aload_n hx hb dX0_print_0 rfl (lv_at hl 0 rfl) ?_
  refine lv_iload_n hx hb dX0_print_1 rfl (lv_at hl 1 rfl) ?_
  refine cp_cVi0 (wc := cp_wX cI h a) (u := u) (As := [.int x]) (rest := []) ⟨hx, hb, hml, hown, hts⟩ (c_X0_isHymn l D cI h a u x) (cwV 1 hts gX0_print_X0_isHymn rfl rfl rfl (by decide +kernel) ⟨Nat.le_of_ble_eq_true rfl, Nat.le_of_ble_eq_true rfl⟩) hK hI hA ⟨_, cp_hX _ _ _ _⟩ rfl rfl rfl hl.1 rfl (Nat.le_of_ble_eq_true rfl) dX0_print_2 ⟨Nat.le_of_ble_eq_true rfl, Nat.le_of_ble_eq_true rfl⟩ (fun r2 u2 H locs hp2 hI => ?_)
  obtain ⟨rfl, e9⟩ := hp2
  rw [e9] at hI
  rcases Classical.em (cp_bw x 0 (u 14 1 - 1)) with c5 | c5
  · rw [cp_bt c5]
    refine cp_cSv0 (As := [.int 1]) (rest := []) ⟨hx, hb, hml, hown, hts⟩ (c_X0_needIndex_ok l D) (va_cwS 1 hts gX0_print_X0_needIndex rfl rfl rfl (by decide +kernel) ⟨Nat.le_of_ble_eq_true rfl, Nat.le_of_ble_eq_true rfl⟩) hK hI hA rfl hl.1 rfl (Nat.le_of_ble_eq_true rfl) dX0_print_5 ⟨Nat.le_of_ble_eq_true rfl, Nat.le_of_ble_eq_true rfl⟩ (fun u5 H locs hp5 hI => ?_)
    refine lv_iload_n hx hb dX0_print_8 rfl (lv_at hl 2 rfl) ?_
    refine lv_iconst (v := 1) hx hb dX0_print_9 (by decide) ?_
    refine lv_sipush (v := 1000) hx hb dX0_print_10 (by decide) ?_
    refine cp_cSi0 (As := [.int w, .int 1, .int 1000]) (rest := []) ⟨hx, hb, hml, hown, hts⟩ ((c_X0_isBetween l w 1 1000) D) (va_cwS 3 hts gX0_print_X0_isBetween rfl rfl rfl (by decide +kernel) ⟨Nat.le_of_ble_eq_true rfl, Nat.le_of_ble_eq_true rfl⟩) hK hI hA rfl hl.1 rfl (Nat.le_of_ble_eq_true rfl) dX0_print_13 ⟨Nat.le_of_ble_eq_true rfl, Nat.le_of_ble_eq_true rfl⟩ (fun r13 u13 H locs hp13 hI => ?_)
    obtain rfl := hp13
    rcases Classical.em (cp_bw w 1 1000) with c16 | c16
    · rw [cp_bt c16]
      refine cp_cSv0 (As := [.int 1]) (rest := []) ⟨hx, hb, hml, hown, hts⟩ (c_X0_needArgument_ok l D) (va_cwS 1 hts gX0_print_X0_needArgument rfl rfl rfl (by decide +kernel) ⟨Nat.le_of_ble_eq_true rfl, Nat.le_of_ble_eq_true rfl⟩) hK hI hA rfl hl.1 rfl (Nat.le_of_ble_eq_true rfl) dX0_print_16 ⟨Nat.le_of_ble_eq_true rfl, Nat.le_of_ble_eq_true rfl⟩ (fun u16 H locs hp16 hI => ?_)
      refine lv_aload_n hx hb dX0_print_19 rfl (lv_at hl 0 rfl) ?_
      refine lv_iload_n hx hb dX0_print_20 rfl (lv_at hl 1 rfl) ?_
      refine lv_iconst (v := 1) hx hb dX0_print_21 (by decide) ?_
      refine lv_aload_n hx hb dX0_print_22 rfl (lv_at hl 0 rfl) ?_
      refine cp_get (v := .int (u 14 0)) hx hb hts inW hown hK hI (cp_hX _ _ _ _) rfl 0 (by decide) fl_today rfl rfl dX0_print_23 ?_
      refine cp_cVi0 (wc := cp_wX cI h a) (u := u) (As := [.int x, .int 1, .int (u 14 0)]) (rest := []) ⟨hx, hb, hml, hown, hts⟩ (c_X0_isAllowed l D cI h a u x 1 (u 14 0) hN2) (cwV 3 hts gX0_print_X0_isAllowed rfl rfl rfl (by decide +kernel) ⟨Nat.le_of_ble_eq_true rfl, Nat.le_of_ble_eq_true rfl⟩) hK hI hA ⟨_, cp_hX _ _ _ _⟩ rfl rfl rfl hl.1 rfl (Nat.le_of_ble_eq_true rfl) dX0_print_26 ⟨Nat.le_of_ble_eq_true rfl, Nat.le_of_ble_eq_true rfl⟩ (fun r26 u26 H locs hp26 hI => ?_)
      obtain ⟨rfl, e9⟩ := hp26
      rw [e9] at hI
      rcases Classical.em (cp_may u x 1 (u 14 0)) with c29 | c29
      · rw [cp_bt c29]
        refine cp_cSv0 (As := [.int 1]) (rest := []) ⟨hx, hb, hml, hown, hts⟩ (c_X0_needState_ok l D) (va_cwS 1 hts gX0_print_X0_needState rfl rfl rfl (by decide +kernel) ⟨Nat.le_of_ble_eq_true rfl, Nat.le_of_ble_eq_true rfl⟩) hK hI hA rfl hl.1 rfl (Nat.le_of_ble_eq_true rfl) dX0_print_29 ⟨Nat.le_of_ble_eq_true rfl, Nat.le_of_ble_eq_true rfl⟩ (fun u29 H locs hp29 hI => ?_)
        obtain ⟨g, hg, rfl⟩ := cp_idx hN1 c5
        have hN9 := hN1.2.1
        have hT2 := hT.2
        have hy9 : nI g * 4 + cp_year (u 14 0) = nI (g * 4 + cp_n u 0 / 365) := by rw [hT.1, cp_year_n (by omega)]; exact cp_i4
        refine lv_aload_n hx hb dX0_print_32 rfl (lv_at hl 0 rfl) ?_
        refine cp_get (v := .ref (a 6)) hx hb hts inW hown hK hI (cp_hX _ _ _ _) rfl 8 (by decide) fl_copiesOfHymnInYear rfl rfl dX0_print_33 ?_
        refine lv_iload_n hx hb dX0_print_36 rfl (lv_at hl 1 rfl) ?_
        refine lv_iconst (v := 4) hx hb dX0_print_37 (by decide) ?_
        refine lv_imul hx hb dX0_print_38 ?_
        refine lv_aload_n hx hb dX0_print_39 rfl (lv_at hl 0 rfl) ?_
        refine cp_get (v := .int (u 14 0)) hx hb hts inW hown hK hI (cp_hX _ _ _ _) rfl 0 (by decide) fl_today rfl rfl dX0_print_40 ?_
        refine cp_cSi0 (As := [.int (u 14 0)]) (rest := [.int ((nI g) * 4), .ref (a 6)]) ⟨hx, hb, hml, hown, hts⟩ ((c_X0_yearOf l (u 14 0)) D) (va_cwS 1 hts gX0_print_X0_yearOf rfl rfl rfl (by decide +kernel) ⟨Nat.le_of_ble_eq_true rfl, Nat.le_of_ble_eq_true rfl⟩) hK hI hA rfl hl.1 rfl (Nat.le_of_ble_eq_true rfl) dX0_print_43 ⟨Nat.le_of_ble_eq_true rfl, Nat.le_of_ble_eq_true rfl⟩ (fun r43 u43 H locs hp43 hI => ?_)
        obtain rfl := hp43
        refine lv_iadd hx hb dX0_print_46 ?_
        refine lv_dup2_11 hx hb dX0_print_47 rfl rfl ?_
        refine cp_iald (f := u 6) hx hb hK hI 0 (cp_aX_6 _ _ _ _) rfl (j := (g * 4 + cp_n u 0 / 365)) (cp_ix_e hy9 (by omega) (by decide)) dX0_print_48 ?_
        refine lv_iload_n hx hb dX0_print_49 rfl (lv_at hl 2 rfl) ?_
        refine lv_iadd hx hb dX0_print_50 ?_
        refine cp_iast hx hb hK hI 0 (cp_aX_6 _ _ _ _) rfl (j := (g * 4 + cp_n u 0 / 365)) (cp_ix_e hy9 (by omega) (by decide)) dX0_print_51 (cp_sX_6 _ _ _ _ _) (fun H locs hI => ?_)
        obtain ⟨u51, eu51⟩ : ∃ z9, z9 = cp_up u 6 (upd (u 6) (g * 4 + cp_n u 0 / 365) ((u 6 (g * 4 + cp_n u 0 / 365)) + w)) := ⟨_, rfl⟩
        rw [← eu51] at hI
        refine lv_iload_n hx hb dX0_print_52 rfl (lv_at hl 2 rfl) ?_
        refine lv_aload_n hx hb dX0_print_53 rfl (lv_at hl 0 rfl) ?_
        refine lv_iload_n hx hb dX0_print_54 rfl (lv_at hl 1 rfl) ?_
        refine cp_cVi0 (wc := cp_wX cI h a) (u := u51) (As := [.int (nI g)]) (rest := [.int w]) ⟨hx, hb, hml, hown, hts⟩ (c_X0_pageCount l D cI h a u51 g (by omega)) (cwV 1 hts gX0_print_X0_pageCount rfl rfl rfl (by decide +kernel) ⟨Nat.le_of_ble_eq_true rfl, Nat.le_of_ble_eq_true rfl⟩) hK hI hA ⟨_, cp_hX _ _ _ _⟩ rfl rfl rfl hl.1 rfl (Nat.le_of_ble_eq_true rfl) dX0_print_55 ⟨Nat.le_of_ble_eq_true rfl, Nat.le_of_ble_eq_true rfl⟩ (fun r55 u55 H locs hp55 hI => ?_)
        obtain ⟨rfl, e9⟩ := hp55
        rw [e9] at hI
        refine lv_imul hx hb dX0_print_58 ?_
        refine vx_ret ?_
        refine W.widen (k := 1) (n := 6) (Nat.le_of_ble_eq_true rfl) (Nat.le_of_ble_eq_true rfl) ?_
        exact cp_reti (u := u51) (v := (w * (cp_swar (u51 4 g) + 1))) hx hb hr hlocks hK hI ⟨c16, c29, g, hg, rfl, by rw [eu51]; rfl, eu51⟩ dX0_print_59
      · rw [cp_bf c29]
        exact cp_thr (As := [.int 0]) (rest := []) ⟨hx, hb, hml, hown, hts⟩ (c_X0_needState_thr l hst D) (va_cwS 1 hts gX0_print_X0_needState rfl rfl rfl (by decide +kernel) ⟨Nat.le_of_ble_eq_true rfl, Nat.le_of_ble_eq_true rfl⟩) hK hI hA hZ hno hlocks rfl hl.1 rfl (Nat.le_of_ble_eq_true rfl) dX0_print_29 ⟨Nat.le_of_ble_eq_true rfl, Nat.le_of_ble_eq_true rfl⟩ rfl (Or.inr (Or.inr ⟨rfl, c5, c16, c29⟩))
    · rw [cp_bf c16]
      exact cp_thr (As := [.int 0]) (rest := []) ⟨hx, hb, hml, hown, hts⟩ (c_X0_needArgument_thr l hst D) (va_cwS 1 hts gX0_print_X0_needArgument rfl rfl rfl (by decide +kernel) ⟨Nat.le_of_ble_eq_true rfl, Nat.le_of_ble_eq_true rfl⟩) hK hI hA hZ hno hlocks rfl hl.1 rfl (Nat.le_of_ble_eq_true rfl) dX0_print_16 ⟨Nat.le_of_ble_eq_true rfl, Nat.le_of_ble_eq_true rfl⟩ rfl (Or.inr (Or.inl ⟨rfl, c5, c16⟩))
  · rw [cp_bf c5]
    exact cp_thr (As := [.int 0]) (rest := []) ⟨hx, hb, hml, hown, hts⟩ (c_X0_needIndex_thr l hst D) (va_cwS 1 hts gX0_print_X0_needIndex rfl rfl rfl (by decide +kernel) ⟨Nat.le_of_ble_eq_true rfl, Nat.le_of_ble_eq_true rfl⟩) hK hI hA hZ hno hlocks rfl hl.1 rfl (Nat.le_of_ble_eq_true rfl) dX0_print_5 ⟨Nat.le_of_ble_eq_true rfl, Nat.le_of_ble_eq_true rfl⟩ rfl (Or.inl ⟨rfl, c5⟩)
set_option maxHeartbeats 4000000 in
set_option maxRecDepth 100000 in
theorem c_X0_printed (l : Launch) (hst : l.stackTraces = false) (D : va_G) (cI : ClassId) (h : Nat) (a : Nat → Nat) (u : cp_M) (x : Int32) (y : Int32) (hN1 : cp_cn u 1 16) : ∀ sz : Nat, vx_Met l yX0_printed wsX0_printed ({ frames := 7, cells := 1, slots := 6, locals := 101 } : Room) (va_Pc [.ref h, .int x, .int y] (cp_preZ D [(cI, .int)] (cp_wX cI h a u) sz)) (va_Qi (fun (r : Int32) (u1 : cp_M) => ∃ g k, g < cp_n u 1 ∧ k ≤ 3 ∧ x = nI g ∧ y = nI k ∧ r = u 6 (g * 4 + k) ∧ u1 = u) (cp_at D [(cI, .int)] (va_A (cp_wX cI h a u) sz) (cp_wX cI h a)) (va_A (cp_wX cI h a u) sz)) (cp_XC D [(cI, .int)] (cp_wX cI h a) u (fun E => E = R_iob ∧ ¬ (cp_bw x 0 (u 14 1 - 1) ∧ cp_bw y 0 3)) (va_A (cp_wX cI h a u) sz)) 1 6 (va_A (cp_wX cI h a u) sz) := by
  refine cp_MetX (Qk := fun A => va_Qi (fun (r : Int32) (u1 : cp_M) => ∃ g k, g < cp_n u 1 ∧ k ≤ 3 ∧ x = nI g ∧ y = nI k ∧ r = u 6 (g * 4 + k) ∧ u1 = u) (cp_at D [(cI, .int)] A (cp_wX cI h a)) A) (XCk := fun A => cp_XC D [(cI, .int)] (cp_wX cI h a) u (fun E => E = R_iob ∧ ¬ (cp_bw x 0 (u 14 1 - 1) ∧ cp_bw y 0 3)) A) (by decide) rfl (Nat.le_of_ble_eq_true rfl) ?_
  intro p e s m args below meth c A hC hA hK hI hZ hno ls hl
  obtain ⟨hx, hb, hml, hown, hts, hr, hlocks⟩ := hC
  have hown : s.vm.findClass RX0 = some m.cls := hown
  have hl : lv_has ls 3 [(0, .ref h), (1, .int x), (2, .int y)] := hl
  have inW : ∀ w ∈ wsX00, w ∈ wsX0_printed := by decide +kernel
  have fl_copiesOfHymnInYear : Cond.fieldLink RX0 28 "CanticlePress" "copiesOfHymnInYear" "[I" ∈ wsX0_printed := by decide +kernel
  refine lv_aload_n hx hb dX0_printed_0 rfl (lv_at hl 0 rfl) ?_
  refine lv_iload_n hx hb dX0_printed_1 rfl (lv_at hl 1 rfl) ?_
  refine cp_cVi0 (wc := cp_wX cI h a) (u := u) (As := [.int x]) (rest := []) ⟨hx, hb, hml, hown, hts⟩ (c_X0_isHymn l D cI h a u x) (cwV 1 hts gX0_printed_X0_isHymn rfl rfl rfl (by decide +kernel) ⟨Nat.le_of_ble_eq_true rfl, Nat.le_of_ble_eq_true rfl⟩) hK hI hA ⟨_, cp_hX _ _ _ _⟩ rfl rfl rfl hl.1 rfl (Nat.le_of_ble_eq_true rfl) dX0_printed_2 ⟨Nat.le_of_ble_eq_true rfl, Nat.le_of_ble_eq_true rfl⟩ (fun r2 u2 H locs hp2 hI => ?_)
  obtain ⟨rfl, e9⟩ := hp2
  rw [e9] at hI
  rcases Classical.em (cp_bw x 0 (u 14 1 - 1)) with c5 | c5
  · rw [cp_bt c5]
    refine cp_cSv0 (As := [.int 1]) (rest := []) ⟨hx, hb, hml, hown, hts⟩ (c_X0_needIndex_ok l D) (va_cwS 1 hts gX0_printed_X0_needIndex rfl rfl rfl (by decide +kernel) ⟨Nat.le_of_ble_eq_true rfl, Nat.le_of_ble_eq_true rfl⟩) hK hI hA rfl hl.1 rfl (Nat.le_of_ble_eq_true rfl) dX0_printed_5 ⟨Nat.le_of_ble_eq_true rfl, Nat.le_of_ble_eq_true rfl⟩ (fun u5 H locs hp5 hI => ?_)
    refine lv_iload_n hx hb dX0_printed_8 rfl (lv_at hl 2 rfl) ?_
    refine cp_cSi0 (As := [.int y]) (rest := []) ⟨hx, hb, hml, hown, hts⟩ ((c_X0_isYear l y) D) (va_cwS 1 hts gX0_printed_X0_isYear rfl rfl rfl (by decide +kernel) ⟨Nat.le_of_ble_eq_true rfl, Nat.le_of_ble_eq_true rfl⟩) hK hI hA rfl hl.1 rfl (Nat.le_of_ble_eq_true rfl) dX0_printed_9 ⟨Nat.le_of_ble_eq_true rfl, Nat.le_of_ble_eq_true rfl⟩ (fun r9 u9 H locs hp9 hI => ?_)
    obtain rfl := hp9
    rcases Classical.em (cp_bw y 0 3) with c12 | c12
    · rw [cp_bt c12]
      refine cp_cSv0 (As := [.int 1]) (rest := []) ⟨hx, hb, hml, hown, hts⟩ (c_X0_needIndex_ok l D) (va_cwS 1 hts gX0_printed_X0_needIndex rfl rfl rfl (by decide +kernel) ⟨Nat.le_of_ble_eq_true rfl, Nat.le_of_ble_eq_true rfl⟩) hK hI hA rfl hl.1 rfl (Nat.le_of_ble_eq_true rfl) dX0_printed_12 ⟨Nat.le_of_ble_eq_true rfl, Nat.le_of_ble_eq_true rfl⟩ (fun u12 H locs hp12 hI => ?_)
      obtain ⟨g, hg, rfl⟩ := cp_idx hN1 c5
      have hN9 := hN1.2.1
      obtain ⟨k, hk, rfl⟩ := cp_idc (n := 3) (by decide) c12
      refine lv_aload_n hx hb dX0_printed_15 rfl (lv_at hl 0 rfl) ?_
      refine cp_get (v := .ref (a 6)) hx hb hts inW hown hK hI (cp_hX _ _ _ _) rfl 8 (by decide) fl_copiesOfHymnInYear rfl rfl dX0_printed_16 ?_
      refine lv_iload_n hx hb dX0_printed_19 rfl (lv_at hl 1 rfl) ?_
      refine lv_iconst (v := 4) hx hb dX0_printed_20 (by decide) ?_
      refine lv_imul hx hb dX0_printed_21 ?_
      refine lv_iload_n hx hb dX0_printed_22 rfl (lv_at hl 2 rfl) ?_
      refine lv_iadd hx hb dX0_printed_23 ?_
      refine cp_iald (f := u 6) hx hb hK hI 0 (cp_aX_6 _ _ _ _) rfl (j := (g * 4 + k)) (cp_ix_e cp_i4 (by omega) (by decide)) dX0_printed_24 ?_
      refine vx_ret ?_
      refine W.widen (k := 1) (n := 6) (Nat.le_of_ble_eq_true rfl) (Nat.le_of_ble_eq_true rfl) ?_
      exact cp_reti (u := u) (v := (u 6 (g * 4 + k))) hx hb hr hlocks hK hI ⟨g, k, hg, hk, rfl, rfl, rfl, rfl⟩ dX0_printed_25
    · rw [cp_bf c12]
      exact cp_thr (As := [.int 0]) (rest := []) ⟨hx, hb, hml, hown, hts⟩ (c_X0_needIndex_thr l hst D) (va_cwS 1 hts gX0_printed_X0_needIndex rfl rfl rfl (by decide +kernel) ⟨Nat.le_of_ble_eq_true rfl, Nat.le_of_ble_eq_true rfl⟩) hK hI hA hZ hno hlocks rfl hl.1 rfl (Nat.le_of_ble_eq_true rfl) dX0_printed_12 ⟨Nat.le_of_ble_eq_true rfl, Nat.le_of_ble_eq_true rfl⟩ rfl ⟨rfl, fun h => c12 h.2⟩
  · rw [cp_bf c5]
    exact cp_thr (As := [.int 0]) (rest := []) ⟨hx, hb, hml, hown, hts⟩ (c_X0_needIndex_thr l hst D) (va_cwS 1 hts gX0_printed_X0_needIndex rfl rfl rfl (by decide +kernel) ⟨Nat.le_of_ble_eq_true rfl, Nat.le_of_ble_eq_true rfl⟩) hK hI hA hZ hno hlocks rfl hl.1 rfl (Nat.le_of_ble_eq_true rfl) dX0_printed_5 ⟨Nat.le_of_ble_eq_true rfl, Nat.le_of_ble_eq_true rfl⟩ rfl ⟨rfl, fun h => c5 h.1⟩
set_option maxHeartbeats 4000000 in
set_option maxRecDepth 100000 in
theorem c_X0_learn (l : Launch) (hst : l.stackTraces = false) (D : va_G) (cI : ClassId) (h : Nat) (a : Nat → Nat) (u : cp_M) (ch : Int32) (x : Int32) (hN1 : cp_cn u 1 16) : ∀ sz : Nat, vx_Met l yX0_learn wsX0_learn ({ frames := 7, cells := 1, slots := 6, locals := 101 } : Room) (va_Pc [.ref h, .int ch, .int x] (cp_preZ D [(cI, .int)] (cp_wX cI h a u) sz)) (va_Qi (fun (r : Int32) (u1 : cp_M) => ∃ g, g < cp_n u 1 ∧ x = nI g ∧ cp_bw ch 0 3 ∧ r = cp_b (cp_inS ch (u 5 g ^^^ (1 <<< (ch &&& 31))).toInt64) ∧ u1 = cp_up u 5 (upd (u 5) g (u 5 g ^^^ (1 <<< (ch &&& 31))))) (cp_at D [(cI, .int)] (va_A (cp_wX cI h a u) sz) (cp_wX cI h a)) (va_A (cp_wX cI h a u) sz)) (cp_XC D [(cI, .int)] (cp_wX cI h a) u (fun E => E = R_iob ∧ ¬ (cp_bw ch 0 3 ∧ cp_bw x 0 (u 14 1 - 1))) (va_A (cp_wX cI h a u) sz)) 1 6 (va_A (cp_wX cI h a u) sz) := by
  refine cp_MetX (Qk := fun A => va_Qi (fun (r : Int32) (u1 : cp_M) => ∃ g, g < cp_n u 1 ∧ x = nI g ∧ cp_bw ch 0 3 ∧ r = cp_b (cp_inS ch (u 5 g ^^^ (1 <<< (ch &&& 31))).toInt64) ∧ u1 = cp_up u 5 (upd (u 5) g (u 5 g ^^^ (1 <<< (ch &&& 31))))) (cp_at D [(cI, .int)] A (cp_wX cI h a)) A) (XCk := fun A => cp_XC D [(cI, .int)] (cp_wX cI h a) u (fun E => E = R_iob ∧ ¬ (cp_bw ch 0 3 ∧ cp_bw x 0 (u 14 1 - 1))) A) (by decide) rfl (Nat.le_of_ble_eq_true rfl) ?_
  intro p e s m args below meth c A hC hA hK hI hZ hno ls hl
  obtain ⟨hx, hb, hml, hown, hts, hr, hlocks⟩ := hC
  have hown : s.vm.findClass RX0 = some m.cls := hown
  have hl : lv_has ls 3 [(0, .ref h), (1, .int ch), (2, .int x)] := hl
  have inW : ∀ w ∈ wsX00, w ∈ wsX0_learn := by decide +kernel
  have fl_choirsOfHymn : Cond.fieldLink RX0 25 "CanticlePress" "choirsOfHymn" "[I" ∈ wsX0_learn := by decide +kernel
  refine lv_iload_n hx hb dX0_learn_0 rfl (lv_at hl 1 rfl) ?_
  refine cp_cSi0 (As := [.int ch]) (rest := []) ⟨hx, hb, hml, hown, hts⟩ ((c_X0_isChoir l ch) D) (va_cwS 1 hts gX0_learn_X0_isChoir rfl rfl rfl (by decide +kernel) ⟨Nat.le_of_ble_eq_true rfl, Nat.le_of_ble_eq_true rfl⟩) hK hI hA rfl hl.1 rfl (Nat.le_of_ble_eq_true rfl) dX0_learn_1 ⟨Nat.le_of_ble_eq_true rfl, Nat.le_of_ble_eq_true rfl⟩ (fun r1 u1 H locs hp1 hI => ?_)
  obtain rfl := hp1
  rcases Classical.em (cp_bw ch 0 3) with c4 | c4
  · rw [cp_bt c4]
    refine cp_cSv0 (As := [.int 1]) (rest := []) ⟨hx, hb, hml, hown, hts⟩ (c_X0_needIndex_ok l D) (va_cwS 1 hts gX0_learn_X0_needIndex rfl rfl rfl (by decide +kernel) ⟨Nat.le_of_ble_eq_true rfl, Nat.le_of_ble_eq_true rfl⟩) hK hI hA rfl hl.1 rfl (Nat.le_of_ble_eq_true rfl) dX0_learn_4 ⟨Nat.le_of_ble_eq_true rfl, Nat.le_of_ble_eq_true rfl⟩ (fun u4 H locs hp4 hI => ?_)
    refine lv_aload_n hx hb dX0_learn_7 rfl (lv_at hl 0 rfl) ?_
    refine lv_iload_n hx hb dX0_learn_8 rfl (lv_at hl 2 rfl) ?_
    refine cp_cVi0 (wc := cp_wX cI h a) (u := u) (As := [.int x]) (rest := []) ⟨hx, hb, hml, hown, hts⟩ (c_X0_isHymn l D cI h a u x) (cwV 1 hts gX0_learn_X0_isHymn rfl rfl rfl (by decide +kernel) ⟨Nat.le_of_ble_eq_true rfl, Nat.le_of_ble_eq_true rfl⟩) hK hI hA ⟨_, cp_hX _ _ _ _⟩ rfl rfl rfl hl.1 rfl (Nat.le_of_ble_eq_true rfl) dX0_learn_9 ⟨Nat.le_of_ble_eq_true rfl, Nat.le_of_ble_eq_true rfl⟩ (fun r9 u9 H locs hp9 hI => ?_)
    obtain ⟨rfl, e9⟩ := hp9
    rw [e9] at hI
    rcases Classical.em (cp_bw x 0 (u 14 1 - 1)) with c12 | c12
    · rw [cp_bt c12]
      refine cp_cSv0 (As := [.int 1]) (rest := []) ⟨hx, hb, hml, hown, hts⟩ (c_X0_needIndex_ok l D) (va_cwS 1 hts gX0_learn_X0_needIndex rfl rfl rfl (by decide +kernel) ⟨Nat.le_of_ble_eq_true rfl, Nat.le_of_ble_eq_true rfl⟩) hK hI hA rfl hl.1 rfl (Nat.le_of_ble_eq_true rfl) dX0_learn_12 ⟨Nat.le_of_ble_eq_true rfl, Nat.le_of_ble_eq_true rfl⟩ (fun u12 H locs hp12 hI => ?_)
      obtain ⟨g, hg, rfl⟩ := cp_idx hN1 c12
      have hN9 := hN1.2.1
      refine lv_aload_n hx hb dX0_learn_15 rfl (lv_at hl 0 rfl) ?_
      refine cp_get (v := .ref (a 5)) hx hb hts inW hown hK hI (cp_hX _ _ _ _) rfl 7 (by decide) fl_choirsOfHymn rfl rfl dX0_learn_16 ?_
      refine lv_iload_n hx hb dX0_learn_19 rfl (lv_at hl 2 rfl) ?_
      refine lv_dup2_11 hx hb dX0_learn_20 rfl rfl ?_
      refine cp_iald (f := u 5) hx hb hK hI 0 (cp_aX_5 _ _ _ _) rfl (j := g) (cp_ix_n (by omega) (by decide)) dX0_learn_21 ?_
      refine lv_iconst (v := 1) hx hb dX0_learn_22 (by decide) ?_
      refine lv_iload_n hx hb dX0_learn_23 rfl (lv_at hl 1 rfl) ?_
      refine lv_ishl hx hb dX0_learn_24 ?_
      refine lv_ixor hx hb dX0_learn_25 ?_
      refine cp_iast hx hb hK hI 0 (cp_aX_5 _ _ _ _) rfl (j := g) (cp_ix_n (by omega) (by decide)) dX0_learn_26 (cp_sX_5 _ _ _ _ _) (fun H locs hI => ?_)
      obtain ⟨u26, eu26⟩ : ∃ z9, z9 = cp_up u 5 (upd (u 5) g ((u 5 g) ^^^ (1 <<< (ch &&& 31)))) := ⟨_, rfl⟩
      rw [← eu26] at hI
      refine lv_iload_n hx hb dX0_learn_27 rfl (lv_at hl 1 rfl) ?_
      refine lv_aload_n hx hb dX0_learn_28 rfl (lv_at hl 0 rfl) ?_
      refine cp_get (v := .ref (a 5)) hx hb hts inW hown hK hI (cp_hX _ _ _ _) rfl 7 (by decide) fl_choirsOfHymn rfl rfl dX0_learn_29 ?_
      refine lv_iload_n hx hb dX0_learn_32 rfl (lv_at hl 2 rfl) ?_
      refine cp_iald (f := u26 5) hx hb hK hI 0 (cp_aX_5 _ _ _ _) rfl (j := g) (cp_ix_n (by omega) (by decide)) dX0_learn_33 ?_
      rw [show u26 5 g = u 5 g ^^^ (1 <<< (ch &&& 31)) from by rw [eu26, cp_up_s, cp_upd_s]]
      refine lv_i2l (v := (u 5 g ^^^ (1 <<< (ch &&& 31))).toInt64) hx hb dX0_learn_34 rfl ?_
      refine cp_cSi0 (As := [.int ch, .long ((u 5 g ^^^ (1 <<< (ch &&& 31))).toInt64)]) (rest := []) ⟨hx, hb, hml, hown, hts⟩ ((c_X0_isInSet l ch ((u 5 g ^^^ (1 <<< (ch &&& 31))).toInt64)) D) (va_cwS 2 hts gX0_learn_X0_isInSet rfl rfl rfl (by decide +kernel) ⟨Nat.le_of_ble_eq_true rfl, Nat.le_of_ble_eq_true rfl⟩) hK hI hA rfl hl.1 rfl (Nat.le_of_ble_eq_true rfl) dX0_learn_35 ⟨Nat.le_of_ble_eq_true rfl, Nat.le_of_ble_eq_true rfl⟩ (fun r35 u35 H locs hp35 hI => ?_)
      obtain rfl := hp35
      refine vx_ret ?_
      refine W.widen (k := 1) (n := 6) (Nat.le_of_ble_eq_true rfl) (Nat.le_of_ble_eq_true rfl) ?_
      exact cp_retz (u := u26) (v := (cp_b (cp_inS ch ((u 5 g ^^^ (1 <<< (ch &&& 31))).toInt64)))) hx hb hr hlocks hK hI (cp_bn _) ⟨g, hg, rfl, c4, rfl, eu26⟩ dX0_learn_38
    · rw [cp_bf c12]
      exact cp_thr (As := [.int 0]) (rest := []) ⟨hx, hb, hml, hown, hts⟩ (c_X0_needIndex_thr l hst D) (va_cwS 1 hts gX0_learn_X0_needIndex rfl rfl rfl (by decide +kernel) ⟨Nat.le_of_ble_eq_true rfl, Nat.le_of_ble_eq_true rfl⟩) hK hI hA hZ hno hlocks rfl hl.1 rfl (Nat.le_of_ble_eq_true rfl) dX0_learn_12 ⟨Nat.le_of_ble_eq_true rfl, Nat.le_of_ble_eq_true rfl⟩ rfl ⟨rfl, fun h => c12 h.2⟩
  · rw [cp_bf c4]
    exact cp_thr (As := [.int 0]) (rest := []) ⟨hx, hb, hml, hown, hts⟩ (c_X0_needIndex_thr l hst D) (va_cwS 1 hts gX0_learn_X0_needIndex rfl rfl rfl (by decide +kernel) ⟨Nat.le_of_ble_eq_true rfl, Nat.le_of_ble_eq_true rfl⟩) hK hI hA hZ hno hlocks rfl hl.1 rfl (Nat.le_of_ble_eq_true rfl) dX0_learn_4 ⟨Nat.le_of_ble_eq_true rfl, Nat.le_of_ble_eq_true rfl⟩ rfl ⟨rfl, fun h => c4 h.1⟩
set_option maxHeartbeats 4000000 in
set_option maxRecDepth 100000 in
theorem c_X0_service (l : Launch) (hst : l.stackTraces = false) (D : va_G) (cI : ClassId) (h : Nat) (a : Nat → Nat) (u : cp_M) (ch : Int32) (z : Int32) (hN1 : cp_cn u 1 16) (hN2 : cp_cn u 2 40) (hN3 : cp_cn u 3 40) : ∀ sz : Nat, vx_Met l yX0_service wsX0_service ({ frames := 7, cells := 1, slots := 6, locals := 116 } : Room) (va_Pc [.ref h, .int ch, .int z] (cp_preZ D [(cI, .int)] (cp_wX cI h a u) sz)) (va_Qi (fun (r : Int32) (u1 : cp_M) => (cp_bw ch 0 3) ∧ (cp_bw z (u 14 0) 1459) ∧ (¬ (40 : Int32) ≤ u 14 3 ∧ ¬ cp_hasS u ch z) ∧ r = u 14 3 ∧ u1 = cp_plan (cp_addS u ch z) (cp_n u 3)) (cp_at D [(cI, .int)] (va_A (cp_wX cI h a u) sz) (cp_wX cI h a)) (va_A (cp_wX cI h a u) sz)) (cp_XC D [(cI, .int)] (cp_wX cI h a) u (fun E => (E = R_iob ∧ ¬ (cp_bw ch 0 3)) ∨ (E = R_iae ∧ (cp_bw ch 0 3) ∧ ¬ (cp_bw z (u 14 0) 1459)) ∨ (E = R_ise ∧ (cp_bw ch 0 3) ∧ (cp_bw z (u 14 0) 1459) ∧ ¬ (¬ (40 : Int32) ≤ u 14 3 ∧ ¬ cp_hasS u ch z))) (va_A (cp_wX cI h a u) sz)) 1 6 (va_A (cp_wX cI h a u) sz) := by
  refine cp_MetX (Qk := fun A => va_Qi (fun (r : Int32) (u1 : cp_M) => (cp_bw ch 0 3) ∧ (cp_bw z (u 14 0) 1459) ∧ (¬ (40 : Int32) ≤ u 14 3 ∧ ¬ cp_hasS u ch z) ∧ r = u 14 3 ∧ u1 = cp_plan (cp_addS u ch z) (cp_n u 3)) (cp_at D [(cI, .int)] A (cp_wX cI h a)) A) (XCk := fun A => cp_XC D [(cI, .int)] (cp_wX cI h a) u (fun E => (E = R_iob ∧ ¬ (cp_bw ch 0 3)) ∨ (E = R_iae ∧ (cp_bw ch 0 3) ∧ ¬ (cp_bw z (u 14 0) 1459)) ∨ (E = R_ise ∧ (cp_bw ch 0 3) ∧ (cp_bw z (u 14 0) 1459) ∧ ¬ (¬ (40 : Int32) ≤ u 14 3 ∧ ¬ cp_hasS u ch z))) A) (by decide) rfl (Nat.le_of_ble_eq_true rfl) ?_
  intro p e s m args below meth c A hC hA hK hI hZ hno ls hl
  obtain ⟨hx, hb, hml, hown, hts, hr, hlocks⟩ := hC
  have hown : s.vm.findClass RX0 = some m.cls := hown
  have hl : lv_has ls 4 [(0, .ref h), (1, .int ch), (2, .int z)] := hl
  have inW : ∀ w ∈ wsX00, w ∈ wsX0_service := by decide +kernel
  have fl_choirOfService : Cond.fieldLink RX0 43 "CanticlePress" "choirOfService" "[I" ∈ wsX0_service := by decide +kernel
  have fl_dayOfService : Cond.fieldLink RX0 46 "CanticlePress" "dayOfService" "[I" ∈ wsX0_service := by decide +kernel
  have fl_serviceCount : Cond.fieldLink RX0 137 "CanticlePress" "serviceCount" "I" ∈ wsX0_service := by decide +kernel
  have fl_today : Cond.fieldLink RX0 109 "CanticlePress" "today" "I" ∈ wsX0_service := by decide +kernel
  refine lv_iload_n hx hb dX0_service_0 rfl (lv_at hl 1 rfl) ?_
  refine cp_cSi0 (As := [.int ch]) (rest := []) ⟨hx, hb, hml, hown, hts⟩ ((c_X0_isChoir l ch) D) (va_cwS 1 hts gX0_service_X0_isChoir rfl rfl rfl (by decide +kernel) ⟨Nat.le_of_ble_eq_true rfl, Nat.le_of_ble_eq_true rfl⟩) hK hI hA rfl hl.1 rfl (Nat.le_of_ble_eq_true rfl) dX0_service_1 ⟨Nat.le_of_ble_eq_true rfl, Nat.le_of_ble_eq_true rfl⟩ (fun r1 u1 H locs hp1 hI => ?_)
  obtain rfl := hp1
  rcases Classical.em (cp_bw ch 0 3) with c4 | c4
  · rw [cp_bt c4]
    refine cp_cSv0 (As := [.int 1]) (rest := []) ⟨hx, hb, hml, hown, hts⟩ (c_X0_needIndex_ok l D) (va_cwS 1 hts gX0_service_X0_needIndex rfl rfl rfl (by decide +kernel) ⟨Nat.le_of_ble_eq_true rfl, Nat.le_of_ble_eq_true rfl⟩) hK hI hA rfl hl.1 rfl (Nat.le_of_ble_eq_true rfl) dX0_service_4 ⟨Nat.le_of_ble_eq_true rfl, Nat.le_of_ble_eq_true rfl⟩ (fun u4 H locs hp4 hI => ?_)
    refine lv_iload_n hx hb dX0_service_7 rfl (lv_at hl 2 rfl) ?_
    refine lv_aload_n hx hb dX0_service_8 rfl (lv_at hl 0 rfl) ?_
    refine cp_get (v := .int (u 14 0)) hx hb hts inW hown hK hI (cp_hX _ _ _ _) rfl 0 (by decide) fl_today rfl rfl dX0_service_9 ?_
    refine lv_sipush (v := 1459) hx hb dX0_service_12 (by decide) ?_
    refine cp_cSi0 (As := [.int z, .int (u 14 0), .int 1459]) (rest := []) ⟨hx, hb, hml, hown, hts⟩ ((c_X0_isBetween l z (u 14 0) 1459) D) (va_cwS 3 hts gX0_service_X0_isBetween rfl rfl rfl (by decide +kernel) ⟨Nat.le_of_ble_eq_true rfl, Nat.le_of_ble_eq_true rfl⟩) hK hI hA rfl hl.1 rfl (Nat.le_of_ble_eq_true rfl) dX0_service_15 ⟨Nat.le_of_ble_eq_true rfl, Nat.le_of_ble_eq_true rfl⟩ (fun r15 u15 H locs hp15 hI => ?_)
    obtain rfl := hp15
    rcases Classical.em (cp_bw z (u 14 0) 1459) with c18 | c18
    · rw [cp_bt c18]
      refine cp_cSv0 (As := [.int 1]) (rest := []) ⟨hx, hb, hml, hown, hts⟩ (c_X0_needArgument_ok l D) (va_cwS 1 hts gX0_service_X0_needArgument rfl rfl rfl (by decide +kernel) ⟨Nat.le_of_ble_eq_true rfl, Nat.le_of_ble_eq_true rfl⟩) hK hI hA rfl hl.1 rfl (Nat.le_of_ble_eq_true rfl) dX0_service_18 ⟨Nat.le_of_ble_eq_true rfl, Nat.le_of_ble_eq_true rfl⟩ (fun u18 H locs hp18 hI => ?_)
      refine lv_aload_n hx hb dX0_service_21 rfl (lv_at hl 0 rfl) ?_
      refine cp_get (v := .int (u 14 3)) hx hb hts inW hown hK hI (cp_hX _ _ _ _) rfl 14 (by decide) fl_serviceCount rfl rfl dX0_service_22 ?_
      refine lv_bipush (v := 40) hx hb dX0_service_25 (by decide) ?_
      refine lv_icmp_ge (tgt := 34) hx hb dX0_service_27 (by decide) (fun c27 => ?_) (fun c27 => ?_)
      · refine lv_iconst (v := 0) hx hb dX0_service_34 (by decide) ?_
        exact cp_thr (As := [.int 0]) (rest := []) ⟨hx, hb, hml, hown, hts⟩ (c_X0_needState_thr l hst D) (va_cwS 1 hts gX0_service_X0_needState rfl rfl rfl (by decide +kernel) ⟨Nat.le_of_ble_eq_true rfl, Nat.le_of_ble_eq_true rfl⟩) hK hI hA hZ hno hlocks rfl hl.1 rfl (Nat.le_of_ble_eq_true rfl) dX0_service_35 ⟨Nat.le_of_ble_eq_true rfl, Nat.le_of_ble_eq_true rfl⟩ rfl (Or.inr (Or.inr ⟨rfl, c4, c18, fun h => h.1 c27⟩))
      · refine lv_iconst (v := 1) hx hb dX0_service_30 (by decide) ?_
        refine lv_goto (tgt := 35) hx hb dX0_service_31 (by decide) ?_
        refine cp_cSv0 (As := [.int 1]) (rest := []) ⟨hx, hb, hml, hown, hts⟩ (c_X0_needState_ok l D) (va_cwS 1 hts gX0_service_X0_needState rfl rfl rfl (by decide +kernel) ⟨Nat.le_of_ble_eq_true rfl, Nat.le_of_ble_eq_true rfl⟩) hK hI hA rfl hl.1 rfl (Nat.le_of_ble_eq_true rfl) dX0_service_35 ⟨Nat.le_of_ble_eq_true rfl, Nat.le_of_ble_eq_true rfl⟩ (fun u35 H locs hp35 hI => ?_)
        refine lv_aload_n hx hb dX0_service_38 rfl (lv_at hl 0 rfl) ?_
        refine lv_iload_n hx hb dX0_service_39 rfl (lv_at hl 1 rfl) ?_
        refine lv_iload_n hx hb dX0_service_40 rfl (lv_at hl 2 rfl) ?_
        refine cp_cVi0 (wc := cp_wX cI h a) (u := u) (As := [.int ch, .int z]) (rest := []) ⟨hx, hb, hml, hown, hts⟩ (c_X0_hasServiceOn l D cI h a u ch z hN3) (cwV 2 hts gX0_service_X0_hasServiceOn rfl rfl rfl (by decide +kernel) ⟨Nat.le_of_ble_eq_true rfl, Nat.le_of_ble_eq_true rfl⟩) hK hI hA ⟨_, cp_hX _ _ _ _⟩ rfl rfl rfl hl.1 rfl (Nat.le_of_ble_eq_true rfl) dX0_service_41 ⟨Nat.le_of_ble_eq_true rfl, Nat.le_of_ble_eq_true rfl⟩ (fun r41 u41 H locs hp41 hI => ?_)
        obtain ⟨rfl, e9⟩ := hp41
        rw [e9] at hI
        refine lv_if_ne (tgt := 51) hx hb dX0_service_44 (by decide) (fun c44 => ?_) (fun c44 => ?_)
        · have c44 := Classical.not_not.mp (fun h9 => c44 (cp_b0.mpr h9))
          refine lv_iconst (v := 0) hx hb dX0_service_51 (by decide) ?_
          exact cp_thr (As := [.int 0]) (rest := []) ⟨hx, hb, hml, hown, hts⟩ (c_X0_needState_thr l hst D) (va_cwS 1 hts gX0_service_X0_needState rfl rfl rfl (by decide +kernel) ⟨Nat.le_of_ble_eq_true rfl, Nat.le_of_ble_eq_true rfl⟩) hK hI hA hZ hno hlocks rfl hl.1 rfl (Nat.le_of_ble_eq_true rfl) dX0_service_52 ⟨Nat.le_of_ble_eq_true rfl, Nat.le_of_ble_eq_true rfl⟩ rfl (Or.inr (Or.inr ⟨rfl, c4, c18, fun h => h.2 c44⟩))
        · have c44 := cp_b0.mp c44
          refine lv_iconst (v := 1) hx hb dX0_service_47 (by decide) ?_
          refine lv_goto (tgt := 52) hx hb dX0_service_48 (by decide) ?_
          refine cp_cSv0 (As := [.int 1]) (rest := []) ⟨hx, hb, hml, hown, hts⟩ (c_X0_needState_ok l D) (va_cwS 1 hts gX0_service_X0_needState rfl rfl rfl (by decide +kernel) ⟨Nat.le_of_ble_eq_true rfl, Nat.le_of_ble_eq_true rfl⟩) hK hI hA rfl hl.1 rfl (Nat.le_of_ble_eq_true rfl) dX0_service_52 ⟨Nat.le_of_ble_eq_true rfl, Nat.le_of_ble_eq_true rfl⟩ (fun u52 H locs hp52 hI => ?_)
          have hN9 := hN3.2.1
          have hj16 : cp_n u 3 < 40 := by rcases Nat.lt_or_ge (cp_n u 3) 40 with q | q; exact q; exact absurd (by rw [hN3.1]; exact nI_le (a := 40) q (by omega)) c27
          refine lv_aload_n hx hb dX0_service_55 rfl (lv_at hl 0 rfl) ?_
          refine cp_get (v := .int (u 14 3)) hx hb hts inW hown hK hI (cp_hX _ _ _ _) rfl 14 (by decide) fl_serviceCount rfl rfl dX0_service_56 ?_
          refine lv_topi (fun x59 ex59 => ?_)
          refine lv_istore_n (lv' := [(3, .int x59), (0, .ref h), (1, .int ch), (2, .int z)]) hx hb dX0_service_59 rfl hl (by decide) rfl (fun ls hl => ?_)
          obtain ⟨j, hj, rfl⟩ : ∃ j, j = cp_n u 3 ∧ x59 = nI j := ⟨_, rfl, ex59.trans hN3.1⟩
          refine lv_aload_n hx hb dX0_service_60 rfl (lv_at hl 1 rfl) ?_
          refine cp_get (v := .ref (a 11)) hx hb hts inW hown hK hI (cp_hX _ _ _ _) rfl 15 (by decide) fl_choirOfService rfl rfl dX0_service_61 ?_
          refine lv_iload_n hx hb dX0_service_64 rfl (lv_at hl 0 rfl) ?_
          refine lv_iload_n hx hb dX0_service_65 rfl (lv_at hl 2 rfl) ?_
          refine cp_iast hx hb hK hI 0 (cp_aX_11 _ _ _ _) rfl (j := j) (cp_ix_n (by omega) (by decide)) dX0_service_66 (cp_sX_11 _ _ _ _ _) (fun H locs hI => ?_)
          obtain ⟨u66, eu66⟩ : ∃ z9, z9 = cp_up u 11 (upd (u 11) j ch) := ⟨_, rfl⟩
          rw [← eu66] at hI
          refine lv_aload_n hx hb dX0_service_67 rfl (lv_at hl 1 rfl) ?_
          refine cp_get (v := .ref (a 12)) hx hb hts inW hown hK hI (cp_hX _ _ _ _) rfl 16 (by decide) fl_dayOfService rfl rfl dX0_service_68 ?_
          refine lv_iload_n hx hb dX0_service_71 rfl (lv_at hl 0 rfl) ?_
          refine lv_iload_n hx hb dX0_service_72 rfl (lv_at hl 3 rfl) ?_
          refine cp_iast hx hb hK hI 0 (cp_aX_12 _ _ _ _) rfl (j := j) (cp_ix_n (by omega) (by decide)) dX0_service_73 (cp_sX_12 _ _ _ _ _) (fun H locs hI => ?_)
          obtain ⟨u73, eu73⟩ : ∃ z9, z9 = cp_up u66 12 (upd (u66 12) j z) := ⟨_, rfl⟩
          rw [← eu73] at hI
          refine lv_aload_n hx hb dX0_service_74 rfl (lv_at hl 1 rfl) ?_
          refine lv_dup hx hb dX0_service_75 rfl ?_
          refine cp_get (v := .int (u73 14 3)) hx hb hts inW hown hK hI (cp_hX _ _ _ _) rfl 14 (by decide) fl_serviceCount rfl rfl dX0_service_76 ?_
          refine lv_iconst (v := 1) hx hb dX0_service_79 (by decide) ?_
          refine lv_iadd hx hb dX0_service_80 ?_
          refine cp_puti hx hb hts inW tyX0 tyX0_ok nmX0 hown hK hI (cp_hX _ _ _ _) rfl 14 (by decide) fl_serviceCount rfl rfl (by decide +kernel) (Nat.le_of_ble_eq_true rfl) dX0_service_81 (cp_iX_3 _ _ _ _ _) (fun H locs hI => ?_)
          obtain ⟨u81, eu81⟩ : ∃ z9, z9 = cp_up u73 14 (upd (u73 14) 3 ((u73 14 3) + 1)) := ⟨_, rfl⟩
          rw [← eu81] at hI
          have hu81 : u81 = cp_addS u ch z := by subst eu81; subst eu73; subst eu66; subst hj; rfl
          rw [hu81] at hI
          have hM1 : cp_cn (cp_addS u ch z) 1 16 := cp_cn_of (n := cp_n u 1) hN1.1 hN1.2.1 (by decide)
          have hM2 : cp_cn (cp_addS u ch z) 2 40 := cp_cn_of (n := cp_n u 2) hN2.1 hN2.2.1 (by decide)
          have hM3 : cp_cn (cp_addS u ch z) 3 40 := cp_cn_of (n := cp_n u 3 + 1) (show u 14 3 + 1 = _ from by rw [hN3.1]; exact nI_1 _) (by omega) (by decide)
          refine lv_aload_n hx hb dX0_service_84 rfl (lv_at hl 1 rfl) ?_
          refine lv_iload_n hx hb dX0_service_85 rfl (lv_at hl 0 rfl) ?_
          refine cp_cVv0 (wc := cp_wX cI h a) (u := (cp_addS u ch z)) (As := [.int (nI j)]) (rest := []) ⟨hx, hb, hml, hown, hts⟩ (c_X0_planAnew l D cI h a (cp_addS u ch z) j (by omega) hM1 hM2 hM3) (cwV 1 hts gX0_service_X0_planAnew rfl rfl rfl (by decide +kernel) ⟨Nat.le_of_ble_eq_true rfl, Nat.le_of_ble_eq_true rfl⟩) hK hI hA ⟨_, cp_hX _ _ _ _⟩ rfl rfl rfl hl.1 rfl (Nat.le_of_ble_eq_true rfl) dX0_service_86 ⟨Nat.le_of_ble_eq_true rfl, Nat.le_of_ble_eq_true rfl⟩ (fun u86 H locs hp86 hI => ?_)
          have eu86 := hp86
          refine lv_iload_n hx hb dX0_service_89 rfl (lv_at hl 0 rfl) ?_
          refine vx_ret ?_
          refine W.widen (k := 1) (n := 6) (Nat.le_of_ble_eq_true rfl) (Nat.le_of_ble_eq_true rfl) ?_
          exact cp_reti (u := u86) (v := (nI j)) hx hb hr hlocks hK hI ⟨c4, c18, ⟨c27, c44⟩, by rw [hj]; exact hN3.1.symm, by rw [eu86, hj]⟩ dX0_service_90
    · rw [cp_bf c18]
      exact cp_thr (As := [.int 0]) (rest := []) ⟨hx, hb, hml, hown, hts⟩ (c_X0_needArgument_thr l hst D) (va_cwS 1 hts gX0_service_X0_needArgument rfl rfl rfl (by decide +kernel) ⟨Nat.le_of_ble_eq_true rfl, Nat.le_of_ble_eq_true rfl⟩) hK hI hA hZ hno hlocks rfl hl.1 rfl (Nat.le_of_ble_eq_true rfl) dX0_service_18 ⟨Nat.le_of_ble_eq_true rfl, Nat.le_of_ble_eq_true rfl⟩ rfl (Or.inr (Or.inl ⟨rfl, c4, c18⟩))
  · rw [cp_bf c4]
    exact cp_thr (As := [.int 0]) (rest := []) ⟨hx, hb, hml, hown, hts⟩ (c_X0_needIndex_thr l hst D) (va_cwS 1 hts gX0_service_X0_needIndex rfl rfl rfl (by decide +kernel) ⟨Nat.le_of_ble_eq_true rfl, Nat.le_of_ble_eq_true rfl⟩) hK hI hA hZ hno hlocks rfl hl.1 rfl (Nat.le_of_ble_eq_true rfl) dX0_service_4 ⟨Nat.le_of_ble_eq_true rfl, Nat.le_of_ble_eq_true rfl⟩ rfl (Or.inl ⟨rfl, c4⟩)
set_option maxHeartbeats 4000000 in
set_option maxRecDepth 100000 in
theorem c_X0_plan (l : Launch) (hst : l.stackTraces = false) (D : va_G) (cI : ClassId) (h : Nat) (a : Nat → Nat) (u : cp_M) (x : Int32) (hN1 : cp_cn u 1 16) (hN2 : cp_cn u 2 40) (hN3 : cp_cn u 3 40) : ∀ sz : Nat, vx_Met l yX0_plan wsX0_plan ({ frames := 7, cells := 1, slots := 6, locals := 116 } : Room) (va_Pc [.ref h, .int x] (cp_preZ D [(cI, .int)] (cp_wX cI h a u) sz)) (va_Qi (fun (r : Int32) (u1 : cp_M) => ∃ g, g < cp_n u 3 ∧ x = nI g ∧ ¬ u 12 g < u 14 0 ∧ r = cp_plan u g 13 g ∧ u1 = cp_plan u g) (cp_at D [(cI, .int)] (va_A (cp_wX cI h a u) sz) (cp_wX cI h a)) (va_A (cp_wX cI h a u) sz)) (cp_XC D [(cI, .int)] (cp_wX cI h a) u (fun E => (E = R_iob ∧ ¬ (cp_bw x 0 (u 14 3 - 1))) ∨ (E = R_ise ∧ ∃ g, g < cp_n u 3 ∧ x = nI g ∧ u 12 g < u 14 0)) (va_A (cp_wX cI h a u) sz)) 1 6 (va_A (cp_wX cI h a u) sz) := by
  refine cp_MetX (Qk := fun A => va_Qi (fun (r : Int32) (u1 : cp_M) => ∃ g, g < cp_n u 3 ∧ x = nI g ∧ ¬ u 12 g < u 14 0 ∧ r = cp_plan u g 13 g ∧ u1 = cp_plan u g) (cp_at D [(cI, .int)] A (cp_wX cI h a)) A) (XCk := fun A => cp_XC D [(cI, .int)] (cp_wX cI h a) u (fun E => (E = R_iob ∧ ¬ (cp_bw x 0 (u 14 3 - 1))) ∨ (E = R_ise ∧ ∃ g, g < cp_n u 3 ∧ x = nI g ∧ u 12 g < u 14 0)) A) (by decide) rfl (Nat.le_of_ble_eq_true rfl) ?_
  intro p e s m args below meth c A hC hA hK hI hZ hno ls hl
  obtain ⟨hx, hb, hml, hown, hts, hr, hlocks⟩ := hC
  have hown : s.vm.findClass RX0 = some m.cls := hown
  have hl : lv_has ls 2 [(0, .ref h), (1, .int x)] := hl
  have inW : ∀ w ∈ wsX00, w ∈ wsX0_plan := by decide +kernel
  have fl_dayOfService : Cond.fieldLink RX0 46 "CanticlePress" "dayOfService" "[I" ∈ wsX0_plan := by decide +kernel
  have fl_hymnOfService : Cond.fieldLink RX0 49 "CanticlePress" "hymnOfService" "[I" ∈ wsX0_plan := by decide +kernel
  have fl_today : Cond.fieldLink RX0 109 "CanticlePress" "today" "I" ∈ wsX0_plan := by decide +kernel
  refine lv_aload_n hx hb dX0_plan_0 rfl (lv_at hl 0 rfl) ?_
  refine lv_iload_n hx hb dX0_plan_1 rfl (lv_at hl 1 rfl) ?_
  refine cp_cVi0 (wc := cp_wX cI h a) (u := u) (As := [.int x]) (rest := []) ⟨hx, hb, hml, hown, hts⟩ (c_X0_isService l D cI h a u x) (cwV 1 hts gX0_plan_X0_isService rfl rfl rfl (by decide +kernel) ⟨Nat.le_of_ble_eq_true rfl, Nat.le_of_ble_eq_true rfl⟩) hK hI hA ⟨_, cp_hX _ _ _ _⟩ rfl rfl rfl hl.1 rfl (Nat.le_of_ble_eq_true rfl) dX0_plan_2 ⟨Nat.le_of_ble_eq_true rfl, Nat.le_of_ble_eq_true rfl⟩ (fun r2 u2 H locs hp2 hI => ?_)
  obtain ⟨rfl, e9⟩ := hp2
  rw [e9] at hI
  rcases Classical.em (cp_bw x 0 (u 14 3 - 1)) with c5 | c5
  · rw [cp_bt c5]
    refine cp_cSv0 (As := [.int 1]) (rest := []) ⟨hx, hb, hml, hown, hts⟩ (c_X0_needIndex_ok l D) (va_cwS 1 hts gX0_plan_X0_needIndex rfl rfl rfl (by decide +kernel) ⟨Nat.le_of_ble_eq_true rfl, Nat.le_of_ble_eq_true rfl⟩) hK hI hA rfl hl.1 rfl (Nat.le_of_ble_eq_true rfl) dX0_plan_5 ⟨Nat.le_of_ble_eq_true rfl, Nat.le_of_ble_eq_true rfl⟩ (fun u5 H locs hp5 hI => ?_)
    obtain ⟨g, hg, rfl⟩ := cp_idx hN3 c5
    have hN9 := hN3.2.1
    refine lv_aload_n hx hb dX0_plan_8 rfl (lv_at hl 0 rfl) ?_
    refine cp_get (v := .ref (a 12)) hx hb hts inW hown hK hI (cp_hX _ _ _ _) rfl 16 (by decide) fl_dayOfService rfl rfl dX0_plan_9 ?_
    refine lv_iload_n hx hb dX0_plan_12 rfl (lv_at hl 1 rfl) ?_
    refine cp_iald (f := u 12) hx hb hK hI 0 (cp_aX_12 _ _ _ _) rfl (j := g) (cp_ix_n (by omega) (by decide)) dX0_plan_13 ?_
    refine lv_aload_n hx hb dX0_plan_14 rfl (lv_at hl 0 rfl) ?_
    refine cp_get (v := .int (u 14 0)) hx hb hts inW hown hK hI (cp_hX _ _ _ _) rfl 0 (by decide) fl_today rfl rfl dX0_plan_15 ?_
    refine lv_icmp_lt (tgt := 25) hx hb dX0_plan_18 (by decide) (fun c18 => ?_) (fun c18 => ?_)
    · refine lv_iconst (v := 0) hx hb dX0_plan_25 (by decide) ?_
      exact cp_thr (As := [.int 0]) (rest := []) ⟨hx, hb, hml, hown, hts⟩ (c_X0_needState_thr l hst D) (va_cwS 1 hts gX0_plan_X0_needState rfl rfl rfl (by decide +kernel) ⟨Nat.le_of_ble_eq_true rfl, Nat.le_of_ble_eq_true rfl⟩) hK hI hA hZ hno hlocks rfl hl.1 rfl (Nat.le_of_ble_eq_true rfl) dX0_plan_26 ⟨Nat.le_of_ble_eq_true rfl, Nat.le_of_ble_eq_true rfl⟩ rfl (Or.inr ⟨rfl, g, hg, rfl, c18⟩)
    · refine lv_iconst (v := 1) hx hb dX0_plan_21 (by decide) ?_
      refine lv_goto (tgt := 26) hx hb dX0_plan_22 (by decide) ?_
      refine cp_cSv0 (As := [.int 1]) (rest := []) ⟨hx, hb, hml, hown, hts⟩ (c_X0_needState_ok l D) (va_cwS 1 hts gX0_plan_X0_needState rfl rfl rfl (by decide +kernel) ⟨Nat.le_of_ble_eq_true rfl, Nat.le_of_ble_eq_true rfl⟩) hK hI hA rfl hl.1 rfl (Nat.le_of_ble_eq_true rfl) dX0_plan_26 ⟨Nat.le_of_ble_eq_true rfl, Nat.le_of_ble_eq_true rfl⟩ (fun u26 H locs hp26 hI => ?_)
      refine lv_aload_n hx hb dX0_plan_29 rfl (lv_at hl 0 rfl) ?_
      refine lv_iload_n hx hb dX0_plan_30 rfl (lv_at hl 1 rfl) ?_
      refine cp_cVv0 (wc := cp_wX cI h a) (u := u) (As := [.int (nI g)]) (rest := []) ⟨hx, hb, hml, hown, hts⟩ (c_X0_planAnew l D cI h a u g (by omega) hN1 hN2 hN3) (cwV 1 hts gX0_plan_X0_planAnew rfl rfl rfl (by decide +kernel) ⟨Nat.le_of_ble_eq_true rfl, Nat.le_of_ble_eq_true rfl⟩) hK hI hA ⟨_, cp_hX _ _ _ _⟩ rfl rfl rfl hl.1 rfl (Nat.le_of_ble_eq_true rfl) dX0_plan_31 ⟨Nat.le_of_ble_eq_true rfl, Nat.le_of_ble_eq_true rfl⟩ (fun u31 H locs hp31 hI => ?_)
      have eu31 := hp31
      refine lv_aload_n hx hb dX0_plan_34 rfl (lv_at hl 0 rfl) ?_
      refine cp_get (v := .ref (a 13)) hx hb hts inW hown hK hI (cp_hX _ _ _ _) rfl 17 (by decide) fl_hymnOfService rfl rfl dX0_plan_35 ?_
      refine lv_iload_n hx hb dX0_plan_38 rfl (lv_at hl 1 rfl) ?_
      refine cp_iald (f := u31 13) hx hb hK hI 0 (cp_aX_13 _ _ _ _) rfl (j := g) (cp_ix_n (by omega) (by decide)) dX0_plan_39 ?_
      refine vx_ret ?_
      refine W.widen (k := 1) (n := 6) (Nat.le_of_ble_eq_true rfl) (Nat.le_of_ble_eq_true rfl) ?_
      exact cp_reti (u := u31) (v := (u31 13 g)) hx hb hr hlocks hK hI ⟨g, hg, rfl, c18, by rw [eu31], eu31⟩ dX0_plan_40
  · rw [cp_bf c5]
    exact cp_thr (As := [.int 0]) (rest := []) ⟨hx, hb, hml, hown, hts⟩ (c_X0_needIndex_thr l hst D) (va_cwS 1 hts gX0_plan_X0_needIndex rfl rfl rfl (by decide +kernel) ⟨Nat.le_of_ble_eq_true rfl, Nat.le_of_ble_eq_true rfl⟩) hK hI hA hZ hno hlocks rfl hl.1 rfl (Nat.le_of_ble_eq_true rfl) dX0_plan_5 ⟨Nat.le_of_ble_eq_true rfl, Nat.le_of_ble_eq_true rfl⟩ rfl (Or.inl ⟨rfl, c5⟩)
set_option maxHeartbeats 4000000 in
set_option maxRecDepth 100000 in
theorem c_X0_hymnOf (l : Launch) (hst : l.stackTraces = false) (D : va_G) (cI : ClassId) (h : Nat) (a : Nat → Nat) (u : cp_M) (x : Int32) (hN3 : cp_cn u 3 40) : ∀ sz : Nat, vx_Met l yX0_hymnOf wsX0_hymnOf ({ frames := 7, cells := 1, slots := 6, locals := 101 } : Room) (va_Pc [.ref h, .int x] (cp_preZ D [(cI, .int)] (cp_wX cI h a u) sz)) (va_Qi (fun (r : Int32) (u1 : cp_M) => ∃ g, g < cp_n u 3 ∧ x = nI g ∧ r = u 13 g ∧ u1 = u) (cp_at D [(cI, .int)] (va_A (cp_wX cI h a u) sz) (cp_wX cI h a)) (va_A (cp_wX cI h a u) sz)) (cp_XC D [(cI, .int)] (cp_wX cI h a) u (fun E => E = R_iob ∧ ¬ (cp_bw x 0 (u 14 3 - 1))) (va_A (cp_wX cI h a u) sz)) 1 6 (va_A (cp_wX cI h a u) sz) := by
  refine cp_MetX (Qk := fun A => va_Qi (fun (r : Int32) (u1 : cp_M) => ∃ g, g < cp_n u 3 ∧ x = nI g ∧ r = u 13 g ∧ u1 = u) (cp_at D [(cI, .int)] A (cp_wX cI h a)) A) (XCk := fun A => cp_XC D [(cI, .int)] (cp_wX cI h a) u (fun E => E = R_iob ∧ ¬ (cp_bw x 0 (u 14 3 - 1))) A) (by decide) rfl (Nat.le_of_ble_eq_true rfl) ?_
  intro p e s m args below meth c A hC hA hK hI hZ hno ls hl
  obtain ⟨hx, hb, hml, hown, hts, hr, hlocks⟩ := hC
  have hown : s.vm.findClass RX0 = some m.cls := hown
  have hl : lv_has ls 2 [(0, .ref h), (1, .int x)] := hl
  have inW : ∀ w ∈ wsX00, w ∈ wsX0_hymnOf := by decide +kernel
  have fl_hymnOfService : Cond.fieldLink RX0 49 "CanticlePress" "hymnOfService" "[I" ∈ wsX0_hymnOf := by decide +kernel
  refine lv_aload_n hx hb dX0_hymnOf_0 rfl (lv_at hl 0 rfl) ?_
  refine lv_iload_n hx hb dX0_hymnOf_1 rfl (lv_at hl 1 rfl) ?_
  refine cp_cVi0 (wc := cp_wX cI h a) (u := u) (As := [.int x]) (rest := []) ⟨hx, hb, hml, hown, hts⟩ (c_X0_isService l D cI h a u x) (cwV 1 hts gX0_hymnOf_X0_isService rfl rfl rfl (by decide +kernel) ⟨Nat.le_of_ble_eq_true rfl, Nat.le_of_ble_eq_true rfl⟩) hK hI hA ⟨_, cp_hX _ _ _ _⟩ rfl rfl rfl hl.1 rfl (Nat.le_of_ble_eq_true rfl) dX0_hymnOf_2 ⟨Nat.le_of_ble_eq_true rfl, Nat.le_of_ble_eq_true rfl⟩ (fun r2 u2 H locs hp2 hI => ?_)
  obtain ⟨rfl, e9⟩ := hp2
  rw [e9] at hI
  rcases Classical.em (cp_bw x 0 (u 14 3 - 1)) with c5 | c5
  · rw [cp_bt c5]
    refine cp_cSv0 (As := [.int 1]) (rest := []) ⟨hx, hb, hml, hown, hts⟩ (c_X0_needIndex_ok l D) (va_cwS 1 hts gX0_hymnOf_X0_needIndex rfl rfl rfl (by decide +kernel) ⟨Nat.le_of_ble_eq_true rfl, Nat.le_of_ble_eq_true rfl⟩) hK hI hA rfl hl.1 rfl (Nat.le_of_ble_eq_true rfl) dX0_hymnOf_5 ⟨Nat.le_of_ble_eq_true rfl, Nat.le_of_ble_eq_true rfl⟩ (fun u5 H locs hp5 hI => ?_)
    obtain ⟨g, hg, rfl⟩ := cp_idx hN3 c5
    have hN9 := hN3.2.1
    refine lv_aload_n hx hb dX0_hymnOf_8 rfl (lv_at hl 0 rfl) ?_
    refine cp_get (v := .ref (a 13)) hx hb hts inW hown hK hI (cp_hX _ _ _ _) rfl 17 (by decide) fl_hymnOfService rfl rfl dX0_hymnOf_9 ?_
    refine lv_iload_n hx hb dX0_hymnOf_12 rfl (lv_at hl 1 rfl) ?_
    refine cp_iald (f := u 13) hx hb hK hI 0 (cp_aX_13 _ _ _ _) rfl (j := g) (cp_ix_n (by omega) (by decide)) dX0_hymnOf_13 ?_
    refine vx_ret ?_
    refine W.widen (k := 1) (n := 6) (Nat.le_of_ble_eq_true rfl) (Nat.le_of_ble_eq_true rfl) ?_
    exact cp_reti (u := u) (v := (u 13 g)) hx hb hr hlocks hK hI ⟨g, hg, rfl, rfl, rfl⟩ dX0_hymnOf_14
  · rw [cp_bf c5]
    exact cp_thr (As := [.int 0]) (rest := []) ⟨hx, hb, hml, hown, hts⟩ (c_X0_needIndex_thr l hst D) (va_cwS 1 hts gX0_hymnOf_X0_needIndex rfl rfl rfl (by decide +kernel) ⟨Nat.le_of_ble_eq_true rfl, Nat.le_of_ble_eq_true rfl⟩) hK hI hA hZ hno hlocks rfl hl.1 rfl (Nat.le_of_ble_eq_true rfl) dX0_hymnOf_5 ⟨Nat.le_of_ble_eq_true rfl, Nat.le_of_ble_eq_true rfl⟩ rfl ⟨rfl, c5⟩
set_option maxHeartbeats 4000000 in
set_option maxRecDepth 100000 in
theorem c_X0_sung (l : Launch) (hst : l.stackTraces = false) (D : va_G) (cI : ClassId) (h : Nat) (a : Nat → Nat) (u : cp_M) (ow : Int32) (y : Int32) (hN1 : cp_cn u 1 16) (hN3 : cp_cn u 3 40) : ∀ sz : Nat, vx_Met l yX0_sung wsX0_sung ({ frames := 7, cells := 1, slots := 6, locals := 101 } : Room) (va_Pc [.ref h, .int ow, .int y] (cp_preZ D [(cI, .int)] (cp_wX cI h a u) sz)) (va_Qi (fun (r : Int32) (u1 : cp_M) => (cp_bw ow 0 4 ∧ cp_bw y 0 3) ∧ r = nI (cp_cnt (cp_sungP u ow y) (cp_n u 3)) ∧ u1 = u) (cp_at D [(cI, .int)] (va_A (cp_wX cI h a u) sz) (cp_wX cI h a)) (va_A (cp_wX cI h a u) sz)) (cp_XC D [(cI, .int)] (cp_wX cI h a) u (fun E => E = R_iob ∧ ¬ (cp_bw ow 0 4 ∧ cp_bw y 0 3)) (va_A (cp_wX cI h a u) sz)) 1 6 (va_A (cp_wX cI h a u) sz) := by
  refine cp_MetX (Qk := fun A => va_Qi (fun (r : Int32) (u1 : cp_M) => (cp_bw ow 0 4 ∧ cp_bw y 0 3) ∧ r = nI (cp_cnt (cp_sungP u ow y) (cp_n u 3)) ∧ u1 = u) (cp_at D [(cI, .int)] A (cp_wX cI h a)) A) (XCk := fun A => cp_XC D [(cI, .int)] (cp_wX cI h a) u (fun E => E = R_iob ∧ ¬ (cp_bw ow 0 4 ∧ cp_bw y 0 3)) A) (by decide) rfl (Nat.le_of_ble_eq_true rfl) ?_
  intro p e s m args below meth c A hC hA hK hI hZ hno ls hl
  obtain ⟨hx, hb, hml, hown, hts, hr, hlocks⟩ := hC
  have hown : s.vm.findClass RX0 = some m.cls := hown
  have hl : lv_has ls 6 [(0, .ref h), (1, .int ow), (2, .int y)] := hl
  have inW : ∀ w ∈ wsX00, w ∈ wsX0_sung := by decide +kernel
  have fl_hymnOfService : Cond.fieldLink RX0 49 "CanticlePress" "hymnOfService" "[I" ∈ wsX0_sung := by decide +kernel
  have fl_ownerOfHymn : Cond.fieldLink RX0 9 "CanticlePress" "ownerOfHymn" "[I" ∈ wsX0_sung := by decide +kernel
  have fl_serviceCount : Cond.fieldLink RX0 137 "CanticlePress" "serviceCount" "I" ∈ wsX0_sung := by decide +kernel
  refine lv_iload_n hx hb dX0_sung_0 rfl (lv_at hl 1 rfl) ?_
  refine cp_cSi0 (As := [.int ow]) (rest := []) ⟨hx, hb, hml, hown, hts⟩ ((c_X0_isOwner l ow) D) (va_cwS 1 hts gX0_sung_X0_isOwner rfl rfl rfl (by decide +kernel) ⟨Nat.le_of_ble_eq_true rfl, Nat.le_of_ble_eq_true rfl⟩) hK hI hA rfl hl.1 rfl (Nat.le_of_ble_eq_true rfl) dX0_sung_1 ⟨Nat.le_of_ble_eq_true rfl, Nat.le_of_ble_eq_true rfl⟩ (fun r1 u1 H locs hp1 hI => ?_)
  obtain rfl := hp1
  rcases Classical.em (cp_bw ow 0 4) with c4 | c4
  · rw [cp_bt c4]
    refine cp_cSv0 (As := [.int 1]) (rest := []) ⟨hx, hb, hml, hown, hts⟩ (c_X0_needIndex_ok l D) (va_cwS 1 hts gX0_sung_X0_needIndex rfl rfl rfl (by decide +kernel) ⟨Nat.le_of_ble_eq_true rfl, Nat.le_of_ble_eq_true rfl⟩) hK hI hA rfl hl.1 rfl (Nat.le_of_ble_eq_true rfl) dX0_sung_4 ⟨Nat.le_of_ble_eq_true rfl, Nat.le_of_ble_eq_true rfl⟩ (fun u4 H locs hp4 hI => ?_)
    refine lv_iload_n hx hb dX0_sung_7 rfl (lv_at hl 2 rfl) ?_
    refine cp_cSi0 (As := [.int y]) (rest := []) ⟨hx, hb, hml, hown, hts⟩ ((c_X0_isYear l y) D) (va_cwS 1 hts gX0_sung_X0_isYear rfl rfl rfl (by decide +kernel) ⟨Nat.le_of_ble_eq_true rfl, Nat.le_of_ble_eq_true rfl⟩) hK hI hA rfl hl.1 rfl (Nat.le_of_ble_eq_true rfl) dX0_sung_8 ⟨Nat.le_of_ble_eq_true rfl, Nat.le_of_ble_eq_true rfl⟩ (fun r8 u8 H locs hp8 hI => ?_)
    obtain rfl := hp8
    rcases Classical.em (cp_bw y 0 3) with c11 | c11
    · rw [cp_bt c11]
      refine cp_cSv0 (As := [.int 1]) (rest := []) ⟨hx, hb, hml, hown, hts⟩ (c_X0_needIndex_ok l D) (va_cwS 1 hts gX0_sung_X0_needIndex rfl rfl rfl (by decide +kernel) ⟨Nat.le_of_ble_eq_true rfl, Nat.le_of_ble_eq_true rfl⟩) hK hI hA rfl hl.1 rfl (Nat.le_of_ble_eq_true rfl) dX0_sung_11 ⟨Nat.le_of_ble_eq_true rfl, Nat.le_of_ble_eq_true rfl⟩ (fun u11 H locs hp11 hI => ?_)
      refine lv_iconst (v := 0) hx hb dX0_sung_14 (by decide) ?_
      refine lv_istore_n (lv' := [(3, .int 0), (0, .ref h), (1, .int ow), (2, .int y)]) hx hb dX0_sung_15 rfl hl (by decide) rfl (fun ls hl => ?_)
      refine lv_iconst (v := 0) hx hb dX0_sung_16 (by decide) ?_
      refine lv_istore (lv' := [(4, .int 0), (3, .int 0), (0, .ref h), (1, .int ow), (2, .int y)]) hx hb dX0_sung_17 hl (by decide) rfl (fun ls hl => ?_)
      have L19 : ∀ (n9 : Nat) (k : Nat) (hm9 : cp_n u 3 - k < n9) (hk : k ≤ cp_n u 3), ∀ (H : Heap) (locs : List Loc), cp_I D (cp_wX cI h a u) A s.heap H locs → ∀ ls, lv_has ls 6 [(4, .int (nI k)), (3, .int (nI (cp_cnt (cp_sungP u ow y) k))), (0, .ref h), (1, .int ow), (2, .int y)] → W p l e ({ frames := 7, cells := 1, slots := 6, locals := 101 } : Room) s m args below meth c H locs 0 0 (vx_MQ below (va_Qi (fun (r : Int32) (u1 : cp_M) => (cp_bw ow 0 4 ∧ cp_bw y 0 3) ∧ r = nI (cp_cnt (cp_sungP u ow y) (cp_n u 3)) ∧ u1 = u) (cp_at D [(cI, .int)] A (cp_wX cI h a)) A) (cp_XC D [(cI, .int)] (cp_wX cI h a) u (fun E => E = R_iob ∧ ¬ (cp_bw ow 0 4 ∧ cp_bw y 0 3)) A) args s 1 6 A) (F0 m 19 ls []) := by
        intro n9
        induction n9 with
        | zero => intro k hm9; omega
        | succ n9 ih =>
          intro k hm9 hk H locs hI ls hl
          have hN9 := hN3.2.1
          refine lv_iload hx hb dX0_sung_19 (lv_at hl 0 rfl) ?_
          refine lv_aload_n hx hb dX0_sung_21 rfl (lv_at hl 2 rfl) ?_
          refine cp_get (v := .int (u 14 3)) hx hb hts inW hown hK hI (cp_hX _ _ _ _) rfl 14 (by decide) fl_serviceCount rfl rfl dX0_sung_22 ?_
          refine lv_icmp_ge (tgt := 76) hx hb dX0_sung_25 (by decide) (fun c25 => ?_) (fun c25 => ?_)
          · have hk2 := cp_ex hN3 hk c25
            refine lv_iload_n hx hb dX0_sung_76 rfl (lv_at hl 1 rfl) ?_
            refine vx_ret ?_
            refine W.widen (k := 1) (n := 6) (Nat.le_of_ble_eq_true rfl) (Nat.le_of_ble_eq_true rfl) ?_
            exact cp_reti (u := u) (v := (nI (cp_cnt (cp_sungP u ow y) k))) hx hb hr hlocks hK hI ⟨⟨c4, c11⟩, by rw [hk2], rfl⟩ dX0_sung_77
          · have hk2 := cp_in hN3 (by omega) c25
            refine lv_aload_n hx hb dX0_sung_28 rfl (lv_at hl 2 rfl) ?_
            refine cp_get (v := .ref (a 13)) hx hb hts inW hown hK hI (cp_hX _ _ _ _) rfl 17 (by decide) fl_hymnOfService rfl rfl dX0_sung_29 ?_
            refine lv_iload hx hb dX0_sung_32 (lv_at hl 0 rfl) ?_
            refine cp_iald (f := u 13) hx hb hK hI 0 (cp_aX_13 _ _ _ _) rfl (j := k) (cp_ix_n (by omega) (by decide)) dX0_sung_34 ?_
            refine lv_topi (fun x35 ex35 => ?_)
            refine lv_istore (lv' := [(5, .int x35), (4, .int (nI k)), (3, .int (nI (cp_cnt (cp_sungP u ow y) k))), (0, .ref h), (1, .int ow), (2, .int y)]) hx hb dX0_sung_35 hl (by decide) rfl (fun ls hl => ?_)
            obtain rfl := ex35
            refine lv_aload_n hx hb dX0_sung_37 rfl (lv_at hl 3 rfl) ?_
            refine lv_iload hx hb dX0_sung_38 (lv_at hl 1 rfl) ?_
            refine lv_iload_n hx hb dX0_sung_40 rfl (lv_at hl 5 rfl) ?_
            refine cp_cVi0 (wc := cp_wX cI h a) (u := u) (As := [.int (nI k), .int y]) (rest := []) ⟨hx, hb, hml, hown, hts⟩ (c_X0_isHeldIn l D cI h a u k y (by omega)) (cwV 2 hts gX0_sung_X0_isHeldIn rfl rfl rfl (by decide +kernel) ⟨Nat.le_of_ble_eq_true rfl, Nat.le_of_ble_eq_true rfl⟩) hK hI hA ⟨_, cp_hX _ _ _ _⟩ rfl rfl rfl hl.1 rfl (Nat.le_of_ble_eq_true rfl) dX0_sung_41 ⟨Nat.le_of_ble_eq_true rfl, Nat.le_of_ble_eq_true rfl⟩ (fun r41 u41 H locs hp41 hI => ?_)
            obtain ⟨rfl, e9⟩ := hp41
            rw [e9] at hI
            refine lv_if_eq (tgt := 70) hx hb dX0_sung_44 (by decide) (fun c44 => ?_) (fun c44 => ?_)
            · have c44 := cp_b0.mp c44
              obtain ⟨x70, ex70⟩ : ∃ y9 : Int32, y9 = (nI k) + 1 := ⟨_, rfl⟩
              refine lv_iinc (v := x70) (lv' := [(4, .int x70), (5, .int (u 13 k)), (3, .int (nI (cp_cnt (cp_sungP u ow y) k))), (0, .ref h), (1, .int ow), (2, .int y)]) hx hb dX0_sung_70 hl (k := 1) rfl (by rw [ex70]; rfl) (by decide) rfl (fun ls hl => ?_)
              refine lv_goto (tgt := 19) hx hb dX0_sung_73 (by decide) ?_
              rw [← cp_cnt_f (p := (cp_sungP u ow y)) (by first | exact fun h => c44 h.1 | exact fun ⟨_, g, hg, e, _⟩ => c53 (by rw [e]; exact cp_isH hN1 hg) | exact fun ⟨_, g9, hg9, e9, h9⟩ => c64 (by rw [show g = g9 from cp_nIinj (by omega) (by omega) (eg.symm.trans e9)]; exact h9))] at hl
              obtain rfl : x70 = nI (k + 1) := by rw [ex70]; exact nI_1 k
              exact ih (k + 1) (by omega) (by omega) _ _ hI ls (lv_sub hl [0, 2, 3, 4, 5] rfl)
            · have c44 := Classical.not_not.mp (fun h9 => c44 (cp_b0.mpr h9))
              refine lv_aload_n hx hb dX0_sung_47 rfl (lv_at hl 3 rfl) ?_
              refine lv_iload hx hb dX0_sung_48 (lv_at hl 0 rfl) ?_
              refine cp_cVi0 (wc := cp_wX cI h a) (u := u) (As := [.int (u 13 k)]) (rest := []) ⟨hx, hb, hml, hown, hts⟩ (c_X0_isHymn l D cI h a u (u 13 k)) (cwV 1 hts gX0_sung_X0_isHymn rfl rfl rfl (by decide +kernel) ⟨Nat.le_of_ble_eq_true rfl, Nat.le_of_ble_eq_true rfl⟩) hK hI hA ⟨_, cp_hX _ _ _ _⟩ rfl rfl rfl hl.1 rfl (Nat.le_of_ble_eq_true rfl) dX0_sung_50 ⟨Nat.le_of_ble_eq_true rfl, Nat.le_of_ble_eq_true rfl⟩ (fun r50 u50 H locs hp50 hI => ?_)
              obtain ⟨rfl, e9⟩ := hp50
              rw [e9] at hI
              refine lv_if_eq (tgt := 70) hx hb dX0_sung_53 (by decide) (fun c53 => ?_) (fun c53 => ?_)
              · have c53 := cp_b0.mp c53
                obtain ⟨x70, ex70⟩ : ∃ y9 : Int32, y9 = (nI k) + 1 := ⟨_, rfl⟩
                refine lv_iinc (v := x70) (lv' := [(4, .int x70), (5, .int (u 13 k)), (3, .int (nI (cp_cnt (cp_sungP u ow y) k))), (0, .ref h), (1, .int ow), (2, .int y)]) hx hb dX0_sung_70 hl (k := 1) rfl (by rw [ex70]; rfl) (by decide) rfl (fun ls hl => ?_)
                refine lv_goto (tgt := 19) hx hb dX0_sung_73 (by decide) ?_
                rw [← cp_cnt_f (p := (cp_sungP u ow y)) (by first | exact fun h => c44 h.1 | exact fun ⟨_, g, hg, e, _⟩ => c53 (by rw [e]; exact cp_isH hN1 hg) | exact fun ⟨_, g9, hg9, e9, h9⟩ => c64 (by rw [show g = g9 from cp_nIinj (by omega) (by omega) (eg.symm.trans e9)]; exact h9))] at hl
                obtain rfl : x70 = nI (k + 1) := by rw [ex70]; exact nI_1 k
                exact ih (k + 1) (by omega) (by omega) _ _ hI ls (lv_sub hl [0, 2, 3, 4, 5] rfl)
              · have c53 := Classical.not_not.mp (fun h9 => c53 (cp_b0.mpr h9))
                obtain ⟨g, hg, eg⟩ := cp_idx hN1 c53
                have hM9 := hN1.2.1
                refine lv_aload_n hx hb dX0_sung_56 rfl (lv_at hl 3 rfl) ?_
                refine cp_get (v := .ref (a 0)) hx hb hts inW hown hK hI (cp_hX _ _ _ _) rfl 2 (by decide) fl_ownerOfHymn rfl rfl dX0_sung_57 ?_
                refine lv_iload hx hb dX0_sung_60 (lv_at hl 0 rfl) ?_
                refine cp_iald (f := u 0) hx hb hK hI 0 (cp_aX_0 _ _ _ _) rfl (j := g) (cp_ix_e eg (by omega) (by decide)) dX0_sung_62 ?_
                refine lv_iload_n hx hb dX0_sung_63 rfl (lv_at hl 4 rfl) ?_
                refine lv_icmp_ne (tgt := 70) hx hb dX0_sung_64 (by decide) (fun c64 => ?_) (fun c64 => ?_)
                · obtain ⟨x70, ex70⟩ : ∃ y9 : Int32, y9 = (nI k) + 1 := ⟨_, rfl⟩
                  refine lv_iinc (v := x70) (lv' := [(4, .int x70), (5, .int (u 13 k)), (3, .int (nI (cp_cnt (cp_sungP u ow y) k))), (0, .ref h), (1, .int ow), (2, .int y)]) hx hb dX0_sung_70 hl (k := 1) rfl (by rw [ex70]; rfl) (by decide) rfl (fun ls hl => ?_)
                  refine lv_goto (tgt := 19) hx hb dX0_sung_73 (by decide) ?_
                  rw [← cp_cnt_f (p := (cp_sungP u ow y)) (by first | exact fun h => c44 h.1 | exact fun ⟨_, g, hg, e, _⟩ => c53 (by rw [e]; exact cp_isH hN1 hg) | exact fun ⟨_, g9, hg9, e9, h9⟩ => c64 (by rw [show g = g9 from cp_nIinj (by omega) (by omega) (eg.symm.trans e9)]; exact h9))] at hl
                  obtain rfl : x70 = nI (k + 1) := by rw [ex70]; exact nI_1 k
                  exact ih (k + 1) (by omega) (by omega) _ _ hI ls (lv_sub hl [0, 2, 3, 4, 5] rfl)
                · obtain ⟨x67, ex67⟩ : ∃ y9 : Int32, y9 = (nI (cp_cnt (cp_sungP u ow y) k)) + 1 := ⟨_, rfl⟩
                  refine lv_iinc (v := x67) (lv' := [(3, .int x67), (5, .int (u 13 k)), (4, .int (nI k)), (0, .ref h), (1, .int ow), (2, .int y)]) hx hb dX0_sung_67 hl (k := 2) rfl (by rw [ex67]; rfl) (by decide) rfl (fun ls hl => ?_)
                  obtain ⟨x70, ex70⟩ : ∃ y9 : Int32, y9 = (nI k) + 1 := ⟨_, rfl⟩
                  refine lv_iinc (v := x70) (lv' := [(4, .int x70), (3, .int x67), (5, .int (u 13 k)), (0, .ref h), (1, .int ow), (2, .int y)]) hx hb dX0_sung_70 hl (k := 2) rfl (by rw [ex70]; rfl) (by decide) rfl (fun ls hl => ?_)
                  refine lv_goto (tgt := 19) hx hb dX0_sung_73 (by decide) ?_
                  obtain rfl : x67 = nI (cp_cnt (cp_sungP u ow y) (k + 1)) := by rw [ex67, cp_cnt_t (p := (cp_sungP u ow y)) ⟨c44, g, hg, eg, c64⟩]; exact nI_1 _
                  obtain rfl : x70 = nI (k + 1) := by rw [ex70]; exact nI_1 k
                  exact ih (k + 1) (by omega) (by omega) _ _ hI ls (lv_sub hl [0, 1, 3, 4, 5] rfl)
      exact L19 ((cp_n u 3) + 1) 0 (Nat.lt_succ_self _) (Nat.zero_le _) _ _ hI ls (lv_sub hl [0, 1, 2, 3, 4] rfl)
    · rw [cp_bf c11]
      exact cp_thr (As := [.int 0]) (rest := []) ⟨hx, hb, hml, hown, hts⟩ (c_X0_needIndex_thr l hst D) (va_cwS 1 hts gX0_sung_X0_needIndex rfl rfl rfl (by decide +kernel) ⟨Nat.le_of_ble_eq_true rfl, Nat.le_of_ble_eq_true rfl⟩) hK hI hA hZ hno hlocks rfl hl.1 rfl (Nat.le_of_ble_eq_true rfl) dX0_sung_11 ⟨Nat.le_of_ble_eq_true rfl, Nat.le_of_ble_eq_true rfl⟩ rfl ⟨rfl, fun h => c11 h.2⟩
  · rw [cp_bf c4]
    exact cp_thr (As := [.int 0]) (rest := []) ⟨hx, hb, hml, hown, hts⟩ (c_X0_needIndex_thr l hst D) (va_cwS 1 hts gX0_sung_X0_needIndex rfl rfl rfl (by decide +kernel) ⟨Nat.le_of_ble_eq_true rfl, Nat.le_of_ble_eq_true rfl⟩) hK hI hA hZ hno hlocks rfl hl.1 rfl (Nat.le_of_ble_eq_true rfl) dX0_sung_4 ⟨Nat.le_of_ble_eq_true rfl, Nat.le_of_ble_eq_true rfl⟩ rfl ⟨rfl, fun h => c4 h.1⟩
set_option maxHeartbeats 4000000 in
set_option maxRecDepth 100000 in
theorem c_X0_sungByHymns (l : Launch) (hst : l.stackTraces = false) (D : va_G) (cI : ClassId) (h : Nat) (a : Nat → Nat) (u : cp_M) (ow : Int32) (y : Int32) (hN1 : cp_cn u 1 16) (hN3 : cp_cn u 3 40) : ∀ sz : Nat, vx_Met l yX0_sungByHymns wsX0_sungByHymns ({ frames := 7, cells := 1, slots := 6, locals := 101 } : Room) (va_Pc [.ref h, .int ow, .int y] (cp_preZ D [(cI, .int)] (cp_wX cI h a u) sz)) (va_Qi (fun (r : Int32) (u1 : cp_M) => (cp_bw ow 0 4 ∧ cp_bw y 0 3) ∧ r = nI (cp_sbh u ow y (cp_n u 1)) ∧ u1 = u) (cp_at D [(cI, .int)] (va_A (cp_wX cI h a u) sz) (cp_wX cI h a)) (va_A (cp_wX cI h a u) sz)) (cp_XC D [(cI, .int)] (cp_wX cI h a) u (fun E => E = R_iob ∧ ¬ (cp_bw ow 0 4 ∧ cp_bw y 0 3)) (va_A (cp_wX cI h a u) sz)) 1 6 (va_A (cp_wX cI h a u) sz) := by
  refine cp_MetX (Qk := fun A => va_Qi (fun (r : Int32) (u1 : cp_M) => (cp_bw ow 0 4 ∧ cp_bw y 0 3) ∧ r = nI (cp_sbh u ow y (cp_n u 1)) ∧ u1 = u) (cp_at D [(cI, .int)] A (cp_wX cI h a)) A) (XCk := fun A => cp_XC D [(cI, .int)] (cp_wX cI h a) u (fun E => E = R_iob ∧ ¬ (cp_bw ow 0 4 ∧ cp_bw y 0 3)) A) (by decide) rfl (Nat.le_of_ble_eq_true rfl) ?_
  intro p e s m args below meth c A hC hA hK hI hZ hno ls hl
  obtain ⟨hx, hb, hml, hown, hts, hr, hlocks⟩ := hC
  have hown : s.vm.findClass RX0 = some m.cls := hown
  have hl : lv_has ls 5 [(0, .ref h), (1, .int ow), (2, .int y)] := hl
  have inW : ∀ w ∈ wsX00, w ∈ wsX0_sungByHymns := by decide +kernel
  have fl_hymnCount : Cond.fieldLink RX0 67 "CanticlePress" "hymnCount" "I" ∈ wsX0_sungByHymns := by decide +kernel
  have fl_ownerOfHymn : Cond.fieldLink RX0 9 "CanticlePress" "ownerOfHymn" "[I" ∈ wsX0_sungByHymns := by decide +kernel
  refine lv_iload_n hx hb dX0_sungByHymns_0 rfl (lv_at hl 1 rfl) ?_
  refine cp_cSi0 (As := [.int ow]) (rest := []) ⟨hx, hb, hml, hown, hts⟩ ((c_X0_isOwner l ow) D) (va_cwS 1 hts gX0_sungByHymns_X0_isOwner rfl rfl rfl (by decide +kernel) ⟨Nat.le_of_ble_eq_true rfl, Nat.le_of_ble_eq_true rfl⟩) hK hI hA rfl hl.1 rfl (Nat.le_of_ble_eq_true rfl) dX0_sungByHymns_1 ⟨Nat.le_of_ble_eq_true rfl, Nat.le_of_ble_eq_true rfl⟩ (fun r1 u1 H locs hp1 hI => ?_)
  obtain rfl := hp1
  rcases Classical.em (cp_bw ow 0 4) with c4 | c4
  · rw [cp_bt c4]
    refine cp_cSv0 (As := [.int 1]) (rest := []) ⟨hx, hb, hml, hown, hts⟩ (c_X0_needIndex_ok l D) (va_cwS 1 hts gX0_sungByHymns_X0_needIndex rfl rfl rfl (by decide +kernel) ⟨Nat.le_of_ble_eq_true rfl, Nat.le_of_ble_eq_true rfl⟩) hK hI hA rfl hl.1 rfl (Nat.le_of_ble_eq_true rfl) dX0_sungByHymns_4 ⟨Nat.le_of_ble_eq_true rfl, Nat.le_of_ble_eq_true rfl⟩ (fun u4 H locs hp4 hI => ?_)
    refine lv_iload_n hx hb dX0_sungByHymns_7 rfl (lv_at hl 2 rfl) ?_
    refine cp_cSi0 (As := [.int y]) (rest := []) ⟨hx, hb, hml, hown, hts⟩ ((c_X0_isYear l y) D) (va_cwS 1 hts gX0_sungByHymns_X0_isYear rfl rfl rfl (by decide +kernel) ⟨Nat.le_of_ble_eq_true rfl, Nat.le_of_ble_eq_true rfl⟩) hK hI hA rfl hl.1 rfl (Nat.le_of_ble_eq_true rfl) dX0_sungByHymns_8 ⟨Nat.le_of_ble_eq_true rfl, Nat.le_of_ble_eq_true rfl⟩ (fun r8 u8 H locs hp8 hI => ?_)
    obtain rfl := hp8
    rcases Classical.em (cp_bw y 0 3) with c11 | c11
    · rw [cp_bt c11]
      refine cp_cSv0 (As := [.int 1]) (rest := []) ⟨hx, hb, hml, hown, hts⟩ (c_X0_needIndex_ok l D) (va_cwS 1 hts gX0_sungByHymns_X0_needIndex rfl rfl rfl (by decide +kernel) ⟨Nat.le_of_ble_eq_true rfl, Nat.le_of_ble_eq_true rfl⟩) hK hI hA rfl hl.1 rfl (Nat.le_of_ble_eq_true rfl) dX0_sungByHymns_11 ⟨Nat.le_of_ble_eq_true rfl, Nat.le_of_ble_eq_true rfl⟩ (fun u11 H locs hp11 hI => ?_)
      refine lv_iconst (v := 0) hx hb dX0_sungByHymns_14 (by decide) ?_
      refine lv_istore_n (lv' := [(3, .int 0), (0, .ref h), (1, .int ow), (2, .int y)]) hx hb dX0_sungByHymns_15 rfl hl (by decide) rfl (fun ls hl => ?_)
      refine lv_iconst (v := 0) hx hb dX0_sungByHymns_16 (by decide) ?_
      refine lv_istore (lv' := [(4, .int 0), (3, .int 0), (0, .ref h), (1, .int ow), (2, .int y)]) hx hb dX0_sungByHymns_17 hl (by decide) rfl (fun ls hl => ?_)
      have L19 : ∀ (n9 : Nat) (k : Nat) (hm9 : cp_n u 1 - k < n9) (hk : k ≤ cp_n u 1), ∀ (H : Heap) (locs : List Loc), cp_I D (cp_wX cI h a u) A s.heap H locs → ∀ ls, lv_has ls 5 [(4, .int (nI k)), (3, .int (nI (cp_sbh u ow y k))), (0, .ref h), (1, .int ow), (2, .int y)] → W p l e ({ frames := 7, cells := 1, slots := 6, locals := 101 } : Room) s m args below meth c H locs 0 0 (vx_MQ below (va_Qi (fun (r : Int32) (u1 : cp_M) => (cp_bw ow 0 4 ∧ cp_bw y 0 3) ∧ r = nI (cp_sbh u ow y (cp_n u 1)) ∧ u1 = u) (cp_at D [(cI, .int)] A (cp_wX cI h a)) A) (cp_XC D [(cI, .int)] (cp_wX cI h a) u (fun E => E = R_iob ∧ ¬ (cp_bw ow 0 4 ∧ cp_bw y 0 3)) A) args s 1 6 A) (F0 m 19 ls []) := by
        intro n9
        induction n9 with
        | zero => intro k hm9; omega
        | succ n9 ih =>
          intro k hm9 hk H locs hI ls hl
          have hN9 := hN1.2.1
          refine lv_iload hx hb dX0_sungByHymns_19 (lv_at hl 0 rfl) ?_
          refine lv_aload_n hx hb dX0_sungByHymns_21 rfl (lv_at hl 2 rfl) ?_
          refine cp_get (v := .int (u 14 1)) hx hb hts inW hown hK hI (cp_hX _ _ _ _) rfl 1 (by decide) fl_hymnCount rfl rfl dX0_sungByHymns_22 ?_
          refine lv_icmp_ge (tgt := 55) hx hb dX0_sungByHymns_25 (by decide) (fun c25 => ?_) (fun c25 => ?_)
          · have hk2 := cp_ex hN1 hk c25
            refine lv_iload_n hx hb dX0_sungByHymns_55 rfl (lv_at hl 1 rfl) ?_
            refine vx_ret ?_
            refine W.widen (k := 1) (n := 6) (Nat.le_of_ble_eq_true rfl) (Nat.le_of_ble_eq_true rfl) ?_
            exact cp_reti (u := u) (v := (nI (cp_sbh u ow y k))) hx hb hr hlocks hK hI ⟨⟨c4, c11⟩, by rw [hk2], rfl⟩ dX0_sungByHymns_56
          · have hk2 := cp_in hN1 (by omega) c25
            refine lv_aload_n hx hb dX0_sungByHymns_28 rfl (lv_at hl 2 rfl) ?_
            refine cp_get (v := .ref (a 0)) hx hb hts inW hown hK hI (cp_hX _ _ _ _) rfl 2 (by decide) fl_ownerOfHymn rfl rfl dX0_sungByHymns_29 ?_
            refine lv_iload hx hb dX0_sungByHymns_32 (lv_at hl 0 rfl) ?_
            refine cp_iald (f := u 0) hx hb hK hI 0 (cp_aX_0 _ _ _ _) rfl (j := k) (cp_ix_n (by omega) (by decide)) dX0_sungByHymns_34 ?_
            refine lv_iload_n hx hb dX0_sungByHymns_35 rfl (lv_at hl 3 rfl) ?_
            refine lv_icmp_ne (tgt := 49) hx hb dX0_sungByHymns_36 (by decide) (fun c36 => ?_) (fun c36 => ?_)
            · obtain ⟨x49, ex49⟩ : ∃ y9 : Int32, y9 = (nI k) + 1 := ⟨_, rfl⟩
              refine lv_iinc (v := x49) (lv' := [(4, .int x49), (3, .int (nI (cp_sbh u ow y k))), (0, .ref h), (1, .int ow), (2, .int y)]) hx hb dX0_sungByHymns_49 hl (k := 0) rfl (by rw [ex49]; rfl) (by decide) rfl (fun ls hl => ?_)
              refine lv_goto (tgt := 19) hx hb dX0_sungByHymns_52 (by decide) ?_
              rw [← cp_sbh_f c36] at hl
              obtain rfl : x49 = nI (k + 1) := by rw [ex49]; exact nI_1 k
              exact ih (k + 1) (by omega) (by omega) _ _ hI ls (lv_sub hl [0, 1, 2, 3, 4] rfl)
            · refine lv_iload_n hx hb dX0_sungByHymns_39 rfl (lv_at hl 1 rfl) ?_
              refine lv_aload_n hx hb dX0_sungByHymns_40 rfl (lv_at hl 2 rfl) ?_
              refine lv_iload hx hb dX0_sungByHymns_41 (lv_at hl 0 rfl) ?_
              refine lv_iload_n hx hb dX0_sungByHymns_43 rfl (lv_at hl 4 rfl) ?_
              refine cp_cVi0 (wc := cp_wX cI h a) (u := u) (As := [.int (nI k), .int y]) (rest := [.int (nI (cp_sbh u ow y k))]) ⟨hx, hb, hml, hown, hts⟩ (c_X0_timesSung l D cI h a u (nI k) y hN3) (cwV 2 hts gX0_sungByHymns_X0_timesSung rfl rfl rfl (by decide +kernel) ⟨Nat.le_of_ble_eq_true rfl, Nat.le_of_ble_eq_true rfl⟩) hK hI hA ⟨_, cp_hX _ _ _ _⟩ rfl rfl rfl hl.1 rfl (Nat.le_of_ble_eq_true rfl) dX0_sungByHymns_44 ⟨Nat.le_of_ble_eq_true rfl, Nat.le_of_ble_eq_true rfl⟩ (fun r44 u44 H locs hp44 hI => ?_)
              obtain ⟨rfl, e9⟩ := hp44
              rw [e9] at hI
              refine lv_iadd hx hb dX0_sungByHymns_47 ?_
              refine lv_topi (fun x48 ex48 => ?_)
              refine lv_istore_n (lv' := [(3, .int x48), (4, .int (nI k)), (0, .ref h), (1, .int ow), (2, .int y)]) hx hb dX0_sungByHymns_48 rfl hl (by decide) rfl (fun ls hl => ?_)
              obtain ⟨x49, ex49⟩ : ∃ y9 : Int32, y9 = (nI k) + 1 := ⟨_, rfl⟩
              refine lv_iinc (v := x49) (lv' := [(4, .int x49), (3, .int x48), (0, .ref h), (1, .int ow), (2, .int y)]) hx hb dX0_sungByHymns_49 hl (k := 1) rfl (by rw [ex49]; rfl) (by decide) rfl (fun ls hl => ?_)
              refine lv_goto (tgt := 19) hx hb dX0_sungByHymns_52 (by decide) ?_
              obtain rfl : x48 = nI (cp_sbh u ow y (k + 1)) := by rw [ex48, cp_sbh_t c36]; exact nI_add _ _
              obtain rfl : x49 = nI (k + 1) := by rw [ex49]; exact nI_1 k
              exact ih (k + 1) (by omega) (by omega) _ _ hI ls (lv_sub hl [0, 1, 2, 3, 4] rfl)
      exact L19 ((cp_n u 1) + 1) 0 (Nat.lt_succ_self _) (Nat.zero_le _) _ _ hI ls (lv_sub hl [0, 1, 2, 3, 4] rfl)
    · rw [cp_bf c11]
      exact cp_thr (As := [.int 0]) (rest := []) ⟨hx, hb, hml, hown, hts⟩ (c_X0_needIndex_thr l hst D) (va_cwS 1 hts gX0_sungByHymns_X0_needIndex rfl rfl rfl (by decide +kernel) ⟨Nat.le_of_ble_eq_true rfl, Nat.le_of_ble_eq_true rfl⟩) hK hI hA hZ hno hlocks rfl hl.1 rfl (Nat.le_of_ble_eq_true rfl) dX0_sungByHymns_11 ⟨Nat.le_of_ble_eq_true rfl, Nat.le_of_ble_eq_true rfl⟩ rfl ⟨rfl, fun h => c11 h.2⟩
  · rw [cp_bf c4]
    exact cp_thr (As := [.int 0]) (rest := []) ⟨hx, hb, hml, hown, hts⟩ (c_X0_needIndex_thr l hst D) (va_cwS 1 hts gX0_sungByHymns_X0_needIndex rfl rfl rfl (by decide +kernel) ⟨Nat.le_of_ble_eq_true rfl, Nat.le_of_ble_eq_true rfl⟩) hK hI hA hZ hno hlocks rfl hl.1 rfl (Nat.le_of_ble_eq_true rfl) dX0_sungByHymns_4 ⟨Nat.le_of_ble_eq_true rfl, Nat.le_of_ble_eq_true rfl⟩ rfl ⟨rfl, fun h => c4 h.1⟩
set_option maxHeartbeats 4000000 in
set_option maxRecDepth 100000 in
theorem c_X0_pass (l : Launch) (hst : l.stackTraces = false) (D : va_G) (cI : ClassId) (h : Nat) (a : Nat → Nat) (u : cp_M) (d9 : Int32)  : ∀ sz : Nat, vx_Met l yX0_pass wsX0_pass ({ frames := 7, cells := 1, slots := 6, locals := 101 } : Room) (va_Pc [.ref h, .int d9] (cp_preZ D [(cI, .int)] (cp_wX cI h a u) sz)) (va_Qi (fun (r : Int32) (u1 : cp_M) => (cp_bw d9 1 200) ∧ ¬ (1459 : Int32) < u 14 0 + d9 ∧ r = u 14 0 + d9 ∧ u1 = cp_up u 14 (upd (u 14) 0 (u 14 0 + d9))) (cp_at D [(cI, .int)] (va_A (cp_wX cI h a u) sz) (cp_wX cI h a)) (va_A (cp_wX cI h a u) sz)) (cp_XC D [(cI, .int)] (cp_wX cI h a) u (fun E => (E = R_iae ∧ ¬ (cp_bw d9 1 200)) ∨ (E = R_ise ∧ (cp_bw d9 1 200) ∧ ¬ ¬ (1459 : Int32) < u 14 0 + d9)) (va_A (cp_wX cI h a u) sz)) 1 6 (va_A (cp_wX cI h a u) sz) := by
  refine cp_MetX (Qk := fun A => va_Qi (fun (r : Int32) (u1 : cp_M) => (cp_bw d9 1 200) ∧ ¬ (1459 : Int32) < u 14 0 + d9 ∧ r = u 14 0 + d9 ∧ u1 = cp_up u 14 (upd (u 14) 0 (u 14 0 + d9))) (cp_at D [(cI, .int)] A (cp_wX cI h a)) A) (XCk := fun A => cp_XC D [(cI, .int)] (cp_wX cI h a) u (fun E => (E = R_iae ∧ ¬ (cp_bw d9 1 200)) ∨ (E = R_ise ∧ (cp_bw d9 1 200) ∧ ¬ ¬ (1459 : Int32) < u 14 0 + d9)) A) (by decide) rfl (Nat.le_of_ble_eq_true rfl) ?_
  intro p e s m args below meth c A hC hA hK hI hZ hno ls hl
  obtain ⟨hx, hb, hml, hown, hts, hr, hlocks⟩ := hC
  have hown : s.vm.findClass RX0 = some m.cls := hown
  have hl : lv_has ls 2 [(0, .ref h), (1, .int d9)] := hl
  have inW : ∀ w ∈ wsX00, w ∈ wsX0_pass := by decide +kernel
  have fl_today : Cond.fieldLink RX0 109 "CanticlePress" "today" "I" ∈ wsX0_pass := by decide +kernel
  refine lv_iload_n hx hb dX0_pass_0 rfl (lv_at hl 1 rfl) ?_
  refine lv_iconst (v := 1) hx hb dX0_pass_1 (by decide) ?_
  refine lv_sipush (v := 200) hx hb dX0_pass_2 (by decide) ?_
  refine cp_cSi0 (As := [.int d9, .int 1, .int 200]) (rest := []) ⟨hx, hb, hml, hown, hts⟩ ((c_X0_isBetween l d9 1 200) D) (va_cwS 3 hts gX0_pass_X0_isBetween rfl rfl rfl (by decide +kernel) ⟨Nat.le_of_ble_eq_true rfl, Nat.le_of_ble_eq_true rfl⟩) hK hI hA rfl hl.1 rfl (Nat.le_of_ble_eq_true rfl) dX0_pass_5 ⟨Nat.le_of_ble_eq_true rfl, Nat.le_of_ble_eq_true rfl⟩ (fun r5 u5 H locs hp5 hI => ?_)
  obtain rfl := hp5
  rcases Classical.em (cp_bw d9 1 200) with c8 | c8
  · rw [cp_bt c8]
    refine cp_cSv0 (As := [.int 1]) (rest := []) ⟨hx, hb, hml, hown, hts⟩ (c_X0_needArgument_ok l D) (va_cwS 1 hts gX0_pass_X0_needArgument rfl rfl rfl (by decide +kernel) ⟨Nat.le_of_ble_eq_true rfl, Nat.le_of_ble_eq_true rfl⟩) hK hI hA rfl hl.1 rfl (Nat.le_of_ble_eq_true rfl) dX0_pass_8 ⟨Nat.le_of_ble_eq_true rfl, Nat.le_of_ble_eq_true rfl⟩ (fun u8 H locs hp8 hI => ?_)
    refine lv_aload_n hx hb dX0_pass_11 rfl (lv_at hl 0 rfl) ?_
    refine cp_get (v := .int (u 14 0)) hx hb hts inW hown hK hI (cp_hX _ _ _ _) rfl 0 (by decide) fl_today rfl rfl dX0_pass_12 ?_
    refine lv_iload_n hx hb dX0_pass_15 rfl (lv_at hl 1 rfl) ?_
    refine lv_iadd hx hb dX0_pass_16 ?_
    refine lv_sipush (v := 1459) hx hb dX0_pass_17 (by decide) ?_
    refine lv_icmp_gt (tgt := 27) hx hb dX0_pass_20 (by decide) (fun c20 => ?_) (fun c20 => ?_)
    · refine lv_iconst (v := 0) hx hb dX0_pass_27 (by decide) ?_
      exact cp_thr (As := [.int 0]) (rest := []) ⟨hx, hb, hml, hown, hts⟩ (c_X0_needState_thr l hst D) (va_cwS 1 hts gX0_pass_X0_needState rfl rfl rfl (by decide +kernel) ⟨Nat.le_of_ble_eq_true rfl, Nat.le_of_ble_eq_true rfl⟩) hK hI hA hZ hno hlocks rfl hl.1 rfl (Nat.le_of_ble_eq_true rfl) dX0_pass_28 ⟨Nat.le_of_ble_eq_true rfl, Nat.le_of_ble_eq_true rfl⟩ rfl (Or.inr ⟨rfl, c8, Classical.not_not.mpr c20⟩)
    · refine lv_iconst (v := 1) hx hb dX0_pass_23 (by decide) ?_
      refine lv_goto (tgt := 28) hx hb dX0_pass_24 (by decide) ?_
      refine cp_cSv0 (As := [.int 1]) (rest := []) ⟨hx, hb, hml, hown, hts⟩ (c_X0_needState_ok l D) (va_cwS 1 hts gX0_pass_X0_needState rfl rfl rfl (by decide +kernel) ⟨Nat.le_of_ble_eq_true rfl, Nat.le_of_ble_eq_true rfl⟩) hK hI hA rfl hl.1 rfl (Nat.le_of_ble_eq_true rfl) dX0_pass_28 ⟨Nat.le_of_ble_eq_true rfl, Nat.le_of_ble_eq_true rfl⟩ (fun u28 H locs hp28 hI => ?_)
      refine lv_aload_n hx hb dX0_pass_31 rfl (lv_at hl 0 rfl) ?_
      refine lv_dup hx hb dX0_pass_32 rfl ?_
      refine cp_get (v := .int (u 14 0)) hx hb hts inW hown hK hI (cp_hX _ _ _ _) rfl 0 (by decide) fl_today rfl rfl dX0_pass_33 ?_
      refine lv_iload_n hx hb dX0_pass_36 rfl (lv_at hl 1 rfl) ?_
      refine lv_iadd hx hb dX0_pass_37 ?_
      refine cp_puti hx hb hts inW tyX0 tyX0_ok nmX0 hown hK hI (cp_hX _ _ _ _) rfl 0 (by decide) fl_today rfl rfl (by decide +kernel) (Nat.le_of_ble_eq_true rfl) dX0_pass_38 (cp_iX_0 _ _ _ _ _) (fun H locs hI => ?_)
      obtain ⟨u38, eu38⟩ : ∃ z9, z9 = cp_up u 14 (upd (u 14) 0 ((u 14 0) + d9)) := ⟨_, rfl⟩
      rw [← eu38] at hI
      refine lv_aload_n hx hb dX0_pass_41 rfl (lv_at hl 0 rfl) ?_
      refine cp_get (v := .int (u38 14 0)) hx hb hts inW hown hK hI (cp_hX _ _ _ _) rfl 0 (by decide) fl_today rfl rfl dX0_pass_42 ?_
      refine vx_ret ?_
      refine W.widen (k := 1) (n := 6) (Nat.le_of_ble_eq_true rfl) (Nat.le_of_ble_eq_true rfl) ?_
      exact cp_reti (u := u38) (v := (u38 14 0)) hx hb hr hlocks hK hI ⟨c8, c20, by rw [eu38, cp_up_s, cp_upd_s], eu38⟩ dX0_pass_45
  · rw [cp_bf c8]
    exact cp_thr (As := [.int 0]) (rest := []) ⟨hx, hb, hml, hown, hts⟩ (c_X0_needArgument_thr l hst D) (va_cwS 1 hts gX0_pass_X0_needArgument rfl rfl rfl (by decide +kernel) ⟨Nat.le_of_ble_eq_true rfl, Nat.le_of_ble_eq_true rfl⟩) hK hI hA hZ hno hlocks rfl hl.1 rfl (Nat.le_of_ble_eq_true rfl) dX0_pass_8 ⟨Nat.le_of_ble_eq_true rfl, Nat.le_of_ble_eq_true rfl⟩ rfl (Or.inl ⟨rfl, c8⟩)
