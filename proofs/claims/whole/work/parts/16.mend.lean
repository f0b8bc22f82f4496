set_option maxHeartbeats 4000000 in
set_option maxRecDepth 100000 in
theorem c_X1_end (l : Launch) (D : va_G) (cI cZ : ClassId) (h : Nat) (a : Nat → Nat) (u : cp_M) (x : Int32) (t9 : Int32) (hN1 : cp_cn u 1 16) (hN2 : cp_cn u 2 40) (hN3 : cp_cn u 3 40) (cf : Nat → Nat) (hC : ∀ k, k < cp_n u 3 → cf k < 4 ∧ u 11 k = nI (cf k)) : ∀ sz : Nat, Met l yX1_end wsX1_end ({ frames := 3, cells := 0, slots := 0, locals := 72 } : Room) (va_Pc [.ref h, .int x, .int t9] (cp_pre D [(cI, .int), (cZ, .boolean)] (cp_wY cI cZ h a u) sz)) (va_Qi (fun (r : Int32) (u1 : cp_M) => (¬ (cp_bw x 0 (u 14 2 - 1)) ∧ u1 = cp_thw u 1) ∨ ((cp_bw x 0 (u 14 2 - 1)) ∧ ¬ (cp_bw t9 (u 14 0 - 1) 1459) ∧ u1 = cp_thw u 2) ∨ ((cp_bw t9 (u 14 0 - 1) 1459) ∧ ∃ g1, g1 < cp_n u 2 ∧ x = nI g1 ∧ ((u 10 g1 ≤ t9 ∧ u1 = cp_thw u 3) ∨ (¬ u 10 g1 ≤ t9 ∧ r = nI (cp_cnt (cp_lost (cp_cut (cp_thw u 0) g1 t9)) (cp_n u 3)) ∧ u1 = cp_peY (cp_lost (cp_cut (cp_thw u 0) g1 t9)) cf (cp_end2 (cp_cut (cp_thw u 0) g1 t9) (cp_n u 3)) (cp_n u 3))))) (cp_at D [(cI, .int), (cZ, .boolean)] (va_A (cp_wY cI cZ h a u) sz) (cp_wY cI cZ h a)) (va_A (cp_wY cI cZ h a u) sz)) 0 0 (va_A (cp_wY cI cZ h a u) sz) := by
  refine cp_MetI (Qk := fun A => va_Qi (fun (r : Int32) (u1 : cp_M) => (¬ (cp_bw x 0 (u 14 2 - 1)) ∧ u1 = cp_thw u 1) ∨ ((cp_bw x 0 (u 14 2 - 1)) ∧ ¬ (cp_bw t9 (u 14 0 - 1) 1459) ∧ u1 = cp_thw u 2) ∨ ((cp_bw t9 (u 14 0 - 1) 1459) ∧ ∃ g1, g1 < cp_n u 2 ∧ x = nI g1 ∧ ((u 10 g1 ≤ t9 ∧ u1 = cp_thw u 3) ∨ (¬ u 10 g1 ≤ t9 ∧ r = nI (cp_cnt (cp_lost (cp_cut (cp_thw u 0) g1 t9)) (cp_n u 3)) ∧ u1 = cp_peY (cp_lost (cp_cut (cp_thw u 0) g1 t9)) cf (cp_end2 (cp_cut (cp_thw u 0) g1 t9) (cp_n u 3)) (cp_n u 3))))) (cp_at D [(cI, .int), (cZ, .boolean)] A (cp_wY cI cZ h a)) A) (by decide) rfl (Nat.le_of_ble_eq_true rfl) ?_
  intro p e s m args below meth c A hC hA hK hI ls hl
  obtain ⟨hx, hb, hml, hown, hts, hr, hlocks⟩ := hC
  have hown : s.vm.findClass RX1 = some m.cls := hown
  have hl : lv_has ls 5 [(0, .ref h), (1, .int x), (2, .int t9)] := hl
  have inW : ∀ w ∈ wsX10, w ∈ wsX1_end := by decide +kernel
  have fl_day : Cond.fieldLink RX1 43 "CanticlePressModel" "day" "[I" ∈ wsX1_end := by decide +kernel
  have fl_isAnew : Cond.fieldLink RX1 49 "CanticlePressModel" "isAnew" "[Z" ∈ wsX1_end := by decide +kernel
  have fl_last : Cond.fieldLink RX1 34 "CanticlePressModel" "last" "[I" ∈ wsX1_end := by decide +kernel
  have fl_rights : Cond.fieldLink RX1 86 "CanticlePressModel" "rights" "I" ∈ wsX1_end := by decide +kernel
  have fl_services : Cond.fieldLink RX1 92 "CanticlePressModel" "services" "I" ∈ wsX1_end := by decide +kernel
  have fl_sung : Cond.fieldLink RX1 46 "CanticlePressModel" "sung" "[I" ∈ wsX1_end := by decide +kernel
  have fl_thrown : Cond.fieldLink RX1 53 "CanticlePressModel" "thrown" "I" ∈ wsX1_end := by decide +kernel
  have fl_today : Cond.fieldLink RX1 89 "CanticlePressModel" "today" "I" ∈ wsX1_end := by decide +kernel
  refine lv_aload_n hx hb dX1_end_0 rfl (lv_at hl 0 rfl) ?_
  refine lv_iload_n hx hb dX1_end_1 rfl (lv_at hl 1 rfl) ?_
  refine lv_iconst (v := 0) hx hb dX1_end_2 (by decide) ?_
  refine lv_aload_n hx hb dX1_end_3 rfl (lv_at hl 0 rfl) ?_
  refine cp_get (v := .int (u 14 2)) hx hb hts inW hown hK hI (cp_hY _ _ _ _ _) rfl 8 (by decide) fl_rights rfl rfl dX1_end_4 ?_
  refine lv_iconst (v := 1) hx hb dX1_end_7 (by decide) ?_
  refine lv_isub hx hb dX1_end_8 ?_
  refine cp_cSi0 (As := [.int x, .int 0, .int ((u 14 2) - 1)]) (rest := [.ref h]) ⟨hx, hb, hml, hown, hts⟩ ((c_X1_isIn l x 0 ((u 14 2) - 1)) D) (va_cwS 3 hts gX1_end_X1_isIn rfl rfl rfl (by decide +kernel) ⟨Nat.le_of_ble_eq_true rfl, Nat.le_of_ble_eq_true rfl⟩) hK hI hA rfl hl.1 rfl (Nat.le_of_ble_eq_true rfl) dX1_end_9 ⟨Nat.le_of_ble_eq_true rfl, Nat.le_of_ble_eq_true rfl⟩ (fun r9 u9 H locs hp9 hI => ?_)
  obtain rfl := hp9
  refine lv_if_eq (tgt := 19) hx hb dX1_end_12 (by decide) (fun c12 => ?_) (fun c12 => ?_)
  · have c12 := cp_b0.mp c12
    refine lv_iconst (v := 1) hx hb dX1_end_19 (by decide) ?_
    refine cp_puti hx hb hts inW tyX1 tyX1_ok nmX1 hown hK hI (cp_hY _ _ _ _ _) rfl 0 (by decide) fl_thrown rfl rfl (by decide +kernel) (Nat.le_of_ble_eq_true rfl) dX1_end_20 (cp_tY _ _ _ _ _ _) (fun H locs hI => ?_)
    refine lv_aload_n hx hb dX1_end_23 rfl (lv_at hl 0 rfl) ?_
    refine cp_get (v := .int 1) hx hb hts inW hown hK hI (cp_hY _ _ _ _ _) rfl 0 (by decide) fl_thrown rfl rfl dX1_end_24 ?_
    refine lv_if_le (tgt := 32) hx hb dX1_end_27 (by decide) (fun c27 => ?_) (fun c27 => ?_)
    · exact absurd c27 (by decide)
    · refine lv_iconst (v := 0) hx hb dX1_end_30 (by decide) ?_
      exact cp_reti (u := (cp_thw u 1)) (v := 0) hx hb hr hlocks hK hI (Or.inl ⟨c12, rfl⟩) dX1_end_31
  · have c12 := Classical.not_not.mp (fun h9 => c12 (cp_b0.mpr h9))
    refine lv_iconst (v := 0) hx hb dX1_end_15 (by decide) ?_
    refine lv_goto (tgt := 20) hx hb dX1_end_16 (by decide) ?_
    refine cp_puti hx hb hts inW tyX1 tyX1_ok nmX1 hown hK hI (cp_hY _ _ _ _ _) rfl 0 (by decide) fl_thrown rfl rfl (by decide +kernel) (Nat.le_of_ble_eq_true rfl) dX1_end_20 (cp_tY _ _ _ _ _ _) (fun H locs hI => ?_)
    refine lv_aload_n hx hb dX1_end_23 rfl (lv_at hl 0 rfl) ?_
    refine cp_get (v := .int 0) hx hb hts inW hown hK hI (cp_hY _ _ _ _ _) rfl 0 (by decide) fl_thrown rfl rfl dX1_end_24 ?_
    refine lv_if_le (tgt := 32) hx hb dX1_end_27 (by decide) (fun c27 => ?_) (fun c27 => ?_)
    · refine lv_aload_n hx hb dX1_end_32 rfl (lv_at hl 0 rfl) ?_
      refine lv_iload_n hx hb dX1_end_33 rfl (lv_at hl 2 rfl) ?_
      refine lv_aload_n hx hb dX1_end_34 rfl (lv_at hl 0 rfl) ?_
      refine cp_get (v := .int (u 14 0)) hx hb hts inW hown hK hI (cp_hY _ _ _ _ _) rfl 1 (by decide) fl_today rfl rfl dX1_end_35 ?_
      refine lv_iconst (v := 1) hx hb dX1_end_38 (by decide) ?_
      refine lv_isub hx hb dX1_end_39 ?_
      refine lv_sipush (v := 1459) hx hb dX1_end_40 (by decide) ?_
      refine cp_cSi0 (As := [.int t9, .int ((u 14 0) - 1), .int 1459]) (rest := [.ref h]) ⟨hx, hb, hml, hown, hts⟩ ((c_X1_isIn l t9 ((u 14 0) - 1) 1459) D) (va_cwS 3 hts gX1_end_X1_isIn rfl rfl rfl (by decide +kernel) ⟨Nat.le_of_ble_eq_true rfl, Nat.le_of_ble_eq_true rfl⟩) hK hI hA rfl hl.1 rfl (Nat.le_of_ble_eq_true rfl) dX1_end_43 ⟨Nat.le_of_ble_eq_true rfl, Nat.le_of_ble_eq_true rfl⟩ (fun r43 u43 H locs hp43 hI => ?_)
      obtain rfl := hp43
      refine lv_if_ne (tgt := 53) hx hb dX1_end_46 (by decide) (fun c46 => ?_) (fun c46 => ?_)
      · have c46 := Classical.not_not.mp (fun h9 => c46 (cp_b0.mpr h9))
        obtain ⟨g, hg, rfl⟩ := cp_idx hN2 c12
        have hN9 := hN2.2.1
        refine lv_aload_n hx hb dX1_end_53 rfl (lv_at hl 0 rfl) ?_
        refine cp_get (v := .ref (a 10)) hx hb hts inW hown hK hI (cp_hY _ _ _ _ _) rfl 12 (by decide) fl_last rfl rfl dX1_end_54 ?_
        refine lv_iload_n hx hb dX1_end_57 rfl (lv_at hl 1 rfl) ?_
        refine cp_iald (f := u 10) hx hb hK hI 0 (cp_aY_10 _ _ _ _ _) rfl (j := g) (cp_ix_n (by omega) (by decide)) dX1_end_58 ?_
        refine lv_iload_n hx hb dX1_end_59 rfl (lv_at hl 2 rfl) ?_
        refine lv_icmp_gt (tgt := 67) hx hb dX1_end_60 (by decide) (fun c60 => ?_) (fun c60 => ?_)
        · refine lv_iconst (v := 0) hx hb dX1_end_67 (by decide) ?_
          refine cp_puti hx hb hts inW tyX1 tyX1_ok nmX1 hown hK hI (cp_hY _ _ _ _ _) rfl 0 (by decide) fl_thrown rfl rfl (by decide +kernel) (Nat.le_of_ble_eq_true rfl) dX1_end_68 (cp_tY _ _ _ _ _ _) (fun H locs hI => ?_)
          rw [cp_thw_thw] at hI
          refine lv_aload_n hx hb dX1_end_71 rfl (lv_at hl 0 rfl) ?_
          refine cp_get (v := .int 0) hx hb hts inW hown hK hI (cp_hY _ _ _ _ _) rfl 0 (by decide) fl_thrown rfl rfl dX1_end_72 ?_
          refine lv_if_le (tgt := 80) hx hb dX1_end_75 (by decide) (fun c75 => ?_) (fun c75 => ?_)
          · refine lv_aload_n hx hb dX1_end_80 rfl (lv_at hl 0 rfl) ?_
            refine cp_get (v := .ref (a 10)) hx hb hts inW hown hK hI (cp_hY _ _ _ _ _) rfl 12 (by decide) fl_last rfl rfl dX1_end_81 ?_
            refine lv_iload_n hx hb dX1_end_84 rfl (lv_at hl 1 rfl) ?_
            refine lv_iload_n hx hb dX1_end_85 rfl (lv_at hl 2 rfl) ?_
            refine cp_iast hx hb hK hI 0 (cp_aY_10 _ _ _ _ _) rfl (j := g) (cp_ix_n (by omega) (by decide)) dX1_end_86 (cp_sY_10 _ _ _ _ _ _) (fun H locs hI => ?_)
            obtain ⟨u86, eu86⟩ : ∃ z9, z9 = cp_up (cp_thw u 0) 10 (upd ((cp_thw u 0) 10) g t9) := ⟨_, rfl⟩
            rw [← eu86] at hI
            have hM1 : cp_cn u86 1 16 := by rw [eu86]; exact hN1
            have hM2 : cp_cn u86 2 40 := by rw [eu86]; exact hN2
            have hM3 : cp_cn u86 3 40 := by rw [eu86]; exact hN3
            have hM9 := hM3.2.1
            have hCu : ∀ k, k < cp_n u86 3 → cf k < 4 ∧ u86 11 k = nI (cf k) := by rw [eu86]; exact hC
            refine lv_iconst (v := 0) hx hb dX1_end_87 (by decide) ?_
            refine lv_istore_n (lv' := [(3, .int 0), (0, .ref h), (1, .int (nI g)), (2, .int t9)]) hx hb dX1_end_88 rfl hl (by decide) rfl (fun ls hl => ?_)
            refine lv_iconst (v := 0) hx hb dX1_end_89 (by decide) ?_
            refine lv_istore (lv' := [(4, .int 0), (3, .int 0), (0, .ref h), (1, .int (nI g)), (2, .int t9)]) hx hb dX1_end_90 hl (by decide) rfl (fun ls hl => ?_)
            have L92 : ∀ (n9 : Nat) (k : Nat) (hm9 : cp_n u86 3 - k < n9) (hk : k ≤ cp_n u86 3), ∀ (H : Heap) (locs : List Loc), cp_I D (cp_wY cI cZ h a (cp_up u86 4 (cp_anF u86 k))) A s.heap H locs → ∀ ls, lv_has ls 5 [(4, .int (nI k)), (3, .int (nI (cp_cnt (cp_lost u86) k))), (0, .ref h), (1, .int (nI g)), (2, .int t9)] → W p l e ({ frames := 3, cells := 0, slots := 0, locals := 72 } : Room) s m args below meth c H locs 0 0 (MQ below (va_Qi (fun (r : Int32) (u1 : cp_M) => (¬ (cp_bw (nI g) 0 (u 14 2 - 1)) ∧ u1 = cp_thw u 1) ∨ ((cp_bw (nI g) 0 (u 14 2 - 1)) ∧ ¬ (cp_bw t9 (u 14 0 - 1) 1459) ∧ u1 = cp_thw u 2) ∨ ((cp_bw t9 (u 14 0 - 1) 1459) ∧ ∃ g1, g1 < cp_n u 2 ∧ (nI g) = nI g1 ∧ ((u 10 g1 ≤ t9 ∧ u1 = cp_thw u 3) ∨ (¬ u 10 g1 ≤ t9 ∧ r = nI (cp_cnt (cp_lost (cp_cut (cp_thw u 0) g1 t9)) (cp_n u 3)) ∧ u1 = cp_peY (cp_lost (cp_cut (cp_thw u 0) g1 t9)) cf (cp_end2 (cp_cut (cp_thw u 0) g1 t9) (cp_n u 3)) (cp_n u 3))))) (cp_at D [(cI, .int), (cZ, .boolean)] A (cp_wY cI cZ h a)) A) args s 0 0 A) (F0 m 92 ls []) := by
              intro n9
              induction n9 with
              | zero => intro k hm9; omega
              | succ n9 ih =>
                intro k hm9 hk H locs hI ls hl
                refine lv_iload hx hb dX1_end_92 (lv_at hl 0 rfl) ?_
                refine lv_aload_n hx hb dX1_end_94 rfl (lv_at hl 2 rfl) ?_
                refine cp_get (v := .int ((cp_up u86 4 (cp_anF u86 k)) 14 3)) hx hb hts inW hown hK hI (cp_hY _ _ _ _ _) rfl 14 (by decide) fl_services rfl rfl dX1_end_95 ?_
                refine lv_icmp_ge (tgt := 184) hx hb dX1_end_98 (by decide) (fun c98 => ?_) (fun c98 => ?_)
                · have hk2 := cp_ex (k := k) hM3 hk c98
                  refine lv_iconst (v := 0) hx hb dX1_end_184 (by decide) ?_
                  refine lv_istore (lv' := [(4, .int 0), (3, .int (nI (cp_cnt (cp_lost u86) k))), (0, .ref h), (1, .int (nI g)), (2, .int t9)]) hx hb dX1_end_185 hl (by decide) rfl (fun ls hl => ?_)
                  have L187 : ∀ (n9 : Nat) (k : Nat) (hm9 : cp_n u86 3 - k < n9) (hk : k ≤ cp_n u86 3), ∀ (H : Heap) (locs : List Loc), cp_I D (cp_wY cI cZ h a (cp_end2 u86 k)) A s.heap H locs → ∀ ls, lv_has ls 5 [(4, .int (nI k)), (3, .int (nI (cp_cnt (cp_lost u86) (cp_n u86 3)))), (0, .ref h), (1, .int (nI g)), (2, .int t9)] → W p l e ({ frames := 3, cells := 0, slots := 0, locals := 72 } : Room) s m args below meth c H locs 0 0 (MQ below (va_Qi (fun (r : Int32) (u1 : cp_M) => (¬ (cp_bw (nI g) 0 (u 14 2 - 1)) ∧ u1 = cp_thw u 1) ∨ ((cp_bw (nI g) 0 (u 14 2 - 1)) ∧ ¬ (cp_bw t9 (u 14 0 - 1) 1459) ∧ u1 = cp_thw u 2) ∨ ((cp_bw t9 (u 14 0 - 1) 1459) ∧ ∃ g1, g1 < cp_n u 2 ∧ (nI g) = nI g1 ∧ ((u 10 g1 ≤ t9 ∧ u1 = cp_thw u 3) ∨ (¬ u 10 g1 ≤ t9 ∧ r = nI (cp_cnt (cp_lost (cp_cut (cp_thw u 0) g1 t9)) (cp_n u 3)) ∧ u1 = cp_peY (cp_lost (cp_cut (cp_thw u 0) g1 t9)) cf (cp_end2 (cp_cut (cp_thw u 0) g1 t9) (cp_n u 3)) (cp_n u 3))))) (cp_at D [(cI, .int), (cZ, .boolean)] A (cp_wY cI cZ h a)) A) args s 0 0 A) (F0 m 187 ls []) := by
                    intro n9
                    induction n9 with
                    | zero => intro k hm9; omega
                    | succ n9 ih =>
                      intro k hm9 hk H locs hI ls hl
                      refine lv_iload hx hb dX1_end_187 (lv_at hl 0 rfl) ?_
                      refine lv_aload_n hx hb dX1_end_189 rfl (lv_at hl 2 rfl) ?_
                      refine cp_get (v := .int ((cp_end2 u86 k) 14 3)) hx hb hts inW hown hK hI (cp_hY _ _ _ _ _) rfl 14 (by decide) fl_services rfl rfl dX1_end_190 ?_
                      refine lv_icmp_ge (tgt := 230) hx hb dX1_end_193 (by decide) (fun c193 => ?_) (fun c193 => ?_)
                      · have hk2 := cp_ex (k := k) hM3 hk c193
                        refine lv_iconst (v := 0) hx hb dX1_end_230 (by decide) ?_
                        refine lv_istore (lv' := [(4, .int 0), (3, .int (nI (cp_cnt (cp_lost u86) (cp_n u86 3)))), (0, .ref h), (1, .int (nI g)), (2, .int t9)]) hx hb dX1_end_231 hl (by decide) rfl (fun ls hl => ?_)
                        have L233 : ∀ (n9 : Nat) (k : Nat) (hm9 : cp_n u86 3 - k < n9) (hk : k ≤ cp_n u86 3), ∀ (H : Heap) (locs : List Loc), cp_I D (cp_wY cI cZ h a (cp_peY (cp_lost u86) cf (cp_end2 u86 (cp_n u86 3)) k)) A s.heap H locs → ∀ ls, lv_has ls 5 [(4, .int (nI k)), (3, .int (nI (cp_cnt (cp_lost u86) (cp_n u86 3)))), (0, .ref h), (1, .int (nI g)), (2, .int t9)] → W p l e ({ frames := 3, cells := 0, slots := 0, locals := 72 } : Room) s m args below meth c H locs 0 0 (MQ below (va_Qi (fun (r : Int32) (u1 : cp_M) => (¬ (cp_bw (nI g) 0 (u 14 2 - 1)) ∧ u1 = cp_thw u 1) ∨ ((cp_bw (nI g) 0 (u 14 2 - 1)) ∧ ¬ (cp_bw t9 (u 14 0 - 1) 1459) ∧ u1 = cp_thw u 2) ∨ ((cp_bw t9 (u 14 0 - 1) 1459) ∧ ∃ g1, g1 < cp_n u 2 ∧ (nI g) = nI g1 ∧ ((u 10 g1 ≤ t9 ∧ u1 = cp_thw u 3) ∨ (¬ u 10 g1 ≤ t9 ∧ r = nI (cp_cnt (cp_lost (cp_cut (cp_thw u 0) g1 t9)) (cp_n u 3)) ∧ u1 = cp_peY (cp_lost (cp_cut (cp_thw u 0) g1 t9)) cf (cp_end2 (cp_cut (cp_thw u 0) g1 t9) (cp_n u 3)) (cp_n u 3))))) (cp_at D [(cI, .int), (cZ, .boolean)] A (cp_wY cI cZ h a)) A) args s 0 0 A) (F0 m 233 ls []) := by
                          intro n9
                          induction n9 with
                          | zero => intro k hm9; omega
                          | succ n9 ih =>
                            intro k hm9 hk H locs hI ls hl
                            have hs14 : (cp_peY (cp_lost u86) cf (cp_end2 u86 (cp_n u86 3)) k) 14 = u86 14 := cp_peY_r _ _ _ (by decide) k
                            refine lv_iload hx hb dX1_end_233 (lv_at hl 0 rfl) ?_
                            refine lv_aload_n hx hb dX1_end_235 rfl (lv_at hl 2 rfl) ?_
                            refine cp_get (v := .int ((cp_peY (cp_lost u86) cf (cp_end2 u86 (cp_n u86 3)) k) 14 3)) hx hb hts inW hown hK hI (cp_hY _ _ _ _ _) rfl 14 (by decide) fl_services rfl rfl dX1_end_236 ?_
                            refine lv_icmp_ge (tgt := 264) hx hb dX1_end_239 (by decide) (fun c239 => ?_) (fun c239 => ?_)
                            · have hk2 := cp_ex (k := k) hM3 hk (by rw [← hs14]; exact c239)
                              refine lv_iload_n hx hb dX1_end_264 rfl (lv_at hl 1 rfl) ?_
                              exact cp_reti (u := (cp_peY (cp_lost u86) cf (cp_end2 u86 (cp_n u86 3)) k)) (v := (nI (cp_cnt (cp_lost u86) (cp_n u86 3)))) hx hb hr hlocks hK hI (Or.inr (Or.inr ⟨c46, g, hg, rfl, Or.inr ⟨Int32.not_le.mpr c60, by subst eu86; rfl, by rw [hk2]; subst eu86; rfl⟩⟩)) dX1_end_265
                            · have hk2 := cp_in (k := k) hM3 (by omega) (by rw [← hs14]; exact c239)
                              refine lv_aload_n hx hb dX1_end_242 rfl (lv_at hl 2 rfl) ?_
                              refine cp_get (v := .ref (a 4)) hx hb hts inW hown hK hI (cp_hY _ _ _ _ _) rfl 18 (by decide) fl_isAnew rfl rfl dX1_end_243 ?_
                              refine lv_iload hx hb dX1_end_246 (lv_at hl 0 rfl) ?_
                              refine cp_zald (f := (cp_peY (cp_lost u86) cf (cp_end2 u86 (cp_n u86 3)) k) 4) hx hb hK hI 1 (cp_aY_4 _ _ _ _ _) rfl (j := k) (cp_ix_n (by omega) (by decide)) dX1_end_248 ?_
                              rw [show (cp_peY (cp_lost u86) cf (cp_end2 u86 (cp_n u86 3)) k) 4 k = cp_b (cp_lost u86 k) from by rw [cp_peY_r _ _ _ (by decide)]; unfold cp_end2; rw [cp_up_s]; exact cp_anF_lt u86 hk2]
                              refine lv_if_eq (tgt := 258) hx hb dX1_end_249 (by decide) (fun c249 => ?_) (fun c249 => ?_)
                              · have c249 := cp_b0.mp c249
                                have hlk := c249
                                obtain ⟨x258, ex258⟩ : ∃ y9 : Int32, y9 = (nI k) + 1 := ⟨_, rfl⟩
                                refine lv_iinc (v := x258) (lv' := [(4, .int x258), (3, .int (nI (cp_cnt (cp_lost u86) (cp_n u86 3)))), (0, .ref h), (1, .int (nI g)), (2, .int t9)]) hx hb dX1_end_258 hl (k := 0) rfl (by rw [ex258]; rfl) (by decide) rfl (fun ls hl => ?_)
                                refine lv_goto (tgt := 233) hx hb dX1_end_261 (by decide) ?_
                                rw [← cp_peY_f (q := cp_lost u86) (cf := cf) hlk] at hI
                                obtain rfl : x258 = nI (k + 1) := by rw [ex258]; exact nI_1 k
                                exact ih (k + 1) (by omega) (by omega) _ _ hI ls (lv_sub hl [0, 1, 2, 3, 4] rfl)
                              · have c249 := Classical.not_not.mp (fun h9 => c249 (cp_b0.mpr h9))
                                have hlk := c249
                                refine lv_aload_n hx hb dX1_end_252 rfl (lv_at hl 2 rfl) ?_
                                refine lv_iload hx hb dX1_end_253 (lv_at hl 0 rfl) ?_
                                refine cp_cVv0 (wc := cp_wY cI cZ h a) (u := (cp_peY (cp_lost u86) cf (cp_end2 u86 (cp_n u86 3)) k)) (As := [.int (nI k)]) (rest := []) ⟨hx, hb, hml, hown, hts⟩ (c_X1_plans l D cI cZ h a (cp_peY (cp_lost u86) cf (cp_end2 u86 (cp_n u86 3)) k) k (cf k) (by omega) (hCu k hk2).1 (by rw [cp_peY_r _ _ _ (by decide)]; exact (hCu k hk2).2) (cp_cn_c hM1 hs14) (cp_cn_c hM2 hs14) (cp_cn_c hM3 hs14)) (cwV 1 hts gX1_end_X1_plans rfl rfl rfl (by decide +kernel) ⟨Nat.le_of_ble_eq_true rfl, Nat.le_of_ble_eq_true rfl⟩) hK hI hA ⟨_, cp_hY _ _ _ _ _⟩ rfl rfl rfl hl.1 rfl (Nat.le_of_ble_eq_true rfl) dX1_end_255 ⟨Nat.le_of_ble_eq_true rfl, Nat.le_of_ble_eq_true rfl⟩ (fun u255 H locs hp255 hI => ?_)
                                have eu255 := hp255
                                obtain ⟨x258, ex258⟩ : ∃ y9 : Int32, y9 = (nI k) + 1 := ⟨_, rfl⟩
                                refine lv_iinc (v := x258) (lv' := [(4, .int x258), (3, .int (nI (cp_cnt (cp_lost u86) (cp_n u86 3)))), (0, .ref h), (1, .int (nI g)), (2, .int t9)]) hx hb dX1_end_258 hl (k := 0) rfl (by rw [ex258]; rfl) (by decide) rfl (fun ls hl => ?_)
                                refine lv_goto (tgt := 233) hx hb dX1_end_261 (by decide) ?_
                                rw [eu255, ← cp_peY_t (q := cp_lost u86) (cf := cf) hlk] at hI
                                obtain rfl : x258 = nI (k + 1) := by rw [ex258]; exact nI_1 k
                                exact ih (k + 1) (by omega) (by omega) _ _ hI ls (lv_sub hl [0, 1, 2, 3, 4] rfl)
                        rw [hk2] at hI
                        exact L233 ((cp_n u86 3) + 1) 0 (Nat.lt_succ_self _) (Nat.zero_le _) _ _ hI ls (lv_sub hl [0, 1, 2, 3, 4] rfl)
                      · have hk2 := cp_in (k := k) hM3 (by omega) c193
                        refine lv_aload_n hx hb dX1_end_196 rfl (lv_at hl 2 rfl) ?_
                        refine cp_get (v := .ref (a 13)) hx hb hts inW hown hK hI (cp_hY _ _ _ _ _) rfl 17 (by decide) fl_sung rfl rfl dX1_end_197 ?_
                        refine lv_iload hx hb dX1_end_200 (lv_at hl 0 rfl) ?_
                        refine lv_aload_n hx hb dX1_end_202 rfl (lv_at hl 2 rfl) ?_
                        refine cp_get (v := .ref (a 4)) hx hb hts inW hown hK hI (cp_hY _ _ _ _ _) rfl 18 (by decide) fl_isAnew rfl rfl dX1_end_203 ?_
                        refine lv_iload hx hb dX1_end_206 (lv_at hl 0 rfl) ?_
                        refine cp_zald (f := (cp_end2 u86 k) 4) hx hb hK hI 1 (cp_aY_4 _ _ _ _ _) rfl (j := k) (cp_ix_n (by omega) (by decide)) dX1_end_208 ?_
                        rw [show cp_end2 u86 k 4 k = cp_b (cp_lost u86 k) from by unfold cp_end2; rw [cp_up_s]; exact cp_anF_lt u86 hk2]
                        refine lv_if_eq (tgt := 216) hx hb dX1_end_209 (by decide) (fun c209 => ?_) (fun c209 => ?_)
                        · have c209 := cp_b0.mp c209
                          have hlk := c209
                          refine lv_aload_n hx hb dX1_end_216 rfl (lv_at hl 2 rfl) ?_
                          refine cp_get (v := .ref (a 13)) hx hb hts inW hown hK hI (cp_hY _ _ _ _ _) rfl 17 (by decide) fl_sung rfl rfl dX1_end_217 ?_
                          refine lv_iload hx hb dX1_end_220 (lv_at hl 0 rfl) ?_
                          refine cp_iald (f := (cp_end2 u86 k) 13) hx hb hK hI 0 (cp_aY_13 _ _ _ _ _) rfl (j := k) (cp_ix_n (by omega) (by decide)) dX1_end_222 ?_
                          refine cp_iast hx hb hK hI 0 (cp_aY_13 _ _ _ _ _) rfl (j := k) (cp_ix_n (by omega) (by decide)) dX1_end_223 (cp_sY_13 _ _ _ _ _ _) (fun H locs hI => ?_)
                          obtain ⟨u223, eu223⟩ : ∃ z9, z9 = cp_up (cp_end2 u86 k) 13 (upd ((cp_end2 u86 k) 13) k ((cp_end2 u86 k) 13 k)) := ⟨_, rfl⟩
                          rw [← eu223] at hI
                          obtain ⟨x224, ex224⟩ : ∃ y9 : Int32, y9 = (nI k) + 1 := ⟨_, rfl⟩
                          refine lv_iinc (v := x224) (lv' := [(4, .int x224), (3, .int (nI (cp_cnt (cp_lost u86) (cp_n u86 3)))), (0, .ref h), (1, .int (nI g)), (2, .int t9)]) hx hb dX1_end_224 hl (k := 0) rfl (by rw [ex224]; rfl) (by decide) rfl (fun ls hl => ?_)
                          refine lv_goto (tgt := 187) hx hb dX1_end_227 (by decide) ?_
                          have h223 : u223 = cp_end2 u86 (k + 1) := by rw [eu223]; exact cp_end2_s u86 k (by first | exact (cp_sil_13 u86 (k + 1) k ▸ (@if_pos _ (Classical.propDecidable _) ⟨by omega, hlk⟩ Int32 (-1) (u86 13 k)).symm) | exact (by rw [cp_end2_13, cp_sil_ge u86 (Nat.le_refl k), cp_sil_13, @if_neg _ (Classical.propDecidable _) (fun z => hlk z.2)]))
                          rw [h223] at hI
                          obtain rfl : x224 = nI (k + 1) := by rw [ex224]; exact nI_1 k
                          exact ih (k + 1) (by omega) (by omega) _ _ hI ls (lv_sub hl [0, 1, 2, 3, 4] rfl)
                        · have c209 := Classical.not_not.mp (fun h9 => c209 (cp_b0.mpr h9))
                          have hlk := c209
                          refine lv_iconst (v := (-1)) hx hb dX1_end_212 (by decide) ?_
                          refine lv_goto (tgt := 223) hx hb dX1_end_213 (by decide) ?_
                          refine cp_iast hx hb hK hI 0 (cp_aY_13 _ _ _ _ _) rfl (j := k) (cp_ix_n (by omega) (by decide)) dX1_end_223 (cp_sY_13 _ _ _ _ _ _) (fun H locs hI => ?_)
                          obtain ⟨u223, eu223⟩ : ∃ z9, z9 = cp_up (cp_end2 u86 k) 13 (upd ((cp_end2 u86 k) 13) k (-1)) := ⟨_, rfl⟩
                          rw [← eu223] at hI
                          obtain ⟨x224, ex224⟩ : ∃ y9 : Int32, y9 = (nI k) + 1 := ⟨_, rfl⟩
                          refine lv_iinc (v := x224) (lv' := [(4, .int x224), (3, .int (nI (cp_cnt (cp_lost u86) (cp_n u86 3)))), (0, .ref h), (1, .int (nI g)), (2, .int t9)]) hx hb dX1_end_224 hl (k := 0) rfl (by rw [ex224]; rfl) (by decide) rfl (fun ls hl => ?_)
                          refine lv_goto (tgt := 187) hx hb dX1_end_227 (by decide) ?_
                          have h223 : u223 = cp_end2 u86 (k + 1) := by rw [eu223]; exact cp_end2_s u86 k (by first | exact (cp_sil_13 u86 (k + 1) k ▸ (@if_pos _ (Classical.propDecidable _) ⟨by omega, hlk⟩ Int32 (-1) (u86 13 k)).symm) | exact (by rw [cp_end2_13, cp_sil_ge u86 (Nat.le_refl k), cp_sil_13, @if_neg _ (Classical.propDecidable _) (fun z => hlk z.2)]))
                          rw [h223] at hI
                          obtain rfl : x224 = nI (k + 1) := by rw [ex224]; exact nI_1 k
                          exact ih (k + 1) (by omega) (by omega) _ _ hI ls (lv_sub hl [0, 1, 2, 3, 4] rfl)
                  rw [hk2, ← cp_end2_0] at hI
                  rw [hk2] at hl
                  exact L187 ((cp_n u86 3) + 1) 0 (Nat.lt_succ_self _) (Nat.zero_le _) _ _ hI ls (lv_sub hl [0, 1, 2, 3, 4] rfl)
                · have hk2 := cp_in (k := k) hM3 (by omega) c98
                  refine lv_aload_n hx hb dX1_end_101 rfl (lv_at hl 2 rfl) ?_
                  refine cp_get (v := .ref (a 4)) hx hb hts inW hown hK hI (cp_hY _ _ _ _ _) rfl 18 (by decide) fl_isAnew rfl rfl dX1_end_102 ?_
                  refine lv_iload hx hb dX1_end_105 (lv_at hl 0 rfl) ?_
                  refine lv_aload_n hx hb dX1_end_107 rfl (lv_at hl 2 rfl) ?_
                  refine cp_get (v := .ref (a 12)) hx hb hts inW hown hK hI (cp_hY _ _ _ _ _) rfl 16 (by decide) fl_day rfl rfl dX1_end_108 ?_
                  refine lv_iload hx hb dX1_end_111 (lv_at hl 0 rfl) ?_
                  refine cp_iald (f := (cp_up u86 4 (cp_anF u86 k)) 12) hx hb hK hI 0 (cp_aY_12 _ _ _ _ _) rfl (j := k) (cp_ix_n (by omega) (by decide)) dX1_end_113 ?_
                  refine lv_aload_n hx hb dX1_end_114 rfl (lv_at hl 2 rfl) ?_
                  refine cp_get (v := .int ((cp_up u86 4 (cp_anF u86 k)) 14 0)) hx hb hts inW hown hK hI (cp_hY _ _ _ _ _) rfl 1 (by decide) fl_today rfl rfl dX1_end_115 ?_
                  refine lv_icmp_lt (tgt := 158) hx hb dX1_end_118 (by decide) (fun c118 => ?_) (fun c118 => ?_)
                  · refine lv_iconst (v := 0) hx hb dX1_end_158 (by decide) ?_
                    refine cp_zast (y := 0) hx hb hK hI 1 (cp_aY_4 _ _ _ _ _) rfl (j := k) (cp_ix_n (by omega) (by decide)) rfl dX1_end_159 (cp_sY_4 _ _ _ _ _ _) (fun H locs hI => ?_)
                    obtain ⟨u159, eu159⟩ : ∃ z9, z9 = cp_up (cp_up u86 4 (cp_anF u86 k)) 4 (upd ((cp_up u86 4 (cp_anF u86 k)) 4) k 0) := ⟨_, rfl⟩
                    rw [← eu159] at hI
                    have hlk : ¬ cp_lost u86 k := by first | exact fun h => absurd h.1 (Int32.not_le.mpr c118) | exact fun h => h.2.1 c129 | exact fun h => h.2.2 c151
                    have hz : (0 : Int32) = cp_b (cp_lost u86 k) := (cp_bf hlk).symm
                    refine lv_iload_n hx hb dX1_end_160 rfl (lv_at hl 1 rfl) ?_
                    refine lv_aload_n hx hb dX1_end_161 rfl (lv_at hl 2 rfl) ?_
                    refine cp_get (v := .ref (a 4)) hx hb hts inW hown hK hI (cp_hY _ _ _ _ _) rfl 18 (by decide) fl_isAnew rfl rfl dX1_end_162 ?_
                    refine lv_iload hx hb dX1_end_165 (lv_at hl 0 rfl) ?_
                    refine cp_zald (f := u159 4) hx hb hK hI 1 (cp_aY_4 _ _ _ _ _) rfl (j := k) (cp_ix_n (by omega) (by decide)) dX1_end_167 ?_
                    rw [show u159 4 k = 0 from by rw [eu159, cp_up_s, cp_upd_s]]
                    refine lv_if_eq (tgt := 175) hx hb dX1_end_168 (by decide) (fun c168 => ?_) (fun c168 => ?_)
                    · refine lv_iconst (v := 0) hx hb dX1_end_175 (by decide) ?_
                      refine lv_iadd hx hb dX1_end_176 ?_
                      refine lv_topi (fun x177 ex177 => ?_)
                      refine lv_istore_n (lv' := [(3, .int x177), (4, .int (nI k)), (0, .ref h), (1, .int (nI g)), (2, .int t9)]) hx hb dX1_end_177 rfl hl (by decide) rfl (fun ls hl => ?_)
                      obtain ⟨x178, ex178⟩ : ∃ y9 : Int32, y9 = (nI k) + 1 := ⟨_, rfl⟩
                      refine lv_iinc (v := x178) (lv' := [(4, .int x178), (3, .int x177), (0, .ref h), (1, .int (nI g)), (2, .int t9)]) hx hb dX1_end_178 hl (k := 1) rfl (by rw [ex178]; rfl) (by decide) rfl (fun ls hl => ?_)
                      refine lv_goto (tgt := 92) hx hb dX1_end_181 (by decide) ?_
                      obtain rfl : x177 = nI (cp_cnt (cp_lost u86) (k + 1)) := by rw [ex177, cp_cnt_f (p := cp_lost u86) hlk]; exact cp_add0 _
                      have h159 : u159 = cp_up u86 4 (cp_anF u86 (k + 1)) := by rw [eu159, cp_up_s, cp_anF_s u86 k hz, cp_up_up]
                      rw [h159] at hI
                      obtain rfl : x178 = nI (k + 1) := by rw [ex178]; exact nI_1 k
                      exact ih (k + 1) (by omega) (by omega) _ _ hI ls (lv_sub hl [0, 1, 2, 3, 4] rfl)
                    · exact absurd (by decide) c168
                  · refine lv_aload_n hx hb dX1_end_121 rfl (lv_at hl 2 rfl) ?_
                    refine cp_get (v := .ref (a 13)) hx hb hts inW hown hK hI (cp_hY _ _ _ _ _) rfl 17 (by decide) fl_sung rfl rfl dX1_end_122 ?_
                    refine lv_iload hx hb dX1_end_125 (lv_at hl 0 rfl) ?_
                    refine cp_iald (f := (cp_up u86 4 (cp_anF u86 k)) 13) hx hb hK hI 0 (cp_aY_13 _ _ _ _ _) rfl (j := k) (cp_ix_n (by omega) (by decide)) dX1_end_127 ?_
                    refine lv_iconst (v := (-1)) hx hb dX1_end_128 (by decide) ?_
                    refine lv_icmp_eq (tgt := 158) hx hb dX1_end_129 (by decide) (fun c129 => ?_) (fun c129 => ?_)
                    · refine lv_iconst (v := 0) hx hb dX1_end_158 (by decide) ?_
                      refine cp_zast (y := 0) hx hb hK hI 1 (cp_aY_4 _ _ _ _ _) rfl (j := k) (cp_ix_n (by omega) (by decide)) rfl dX1_end_159 (cp_sY_4 _ _ _ _ _ _) (fun H locs hI => ?_)
                      obtain ⟨u159, eu159⟩ : ∃ z9, z9 = cp_up (cp_up u86 4 (cp_anF u86 k)) 4 (upd ((cp_up u86 4 (cp_anF u86 k)) 4) k 0) := ⟨_, rfl⟩
                      rw [← eu159] at hI
                      have hlk : ¬ cp_lost u86 k := by first | exact fun h => absurd h.1 (Int32.not_le.mpr c118) | exact fun h => h.2.1 c129 | exact fun h => h.2.2 c151
                      have hz : (0 : Int32) = cp_b (cp_lost u86 k) := (cp_bf hlk).symm
                      refine lv_iload_n hx hb dX1_end_160 rfl (lv_at hl 1 rfl) ?_
                      refine lv_aload_n hx hb dX1_end_161 rfl (lv_at hl 2 rfl) ?_
                      refine cp_get (v := .ref (a 4)) hx hb hts inW hown hK hI (cp_hY _ _ _ _ _) rfl 18 (by decide) fl_isAnew rfl rfl dX1_end_162 ?_
                      refine lv_iload hx hb dX1_end_165 (lv_at hl 0 rfl) ?_
                      refine cp_zald (f := u159 4) hx hb hK hI 1 (cp_aY_4 _ _ _ _ _) rfl (j := k) (cp_ix_n (by omega) (by decide)) dX1_end_167 ?_
                      rw [show u159 4 k = 0 from by rw [eu159, cp_up_s, cp_upd_s]]
                      refine lv_if_eq (tgt := 175) hx hb dX1_end_168 (by decide) (fun c168 => ?_) (fun c168 => ?_)
                      · refine lv_iconst (v := 0) hx hb dX1_end_175 (by decide) ?_
                        refine lv_iadd hx hb dX1_end_176 ?_
                        refine lv_topi (fun x177 ex177 => ?_)
                        refine lv_istore_n (lv' := [(3, .int x177), (4, .int (nI k)), (0, .ref h), (1, .int (nI g)), (2, .int t9)]) hx hb dX1_end_177 rfl hl (by decide) rfl (fun ls hl => ?_)
                        obtain ⟨x178, ex178⟩ : ∃ y9 : Int32, y9 = (nI k) + 1 := ⟨_, rfl⟩
                        refine lv_iinc (v := x178) (lv' := [(4, .int x178), (3, .int x177), (0, .ref h), (1, .int (nI g)), (2, .int t9)]) hx hb dX1_end_178 hl (k := 1) rfl (by rw [ex178]; rfl) (by decide) rfl (fun ls hl => ?_)
                        refine lv_goto (tgt := 92) hx hb dX1_end_181 (by decide) ?_
                        obtain rfl : x177 = nI (cp_cnt (cp_lost u86) (k + 1)) := by rw [ex177, cp_cnt_f (p := cp_lost u86) hlk]; exact cp_add0 _
                        have h159 : u159 = cp_up u86 4 (cp_anF u86 (k + 1)) := by rw [eu159, cp_up_s, cp_anF_s u86 k hz, cp_up_up]
                        rw [h159] at hI
                        obtain rfl : x178 = nI (k + 1) := by rw [ex178]; exact nI_1 k
                        exact ih (k + 1) (by omega) (by omega) _ _ hI ls (lv_sub hl [0, 1, 2, 3, 4] rfl)
                      · exact absurd (by decide) c168
                    · refine lv_aload_n hx hb dX1_end_132 rfl (lv_at hl 2 rfl) ?_
                      refine lv_aload_n hx hb dX1_end_133 rfl (lv_at hl 2 rfl) ?_
                      refine cp_get (v := .ref (a 13)) hx hb hts inW hown hK hI (cp_hY _ _ _ _ _) rfl 17 (by decide) fl_sung rfl rfl dX1_end_134 ?_
                      refine lv_iload hx hb dX1_end_137 (lv_at hl 0 rfl) ?_
                      refine cp_iald (f := (cp_up u86 4 (cp_anF u86 k)) 13) hx hb hK hI 0 (cp_aY_13 _ _ _ _ _) rfl (j := k) (cp_ix_n (by omega) (by decide)) dX1_end_139 ?_
                      refine lv_iconst (v := 0) hx hb dX1_end_140 (by decide) ?_
                      refine lv_aload_n hx hb dX1_end_141 rfl (lv_at hl 2 rfl) ?_
                      refine cp_get (v := .ref (a 12)) hx hb hts inW hown hK hI (cp_hY _ _ _ _ _) rfl 16 (by decide) fl_day rfl rfl dX1_end_142 ?_
                      refine lv_iload hx hb dX1_end_145 (lv_at hl 0 rfl) ?_
                      refine cp_iald (f := (cp_up u86 4 (cp_anF u86 k)) 12) hx hb hK hI 0 (cp_aY_12 _ _ _ _ _) rfl (j := k) (cp_ix_n (by omega) (by decide)) dX1_end_147 ?_
                      refine cp_cVi0 (wc := cp_wY cI cZ h a) (u := (cp_up u86 4 (cp_anF u86 k))) (As := [.int ((cp_up u86 4 (cp_anF u86 k)) 13 k), .int 0, .int ((cp_up u86 4 (cp_anF u86 k)) 12 k)]) (rest := [.int (nI k), .ref (a 4)]) ⟨hx, hb, hml, hown, hts⟩ (c_X1_may l D cI cZ h a (cp_up u86 4 (cp_anF u86 k)) ((cp_up u86 4 (cp_anF u86 k)) 13 k) 0 ((cp_up u86 4 (cp_anF u86 k)) 12 k) hM2) (cwV 3 hts gX1_end_X1_may rfl rfl rfl (by decide +kernel) ⟨Nat.le_of_ble_eq_true rfl, Nat.le_of_ble_eq_true rfl⟩) hK hI hA ⟨_, cp_hY _ _ _ _ _⟩ rfl rfl rfl hl.1 rfl (Nat.le_of_ble_eq_true rfl) dX1_end_148 ⟨Nat.le_of_ble_eq_true rfl, Nat.le_of_ble_eq_true rfl⟩ (fun r148 u148 H locs hp148 hI => ?_)
                      obtain ⟨rfl, e9⟩ := hp148
                      rw [e9] at hI
                      refine lv_if_ne (tgt := 158) hx hb dX1_end_151 (by decide) (fun c151 => ?_) (fun c151 => ?_)
                      · have c151 := Classical.not_not.mp (fun h9 => c151 (cp_b0.mpr h9))
                        refine lv_iconst (v := 0) hx hb dX1_end_158 (by decide) ?_
                        refine cp_zast (y := 0) hx hb hK hI 1 (cp_aY_4 _ _ _ _ _) rfl (j := k) (cp_ix_n (by omega) (by decide)) rfl dX1_end_159 (cp_sY_4 _ _ _ _ _ _) (fun H locs hI => ?_)
                        obtain ⟨u159, eu159⟩ : ∃ z9, z9 = cp_up (cp_up u86 4 (cp_anF u86 k)) 4 (upd ((cp_up u86 4 (cp_anF u86 k)) 4) k 0) := ⟨_, rfl⟩
                        rw [← eu159] at hI
                        have hlk : ¬ cp_lost u86 k := by first | exact fun h => absurd h.1 (Int32.not_le.mpr c118) | exact fun h => h.2.1 c129 | exact fun h => h.2.2 c151
                        have hz : (0 : Int32) = cp_b (cp_lost u86 k) := (cp_bf hlk).symm
                        refine lv_iload_n hx hb dX1_end_160 rfl (lv_at hl 1 rfl) ?_
                        refine lv_aload_n hx hb dX1_end_161 rfl (lv_at hl 2 rfl) ?_
                        refine cp_get (v := .ref (a 4)) hx hb hts inW hown hK hI (cp_hY _ _ _ _ _) rfl 18 (by decide) fl_isAnew rfl rfl dX1_end_162 ?_
                        refine lv_iload hx hb dX1_end_165 (lv_at hl 0 rfl) ?_
                        refine cp_zald (f := u159 4) hx hb hK hI 1 (cp_aY_4 _ _ _ _ _) rfl (j := k) (cp_ix_n (by omega) (by decide)) dX1_end_167 ?_
                        rw [show u159 4 k = 0 from by rw [eu159, cp_up_s, cp_upd_s]]
                        refine lv_if_eq (tgt := 175) hx hb dX1_end_168 (by decide) (fun c168 => ?_) (fun c168 => ?_)
                        · refine lv_iconst (v := 0) hx hb dX1_end_175 (by decide) ?_
                          refine lv_iadd hx hb dX1_end_176 ?_
                          refine lv_topi (fun x177 ex177 => ?_)
                          refine lv_istore_n (lv' := [(3, .int x177), (4, .int (nI k)), (0, .ref h), (1, .int (nI g)), (2, .int t9)]) hx hb dX1_end_177 rfl hl (by decide) rfl (fun ls hl => ?_)
                          obtain ⟨x178, ex178⟩ : ∃ y9 : Int32, y9 = (nI k) + 1 := ⟨_, rfl⟩
                          refine lv_iinc (v := x178) (lv' := [(4, .int x178), (3, .int x177), (0, .ref h), (1, .int (nI g)), (2, .int t9)]) hx hb dX1_end_178 hl (k := 1) rfl (by rw [ex178]; rfl) (by decide) rfl (fun ls hl => ?_)
                          refine lv_goto (tgt := 92) hx hb dX1_end_181 (by decide) ?_
                          obtain rfl : x177 = nI (cp_cnt (cp_lost u86) (k + 1)) := by rw [ex177, cp_cnt_f (p := cp_lost u86) hlk]; exact cp_add0 _
                          have h159 : u159 = cp_up u86 4 (cp_anF u86 (k + 1)) := by rw [eu159, cp_up_s, cp_anF_s u86 k hz, cp_up_up]
                          rw [h159] at hI
                          obtain rfl : x178 = nI (k + 1) := by rw [ex178]; exact nI_1 k
                          exact ih (k + 1) (by omega) (by omega) _ _ hI ls (lv_sub hl [0, 1, 2, 3, 4] rfl)
                        · exact absurd (by decide) c168
                      · have c151 := cp_b0.mp c151
                        refine lv_iconst (v := 1) hx hb dX1_end_154 (by decide) ?_
                        refine lv_goto (tgt := 159) hx hb dX1_end_155 (by decide) ?_
                        refine cp_zast (y := 1) hx hb hK hI 1 (cp_aY_4 _ _ _ _ _) rfl (j := k) (cp_ix_n (by omega) (by decide)) rfl dX1_end_159 (cp_sY_4 _ _ _ _ _ _) (fun H locs hI => ?_)
                        obtain ⟨u159, eu159⟩ : ∃ z9, z9 = cp_up (cp_up u86 4 (cp_anF u86 k)) 4 (upd ((cp_up u86 4 (cp_anF u86 k)) 4) k 1) := ⟨_, rfl⟩
                        rw [← eu159] at hI
                        have hlk : cp_lost u86 k := ⟨Int32.not_lt.mp c118, c129, c151⟩
                        have hz : (1 : Int32) = cp_b (cp_lost u86 k) := (cp_bt hlk).symm
                        refine lv_iload_n hx hb dX1_end_160 rfl (lv_at hl 1 rfl) ?_
                        refine lv_aload_n hx hb dX1_end_161 rfl (lv_at hl 2 rfl) ?_
                        refine cp_get (v := .ref (a 4)) hx hb hts inW hown hK hI (cp_hY _ _ _ _ _) rfl 18 (by decide) fl_isAnew rfl rfl dX1_end_162 ?_
                        refine lv_iload hx hb dX1_end_165 (lv_at hl 0 rfl) ?_
                        refine cp_zald (f := u159 4) hx hb hK hI 1 (cp_aY_4 _ _ _ _ _) rfl (j := k) (cp_ix_n (by omega) (by decide)) dX1_end_167 ?_
                        rw [show u159 4 k = 1 from by rw [eu159, cp_up_s, cp_upd_s]]
                        refine lv_if_eq (tgt := 175) hx hb dX1_end_168 (by decide) (fun c168 => ?_) (fun c168 => ?_)
                        · exact absurd c168 (by decide)
                        · refine lv_iconst (v := 1) hx hb dX1_end_171 (by decide) ?_
                          refine lv_goto (tgt := 176) hx hb dX1_end_172 (by decide) ?_
                          refine lv_iadd hx hb dX1_end_176 ?_
                          refine lv_topi (fun x177 ex177 => ?_)
                          refine lv_istore_n (lv' := [(3, .int x177), (4, .int (nI k)), (0, .ref h), (1, .int (nI g)), (2, .int t9)]) hx hb dX1_end_177 rfl hl (by decide) rfl (fun ls hl => ?_)
                          obtain ⟨x178, ex178⟩ : ∃ y9 : Int32, y9 = (nI k) + 1 := ⟨_, rfl⟩
                          refine lv_iinc (v := x178) (lv' := [(4, .int x178), (3, .int x177), (0, .ref h), (1, .int (nI g)), (2, .int t9)]) hx hb dX1_end_178 hl (k := 1) rfl (by rw [ex178]; rfl) (by decide) rfl (fun ls hl => ?_)
                          refine lv_goto (tgt := 92) hx hb dX1_end_181 (by decide) ?_
                          obtain rfl : x177 = nI (cp_cnt (cp_lost u86) (k + 1)) := by rw [ex177, cp_cnt_t (p := cp_lost u86) hlk]; exact nI_1 _
                          have h159 : u159 = cp_up u86 4 (cp_anF u86 (k + 1)) := by rw [eu159, cp_up_s, cp_anF_s u86 k hz, cp_up_up]
                          rw [h159] at hI
                          obtain rfl : x178 = nI (k + 1) := by rw [ex178]; exact nI_1 k
                          exact ih (k + 1) (by omega) (by omega) _ _ hI ls (lv_sub hl [0, 1, 2, 3, 4] rfl)
            rw [show u86 = cp_up u86 4 (cp_anF u86 0) from by rw [cp_anF_0, cp_up_id]] at hI
            exact L92 ((cp_n u86 3) + 1) 0 (Nat.lt_succ_self _) (Nat.zero_le _) _ _ hI ls (lv_sub hl [0, 1, 2, 3, 4] rfl)
          · exact absurd (by decide) c75
        · refine lv_iconst (v := 3) hx hb dX1_end_63 (by decide) ?_
          refine lv_goto (tgt := 68) hx hb dX1_end_64 (by decide) ?_
          refine cp_puti hx hb hts inW tyX1 tyX1_ok nmX1 hown hK hI (cp_hY _ _ _ _ _) rfl 0 (by decide) fl_thrown rfl rfl (by decide +kernel) (Nat.le_of_ble_eq_true rfl) dX1_end_68 (cp_tY _ _ _ _ _ _) (fun H locs hI => ?_)
          rw [cp_thw_thw] at hI
          refine lv_aload_n hx hb dX1_end_71 rfl (lv_at hl 0 rfl) ?_
          refine cp_get (v := .int 3) hx hb hts inW hown hK hI (cp_hY _ _ _ _ _) rfl 0 (by decide) fl_thrown rfl rfl dX1_end_72 ?_
          refine lv_if_le (tgt := 80) hx hb dX1_end_75 (by decide) (fun c75 => ?_) (fun c75 => ?_)
          · exact absurd c75 (by decide)
          · refine lv_iconst (v := 0) hx hb dX1_end_78 (by decide) ?_
            exact cp_reti (u := (cp_thw u 3)) (v := 0) hx hb hr hlocks hK hI (Or.inr (Or.inr ⟨c46, g, hg, rfl, Or.inl ⟨Int32.not_lt.mp c60, rfl⟩⟩)) dX1_end_79
      · have c46 := cp_b0.mp c46
        refine lv_iconst (v := 2) hx hb dX1_end_49 (by decide) ?_
        refine lv_goto (tgt := 68) hx hb dX1_end_50 (by decide) ?_
        refine cp_puti hx hb hts inW tyX1 tyX1_ok nmX1 hown hK hI (cp_hY _ _ _ _ _) rfl 0 (by decide) fl_thrown rfl rfl (by decide +kernel) (Nat.le_of_ble_eq_true rfl) dX1_end_68 (cp_tY _ _ _ _ _ _) (fun H locs hI => ?_)
        rw [cp_thw_thw] at hI
        refine lv_aload_n hx hb dX1_end_71 rfl (lv_at hl 0 rfl) ?_
        refine cp_get (v := .int 2) hx hb hts inW hown hK hI (cp_hY _ _ _ _ _) rfl 0 (by decide) fl_thrown rfl rfl dX1_end_72 ?_
        refine lv_if_le (tgt := 80) hx hb dX1_end_75 (by decide) (fun c75 => ?_) (fun c75 => ?_)
        · exact absurd c75 (by decide)
        · refine lv_iconst (v := 0) hx hb dX1_end_78 (by decide) ?_
          exact cp_reti (u := (cp_thw u 2)) (v := 0) hx hb hr hlocks hK hI (Or.inr (Or.inl ⟨c12, c46, rfl⟩)) dX1_end_79
    · exact absurd (by decide) c27
