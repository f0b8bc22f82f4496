set_option maxHeartbeats 4000000 in
set_option maxRecDepth 100000 in
theorem c_X1_plans (l : Launch) (D : va_G) (cI cZ : ClassId) (h : Nat) (a : Nat → Nat) (u : cp_M) (g : Nat) (ch : Nat) (hg : g < 40) (hch : ch < 4) (hcs : u 11 g = nI ch) (hN1 : cp_cn u 1 16) (hN2 : cp_cn u 2 40) (hN3 : cp_cn u 3 40) : ∀ sz : Nat, Met l yX1_plans wsX1_plans ({ frames := 2, cells := 0, slots := 0, locals := 47 } : Room) (va_Pc [.ref h, .int (nI g)] (cp_pre D [(cI, .int), (cZ, .boolean)] (cp_wY cI cZ h a u) sz)) (va_Qv (fun (u1 : cp_M) => u1 = cp_planY u g ch) (cp_at D [(cI, .int), (cZ, .boolean)] (va_A (cp_wY cI cZ h a u) sz) (cp_wY cI cZ h a)) (va_A (cp_wY cI cZ h a u) sz)) 0 0 (va_A (cp_wY cI cZ h a u) sz) := by
  refine cp_MetI (Qk := fun A => va_Qv (fun (u1 : cp_M) => u1 = cp_planY u g ch) (cp_at D [(cI, .int), (cZ, .boolean)] A (cp_wY cI cZ h a)) A) (by decide) rfl (Nat.le_of_ble_eq_true rfl) ?_
  intro p e s m args below meth c A hC hA hK hI ls hl
  obtain ⟨hx, hb, hml, hown, hts, hr, hlocks⟩ := hC
  have hown : s.vm.findClass RX1 = some m.cls := hown
  have hl : lv_has ls 6 [(0, .ref h), (1, .int (nI g))] := hl
  have inW : ∀ w ∈ wsX10, w ∈ wsX1_plans := by decide +kernel
  have fl_choir : Cond.fieldLink RX1 40 "CanticlePressModel" "choir" "[I" ∈ wsX1_plans := by decide +kernel
  have fl_day : Cond.fieldLink RX1 43 "CanticlePressModel" "day" "[I" ∈ wsX1_plans := by decide +kernel
  have fl_hymns : Cond.fieldLink RX1 57 "CanticlePressModel" "hymns" "I" ∈ wsX1_plans := by decide +kernel
  have fl_known : Cond.fieldLink RX1 37 "CanticlePressModel" "known" "[I" ∈ wsX1_plans := by decide +kernel
  have fl_seasons : Cond.fieldLink RX1 13 "CanticlePressModel" "seasons" "[I" ∈ wsX1_plans := by decide +kernel
  have fl_sung : Cond.fieldLink RX1 46 "CanticlePressModel" "sung" "[I" ∈ wsX1_plans := by decide +kernel
  refine lv_aload_n hx hb dX1_plans_0 rfl (lv_at hl 0 rfl) ?_
  refine cp_get (v := .ref (a 12)) hx hb hts inW hown hK hI (cp_hY _ _ _ _ _) rfl 16 (by decide) fl_day rfl rfl dX1_plans_1 ?_
  refine lv_iload_n hx hb dX1_plans_4 rfl (lv_at hl 1 rfl) ?_
  refine cp_iald (f := u 12) hx hb hK hI 0 (cp_aY_12 _ _ _ _ _) rfl (j := g) (cp_ix_n (by omega) (by decide)) dX1_plans_5 ?_
  refine lv_sipush (v := 365) hx hb dX1_plans_6 (by decide) ?_
  refine lv_irem hx hb dX1_plans_9 (by decide) ?_
  refine lv_bipush (v := 92) hx hb dX1_plans_10 (by decide) ?_
  refine lv_idiv hx hb dX1_plans_12 (by decide) ?_
  refine lv_topi (fun x13 ex13 => ?_)
  refine lv_istore_n (lv' := [(2, .int x13), (0, .ref h), (1, .int (nI g))]) hx hb dX1_plans_13 rfl hl (by decide) rfl (fun ls hl => ?_)
  refine lv_aload_n hx hb dX1_plans_14 rfl (lv_at hl 1 rfl) ?_
  refine cp_get (v := .ref (a 13)) hx hb hts inW hown hK hI (cp_hY _ _ _ _ _) rfl 17 (by decide) fl_sung rfl rfl dX1_plans_15 ?_
  refine lv_iload_n hx hb dX1_plans_18 rfl (lv_at hl 2 rfl) ?_
  refine lv_iconst (v := (-1)) hx hb dX1_plans_19 (by decide) ?_
  refine cp_iast hx hb hK hI 0 (cp_aY_13 _ _ _ _ _) rfl (j := g) (cp_ix_n (by omega) (by decide)) dX1_plans_20 (cp_sY_13 _ _ _ _ _ _) (fun H locs hI => ?_)
  obtain ⟨u20, eu20⟩ : ∃ z9, z9 = cp_up u 13 (upd (u 13) g (-1)) := ⟨_, rfl⟩
  rw [← eu20] at hI
  have hM1 : cp_cn u20 1 16 := by rw [eu20]; exact cp_cn_up hN1 (by decide)
  have hM2 : cp_cn u20 2 40 := by rw [eu20]; exact cp_cn_up hN2 (by decide)
  have hM3 : cp_cn u20 3 40 := by rw [eu20]; exact cp_cn_up hN3 (by decide)
  have hcs20 : u20 11 g = nI ch := by rw [eu20]; exact hcs
  have h13 : x13 = cp_season (u20 12 g) := by rw [ex13, eu20]; rfl
  subst h13
  refine lv_iconst (v := (-1)) hx hb dX1_plans_21 (by decide) ?_
  refine lv_istore_n (lv' := [(3, .int (-1)), (2, .int (cp_season (u20 12 g))), (0, .ref h), (1, .int (nI g))]) hx hb dX1_plans_22 rfl hl (by decide) rfl (fun ls hl => ?_)
  refine lv_iconst (v := 0) hx hb dX1_plans_23 (by decide) ?_
  refine lv_istore (lv' := [(4, .int 0), (3, .int (-1)), (2, .int (cp_season (u20 12 g))), (0, .ref h), (1, .int (nI g))]) hx hb dX1_plans_24 hl (by decide) rfl (fun ls hl => ?_)
  have L26 : ∀ (n9 : Nat) (k : Nat) (hm9 : cp_n u20 1 - k < n9) (hk : k ≤ cp_n u20 1), ∀ (H : Heap) (locs : List Loc), cp_I D (cp_wY cI cZ h a u20) A s.heap H locs → ∀ ls, lv_has ls 6 [(4, .int (nI k)), (3, .int (cp_o (cp_bst (cp_suitY u20 g ch) (fun g9 => cp_with u20 (nI g9)) k))), (2, .int (cp_season (u20 12 g))), (0, .ref h), (1, .int (nI g))] → W p l e ({ frames := 2, cells := 0, slots := 0, locals := 47 } : Room) s m args below meth c H locs 0 0 (MQ below (va_Qv (fun (u1 : cp_M) => u1 = cp_planY u g ch) (cp_at D [(cI, .int), (cZ, .boolean)] A (cp_wY cI cZ h a)) A) args s 0 0 A) (F0 m 26 ls []) := by
    intro n9
    induction n9 with
    | zero => intro k hm9; omega
    | succ n9 ih =>
      intro k hm9 hk H locs hI ls hl
      have hN9 := hM1.2.1
      refine lv_iload hx hb dX1_plans_26 (lv_at hl 0 rfl) ?_
      refine lv_aload_n hx hb dX1_plans_28 rfl (lv_at hl 3 rfl) ?_
      refine cp_get (v := .int (u20 14 1)) hx hb hts inW hown hK hI (cp_hY _ _ _ _ _) rfl 2 (by decide) fl_hymns rfl rfl dX1_plans_29 ?_
      refine lv_icmp_ge (tgt := 152) hx hb dX1_plans_32 (by decide) (fun c32 => ?_) (fun c32 => ?_)
      · have hk2 := cp_ex hM1 hk c32
        refine lv_aload_n hx hb dX1_plans_152 rfl (lv_at hl 3 rfl) ?_
        refine cp_get (v := .ref (a 13)) hx hb hts inW hown hK hI (cp_hY _ _ _ _ _) rfl 17 (by decide) fl_sung rfl rfl dX1_plans_153 ?_
        refine lv_iload_n hx hb dX1_plans_156 rfl (lv_at hl 4 rfl) ?_
        refine lv_iload_n hx hb dX1_plans_157 rfl (lv_at hl 1 rfl) ?_
        refine cp_iast hx hb hK hI 0 (cp_aY_13 _ _ _ _ _) rfl (j := g) (cp_ix_n (by omega) (by decide)) dX1_plans_158 (cp_sY_13 _ _ _ _ _ _) (fun H locs hI => ?_)
        obtain ⟨u158, eu158⟩ : ∃ z9, z9 = cp_up u20 13 (upd (u20 13) g (cp_o (cp_bst (cp_suitY u20 g ch) (fun g9 => cp_with u20 (nI g9)) k))) := ⟨_, rfl⟩
        rw [← eu158] at hI
        exact cp_retv (u := u158) hx hb hr hlocks hK hI (by rw [eu158, hk2]; subst eu20; rfl) dX1_plans_159
      · have hk2 := cp_in hM1 (by omega) c32
        refine lv_aload_n hx hb dX1_plans_35 rfl (lv_at hl 3 rfl) ?_
        refine cp_get (v := .ref (a 5)) hx hb hts inW hown hK hI (cp_hY _ _ _ _ _) rfl 13 (by decide) fl_known rfl rfl dX1_plans_36 ?_
        refine lv_aload_n hx hb dX1_plans_39 rfl (lv_at hl 3 rfl) ?_
        refine cp_get (v := .ref (a 11)) hx hb hts inW hown hK hI (cp_hY _ _ _ _ _) rfl 15 (by decide) fl_choir rfl rfl dX1_plans_40 ?_
        refine lv_iload_n hx hb dX1_plans_43 rfl (lv_at hl 4 rfl) ?_
        refine cp_iald (f := u20 11) hx hb hK hI 0 (cp_aY_11 _ _ _ _ _) rfl (j := g) (cp_ix_n (by omega) (by decide)) dX1_plans_44 ?_
        refine cp_iald (f := u20 5) hx hb hK hI 0 (cp_aY_5 _ _ _ _ _) rfl (j := ch) (cp_ix_e hcs20 (by omega) (by decide)) dX1_plans_45 ?_
        refine lv_iload hx hb dX1_plans_46 (lv_at hl 0 rfl) ?_
        refine lv_ishr hx hb dX1_plans_48 ?_
        refine lv_iconst (v := 1) hx hb dX1_plans_49 (by decide) ?_
        refine lv_iand hx hb dX1_plans_50 ?_
        refine lv_iconst (v := 1) hx hb dX1_plans_51 (by decide) ?_
        refine lv_icmp_ne (tgt := 74) hx hb dX1_plans_52 (by decide) (fun c52 => ?_) (fun c52 => ?_)
        · refine lv_iconst (v := 0) hx hb dX1_plans_74 (by decide) ?_
          refine lv_istore (lv' := [(5, .int 0), (4, .int (nI k)), (3, .int (cp_o (cp_bst (cp_suitY u20 g ch) (fun g9 => cp_with u20 (nI g9)) k))), (2, .int (cp_season (u20 12 g))), (0, .ref h), (1, .int (nI g))]) hx hb dX1_plans_75 hl (by decide) rfl (fun ls hl => ?_)
          refine lv_iload hx hb dX1_plans_77 (lv_at hl 0 rfl) ?_
          refine lv_if_eq (tgt := 112) hx hb dX1_plans_79 (by decide) (fun c79 => ?_) (fun c79 => ?_)
          · refine lv_iconst (v := 0) hx hb dX1_plans_112 (by decide) ?_
            refine lv_istore (lv' := [(5, .int 0), (4, .int (nI k)), (3, .int (cp_o (cp_bst (cp_suitY u20 g ch) (fun g9 => cp_with u20 (nI g9)) k))), (2, .int (cp_season (u20 12 g))), (0, .ref h), (1, .int (nI g))]) hx hb dX1_plans_113 hl (by decide) rfl (fun ls hl => ?_)
            refine lv_iload hx hb dX1_plans_115 (lv_at hl 0 rfl) ?_
            refine lv_if_eq (tgt := 144) hx hb dX1_plans_117 (by decide) (fun c117 => ?_) (fun c117 => ?_)
            · refine lv_iload_n hx hb dX1_plans_144 rfl (lv_at hl 2 rfl) ?_
              refine lv_topi (fun x145 ex145 => ?_)
              refine lv_istore_n (lv' := [(3, .int x145), (5, .int 0), (4, .int (nI k)), (2, .int (cp_season (u20 12 g))), (0, .ref h), (1, .int (nI g))]) hx hb dX1_plans_145 rfl hl (by decide) rfl (fun ls hl => ?_)
              obtain ⟨x146, ex146⟩ : ∃ y9 : Int32, y9 = (nI k) + 1 := ⟨_, rfl⟩
              refine lv_iinc (v := x146) (lv' := [(4, .int x146), (3, .int x145), (5, .int 0), (2, .int (cp_season (u20 12 g))), (0, .ref h), (1, .int (nI g))]) hx hb dX1_plans_146 hl (k := 2) rfl (by rw [ex146]; rfl) (by decide) rfl (fun ls hl => ?_)
              refine lv_goto (tgt := 26) hx hb dX1_plans_149 (by decide) ?_
              have e9 : cp_bst (cp_suitY u20 g ch) (fun g9 => cp_with u20 (nI g9)) (k + 1) = cp_bst (cp_suitY u20 g ch) (fun g9 => cp_with u20 (nI g9)) k := cp_bst_f (fun hh => by first | exact c52 hh.1.1.1 | exact c67 hh.1.1.2 | exact c95 hh.1.2.1 | exact c105 hh.1.2.2 | (rcases hb : cp_bst (cp_suitY u20 g ch) (fun g9 => cp_with u20 (nI g9)) k with _ | b; exact c122 (by rw [hb]; rfl); have h9 := hh.2 b hb; rw [hb] at c136; have h46 : nI (cp_with u20 (nI b)) ≤ nI (cp_with u20 (nI k)) := c136; rw [nI_leI (by have := cp_with_le hM3 (nI b); omega) (by have := cp_with_le hM3 (nI k); omega)] at h46; omega))
              have hl : lv_has ls 6 [(4, .int x146), (3, .int (cp_o (cp_bst (cp_suitY u20 g ch) (fun g9 => cp_with u20 (nI g9)) (k + 1)))), (5, .int 0), (2, .int (cp_season (u20 12 g))), (0, .ref h), (1, .int (nI g))] := by rw [e9, ← ex145]; exact hl
              obtain rfl : x146 = nI (k + 1) := by rw [ex146]; exact nI_1 k
              exact ih (k + 1) (by omega) (by omega) _ _ hI ls (lv_sub hl [0, 1, 3, 4, 5] rfl)
            · exact absurd (by decide) c117
          · exact absurd (by decide) c79
        · refine lv_aload_n hx hb dX1_plans_55 rfl (lv_at hl 3 rfl) ?_
          refine cp_get (v := .ref (a 1)) hx hb hts inW hown hK hI (cp_hY _ _ _ _ _) rfl 4 (by decide) fl_seasons rfl rfl dX1_plans_56 ?_
          refine lv_iload hx hb dX1_plans_59 (lv_at hl 0 rfl) ?_
          refine cp_iald (f := u20 1) hx hb hK hI 0 (cp_aY_1 _ _ _ _ _) rfl (j := k) (cp_ix_n (by omega) (by decide)) dX1_plans_61 ?_
          refine lv_iload_n hx hb dX1_plans_62 rfl (lv_at hl 2 rfl) ?_
          refine lv_ishr hx hb dX1_plans_63 ?_
          refine lv_iconst (v := 1) hx hb dX1_plans_64 (by decide) ?_
          refine lv_iand hx hb dX1_plans_65 ?_
          refine lv_iconst (v := 1) hx hb dX1_plans_66 (by decide) ?_
          refine lv_icmp_ne (tgt := 74) hx hb dX1_plans_67 (by decide) (fun c67 => ?_) (fun c67 => ?_)
          · refine lv_iconst (v := 0) hx hb dX1_plans_74 (by decide) ?_
            refine lv_istore (lv' := [(5, .int 0), (4, .int (nI k)), (3, .int (cp_o (cp_bst (cp_suitY u20 g ch) (fun g9 => cp_with u20 (nI g9)) k))), (2, .int (cp_season (u20 12 g))), (0, .ref h), (1, .int (nI g))]) hx hb dX1_plans_75 hl (by decide) rfl (fun ls hl => ?_)
            refine lv_iload hx hb dX1_plans_77 (lv_at hl 0 rfl) ?_
            refine lv_if_eq (tgt := 112) hx hb dX1_plans_79 (by decide) (fun c79 => ?_) (fun c79 => ?_)
            · refine lv_iconst (v := 0) hx hb dX1_plans_112 (by decide) ?_
              refine lv_istore (lv' := [(5, .int 0), (4, .int (nI k)), (3, .int (cp_o (cp_bst (cp_suitY u20 g ch) (fun g9 => cp_with u20 (nI g9)) k))), (2, .int (cp_season (u20 12 g))), (0, .ref h), (1, .int (nI g))]) hx hb dX1_plans_113 hl (by decide) rfl (fun ls hl => ?_)
              refine lv_iload hx hb dX1_plans_115 (lv_at hl 0 rfl) ?_
              refine lv_if_eq (tgt := 144) hx hb dX1_plans_117 (by decide) (fun c117 => ?_) (fun c117 => ?_)
              · refine lv_iload_n hx hb dX1_plans_144 rfl (lv_at hl 2 rfl) ?_
                refine lv_topi (fun x145 ex145 => ?_)
                refine lv_istore_n (lv' := [(3, .int x145), (5, .int 0), (4, .int (nI k)), (2, .int (cp_season (u20 12 g))), (0, .ref h), (1, .int (nI g))]) hx hb dX1_plans_145 rfl hl (by decide) rfl (fun ls hl => ?_)
                obtain ⟨x146, ex146⟩ : ∃ y9 : Int32, y9 = (nI k) + 1 := ⟨_, rfl⟩
                refine lv_iinc (v := x146) (lv' := [(4, .int x146), (3, .int x145), (5, .int 0), (2, .int (cp_season (u20 12 g))), (0, .ref h), (1, .int (nI g))]) hx hb dX1_plans_146 hl (k := 2) rfl (by rw [ex146]; rfl) (by decide) rfl (fun ls hl => ?_)
                refine lv_goto (tgt := 26) hx hb dX1_plans_149 (by decide) ?_
                have e9 : cp_bst (cp_suitY u20 g ch) (fun g9 => cp_with u20 (nI g9)) (k + 1) = cp_bst (cp_suitY u20 g ch) (fun g9 => cp_with u20 (nI g9)) k := cp_bst_f (fun hh => by first | exact c52 hh.1.1.1 | exact c67 hh.1.1.2 | exact c95 hh.1.2.1 | exact c105 hh.1.2.2 | (rcases hb : cp_bst (cp_suitY u20 g ch) (fun g9 => cp_with u20 (nI g9)) k with _ | b; exact c122 (by rw [hb]; rfl); have h9 := hh.2 b hb; rw [hb] at c136; have h46 : nI (cp_with u20 (nI b)) ≤ nI (cp_with u20 (nI k)) := c136; rw [nI_leI (by have := cp_with_le hM3 (nI b); omega) (by have := cp_with_le hM3 (nI k); omega)] at h46; omega))
                have hl : lv_has ls 6 [(4, .int x146), (3, .int (cp_o (cp_bst (cp_suitY u20 g ch) (fun g9 => cp_with u20 (nI g9)) (k + 1)))), (5, .int 0), (2, .int (cp_season (u20 12 g))), (0, .ref h), (1, .int (nI g))] := by rw [e9, ← ex145]; exact hl
                obtain rfl : x146 = nI (k + 1) := by rw [ex146]; exact nI_1 k
                exact ih (k + 1) (by omega) (by omega) _ _ hI ls (lv_sub hl [0, 1, 3, 4, 5] rfl)
              · exact absurd (by decide) c117
            · exact absurd (by decide) c79
          · refine lv_iconst (v := 1) hx hb dX1_plans_70 (by decide) ?_
            refine lv_goto (tgt := 75) hx hb dX1_plans_71 (by decide) ?_
            refine lv_istore (lv' := [(5, .int 1), (4, .int (nI k)), (3, .int (cp_o (cp_bst (cp_suitY u20 g ch) (fun g9 => cp_with u20 (nI g9)) k))), (2, .int (cp_season (u20 12 g))), (0, .ref h), (1, .int (nI g))]) hx hb dX1_plans_75 hl (by decide) rfl (fun ls hl => ?_)
            refine lv_iload hx hb dX1_plans_77 (lv_at hl 0 rfl) ?_
            refine lv_if_eq (tgt := 112) hx hb dX1_plans_79 (by decide) (fun c79 => ?_) (fun c79 => ?_)
            · exact absurd c79 (by decide)
            · refine lv_aload_n hx hb dX1_plans_82 rfl (lv_at hl 4 rfl) ?_
              refine lv_iload hx hb dX1_plans_83 (lv_at hl 1 rfl) ?_
              refine lv_iconst (v := 0) hx hb dX1_plans_85 (by decide) ?_
              refine lv_aload_n hx hb dX1_plans_86 rfl (lv_at hl 4 rfl) ?_
              refine cp_get (v := .ref (a 12)) hx hb hts inW hown hK hI (cp_hY _ _ _ _ _) rfl 16 (by decide) fl_day rfl rfl dX1_plans_87 ?_
              refine lv_iload_n hx hb dX1_plans_90 rfl (lv_at hl 5 rfl) ?_
              refine cp_iald (f := u20 12) hx hb hK hI 0 (cp_aY_12 _ _ _ _ _) rfl (j := g) (cp_ix_n (by omega) (by decide)) dX1_plans_91 ?_
              refine cp_cVi0 (wc := cp_wY cI cZ h a) (u := u20) (As := [.int (nI k), .int 0, .int (u20 12 g)]) (rest := []) ⟨hx, hb, hml, hown, hts⟩ (c_X1_may l D cI cZ h a u20 (nI k) 0 (u20 12 g) hM2) (cwV 3 hts gX1_plans_X1_may rfl rfl rfl (by decide +kernel) ⟨Nat.le_of_ble_eq_true rfl, Nat.le_of_ble_eq_true rfl⟩) hK hI hA ⟨_, cp_hY _ _ _ _ _⟩ rfl rfl rfl hl.1 rfl (Nat.le_of_ble_eq_true rfl) dX1_plans_92 ⟨Nat.le_of_ble_eq_true rfl, Nat.le_of_ble_eq_true rfl⟩ (fun r92 u92 H locs hp92 hI => ?_)
              obtain ⟨rfl, e9⟩ := hp92
              rw [e9] at hI
              refine lv_if_eq (tgt := 112) hx hb dX1_plans_95 (by decide) (fun c95 => ?_) (fun c95 => ?_)
              · have c95 := cp_b0.mp c95
                refine lv_iconst (v := 0) hx hb dX1_plans_112 (by decide) ?_
                refine lv_istore (lv' := [(5, .int 0), (4, .int (nI k)), (3, .int (cp_o (cp_bst (cp_suitY u20 g ch) (fun g9 => cp_with u20 (nI g9)) k))), (2, .int (cp_season (u20 12 g))), (0, .ref h), (1, .int (nI g))]) hx hb dX1_plans_113 hl (by decide) rfl (fun ls hl => ?_)
                refine lv_iload hx hb dX1_plans_115 (lv_at hl 0 rfl) ?_
                refine lv_if_eq (tgt := 144) hx hb dX1_plans_117 (by decide) (fun c117 => ?_) (fun c117 => ?_)
                · refine lv_iload_n hx hb dX1_plans_144 rfl (lv_at hl 2 rfl) ?_
                  refine lv_topi (fun x145 ex145 => ?_)
                  refine lv_istore_n (lv' := [(3, .int x145), (5, .int 0), (4, .int (nI k)), (2, .int (cp_season (u20 12 g))), (0, .ref h), (1, .int (nI g))]) hx hb dX1_plans_145 rfl hl (by decide) rfl (fun ls hl => ?_)
                  obtain ⟨x146, ex146⟩ : ∃ y9 : Int32, y9 = (nI k) + 1 := ⟨_, rfl⟩
                  refine lv_iinc (v := x146) (lv' := [(4, .int x146), (3, .int x145), (5, .int 0), (2, .int (cp_season (u20 12 g))), (0, .ref h), (1, .int (nI g))]) hx hb dX1_plans_146 hl (k := 2) rfl (by rw [ex146]; rfl) (by decide) rfl (fun ls hl => ?_)
                  refine lv_goto (tgt := 26) hx hb dX1_plans_149 (by decide) ?_
                  have e9 : cp_bst (cp_suitY u20 g ch) (fun g9 => cp_with u20 (nI g9)) (k + 1) = cp_bst (cp_suitY u20 g ch) (fun g9 => cp_with u20 (nI g9)) k := cp_bst_f (fun hh => by first | exact c52 hh.1.1.1 | exact c67 hh.1.1.2 | exact c95 hh.1.2.1 | exact c105 hh.1.2.2 | (rcases hb : cp_bst (cp_suitY u20 g ch) (fun g9 => cp_with u20 (nI g9)) k with _ | b; exact c122 (by rw [hb]; rfl); have h9 := hh.2 b hb; rw [hb] at c136; have h46 : nI (cp_with u20 (nI b)) ≤ nI (cp_with u20 (nI k)) := c136; rw [nI_leI (by have := cp_with_le hM3 (nI b); omega) (by have := cp_with_le hM3 (nI k); omega)] at h46; omega))
                  have hl : lv_has ls 6 [(4, .int x146), (3, .int (cp_o (cp_bst (cp_suitY u20 g ch) (fun g9 => cp_with u20 (nI g9)) (k + 1)))), (5, .int 0), (2, .int (cp_season (u20 12 g))), (0, .ref h), (1, .int (nI g))] := by rw [e9, ← ex145]; exact hl
                  obtain rfl : x146 = nI (k + 1) := by rw [ex146]; exact nI_1 k
                  exact ih (k + 1) (by omega) (by omega) _ _ hI ls (lv_sub hl [0, 1, 3, 4, 5] rfl)
                · exact absurd (by decide) c117
              · have c95 := Classical.not_not.mp (fun h9 => c95 (cp_b0.mpr h9))
                refine lv_aload_n hx hb dX1_plans_98 rfl (lv_at hl 4 rfl) ?_
                refine lv_iload_n hx hb dX1_plans_99 rfl (lv_at hl 5 rfl) ?_
                refine lv_iload hx hb dX1_plans_100 (lv_at hl 1 rfl) ?_
                refine cp_cVi0 (wc := cp_wY cI cZ h a) (u := u20) (As := [.int (nI g), .int (nI k)]) (rest := []) ⟨hx, hb, hml, hown, hts⟩ (c_X1_isRested l D cI cZ h a u20 g (nI k) (by omega) hM3) (cwV 2 hts gX1_plans_X1_isRested rfl rfl rfl (by decide +kernel) ⟨Nat.le_of_ble_eq_true rfl, Nat.le_of_ble_eq_true rfl⟩) hK hI hA ⟨_, cp_hY _ _ _ _ _⟩ rfl rfl rfl hl.1 rfl (Nat.le_of_ble_eq_true rfl) dX1_plans_102 ⟨Nat.le_of_ble_eq_true rfl, Nat.le_of_ble_eq_true rfl⟩ (fun r102 u102 H locs hp102 hI => ?_)
                obtain ⟨rfl, e9⟩ := hp102
                rw [e9] at hI
                refine lv_if_eq (tgt := 112) hx hb dX1_plans_105 (by decide) (fun c105 => ?_) (fun c105 => ?_)
                · have c105 := cp_b0.mp c105
                  refine lv_iconst (v := 0) hx hb dX1_plans_112 (by decide) ?_
                  refine lv_istore (lv' := [(5, .int 0), (4, .int (nI k)), (3, .int (cp_o (cp_bst (cp_suitY u20 g ch) (fun g9 => cp_with u20 (nI g9)) k))), (2, .int (cp_season (u20 12 g))), (0, .ref h), (1, .int (nI g))]) hx hb dX1_plans_113 hl (by decide) rfl (fun ls hl => ?_)
                  refine lv_iload hx hb dX1_plans_115 (lv_at hl 0 rfl) ?_
                  refine lv_if_eq (tgt := 144) hx hb dX1_plans_117 (by decide) (fun c117 => ?_) (fun c117 => ?_)
                  · refine lv_iload_n hx hb dX1_plans_144 rfl (lv_at hl 2 rfl) ?_
                    refine lv_topi (fun x145 ex145 => ?_)
                    refine lv_istore_n (lv' := [(3, .int x145), (5, .int 0), (4, .int (nI k)), (2, .int (cp_season (u20 12 g))), (0, .ref h), (1, .int (nI g))]) hx hb dX1_plans_145 rfl hl (by decide) rfl (fun ls hl => ?_)
                    obtain ⟨x146, ex146⟩ : ∃ y9 : Int32, y9 = (nI k) + 1 := ⟨_, rfl⟩
                    refine lv_iinc (v := x146) (lv' := [(4, .int x146), (3, .int x145), (5, .int 0), (2, .int (cp_season (u20 12 g))), (0, .ref h), (1, .int (nI g))]) hx hb dX1_plans_146 hl (k := 2) rfl (by rw [ex146]; rfl) (by decide) rfl (fun ls hl => ?_)
                    refine lv_goto (tgt := 26) hx hb dX1_plans_149 (by decide) ?_
                    have e9 : cp_bst (cp_suitY u20 g ch) (fun g9 => cp_with u20 (nI g9)) (k + 1) = cp_bst (cp_suitY u20 g ch) (fun g9 => cp_with u20 (nI g9)) k := cp_bst_f (fun hh => by first | exact c52 hh.1.1.1 | exact c67 hh.1.1.2 | exact c95 hh.1.2.1 | exact c105 hh.1.2.2 | (rcases hb : cp_bst (cp_suitY u20 g ch) (fun g9 => cp_with u20 (nI g9)) k with _ | b; exact c122 (by rw [hb]; rfl); have h9 := hh.2 b hb; rw [hb] at c136; have h46 : nI (cp_with u20 (nI b)) ≤ nI (cp_with u20 (nI k)) := c136; rw [nI_leI (by have := cp_with_le hM3 (nI b); omega) (by have := cp_with_le hM3 (nI k); omega)] at h46; omega))
                    have hl : lv_has ls 6 [(4, .int x146), (3, .int (cp_o (cp_bst (cp_suitY u20 g ch) (fun g9 => cp_with u20 (nI g9)) (k + 1)))), (5, .int 0), (2, .int (cp_season (u20 12 g))), (0, .ref h), (1, .int (nI g))] := by rw [e9, ← ex145]; exact hl
                    obtain rfl : x146 = nI (k + 1) := by rw [ex146]; exact nI_1 k
                    exact ih (k + 1) (by omega) (by omega) _ _ hI ls (lv_sub hl [0, 1, 3, 4, 5] rfl)
                  · exact absurd (by decide) c117
                · have c105 := Classical.not_not.mp (fun h9 => c105 (cp_b0.mpr h9))
                  refine lv_iconst (v := 1) hx hb dX1_plans_108 (by decide) ?_
                  refine lv_goto (tgt := 113) hx hb dX1_plans_109 (by decide) ?_
                  refine lv_istore (lv' := [(5, .int 1), (4, .int (nI k)), (3, .int (cp_o (cp_bst (cp_suitY u20 g ch) (fun g9 => cp_with u20 (nI g9)) k))), (2, .int (cp_season (u20 12 g))), (0, .ref h), (1, .int (nI g))]) hx hb dX1_plans_113 hl (by decide) rfl (fun ls hl => ?_)
                  refine lv_iload hx hb dX1_plans_115 (lv_at hl 0 rfl) ?_
                  refine lv_if_eq (tgt := 144) hx hb dX1_plans_117 (by decide) (fun c117 => ?_) (fun c117 => ?_)
                  · exact absurd c117 (by decide)
                  · refine lv_iload_n hx hb dX1_plans_120 rfl (lv_at hl 2 rfl) ?_
                    refine lv_iconst (v := (-1)) hx hb dX1_plans_121 (by decide) ?_
                    refine lv_icmp_eq (tgt := 139) hx hb dX1_plans_122 (by decide) (fun c122 => ?_) (fun c122 => ?_)
                    · refine lv_iload hx hb dX1_plans_139 (lv_at hl 1 rfl) ?_
                      refine lv_goto (tgt := 145) hx hb dX1_plans_141 (by decide) ?_
                      refine lv_istore_n (lv' := [(3, .int (nI k)), (5, .int 1), (4, .int (nI k)), (2, .int (cp_season (u20 12 g))), (0, .ref h), (1, .int (nI g))]) hx hb dX1_plans_145 rfl hl (by decide) rfl (fun ls hl => ?_)
                      obtain ⟨x146, ex146⟩ : ∃ y9 : Int32, y9 = (nI k) + 1 := ⟨_, rfl⟩
                      refine lv_iinc (v := x146) (lv' := [(4, .int x146), (3, .int (nI k)), (5, .int 1), (2, .int (cp_season (u20 12 g))), (0, .ref h), (1, .int (nI g))]) hx hb dX1_plans_146 hl (k := 2) rfl (by rw [ex146]; rfl) (by decide) rfl (fun ls hl => ?_)
                      refine lv_goto (tgt := 26) hx hb dX1_plans_149 (by decide) ?_
                      have e9 : cp_bst (cp_suitY u20 g ch) (fun g9 => cp_with u20 (nI g9)) (k + 1) = some k := cp_bst_t ⟨⟨⟨c52, c67⟩, c95, c105⟩, fun b hb => by first | (rw [hb] at c122; exact absurd c122 (cp_ne_m1 (by have := cp_bst_lt hb; omega))) | (have h45 := Int32.not_le.mp c136; rw [hb] at h45; have h46 : nI (cp_with u20 (nI k)) < nI (cp_with u20 (nI b)) := h45; rw [nI_ltI (by have := cp_with_le hM3 (nI k); omega) (by have := cp_with_le hM3 (nI b); omega)] at h46; exact h46)⟩
                      have hl : lv_has ls 6 [(4, .int x146), (3, .int (cp_o (cp_bst (cp_suitY u20 g ch) (fun g9 => cp_with u20 (nI g9)) (k + 1)))), (5, .int 1), (2, .int (cp_season (u20 12 g))), (0, .ref h), (1, .int (nI g))] := by rw [e9]; exact hl
                      obtain rfl : x146 = nI (k + 1) := by rw [ex146]; exact nI_1 k
                      exact ih (k + 1) (by omega) (by omega) _ _ hI ls (lv_sub hl [0, 1, 3, 4, 5] rfl)
                    · refine lv_aload_n hx hb dX1_plans_125 rfl (lv_at hl 4 rfl) ?_
                      refine lv_iload hx hb dX1_plans_126 (lv_at hl 1 rfl) ?_
                      refine cp_cVi0 (wc := cp_wY cI cZ h a) (u := u20) (As := [.int (nI k)]) (rest := []) ⟨hx, hb, hml, hown, hts⟩ (c_X1_servicesWith l D cI cZ h a u20 (nI k) hM3) (cwV 1 hts gX1_plans_X1_servicesWith rfl rfl rfl (by decide +kernel) ⟨Nat.le_of_ble_eq_true rfl, Nat.le_of_ble_eq_true rfl⟩) hK hI hA ⟨_, cp_hY _ _ _ _ _⟩ rfl rfl rfl hl.1 rfl (Nat.le_of_ble_eq_true rfl) dX1_plans_128 ⟨Nat.le_of_ble_eq_true rfl, Nat.le_of_ble_eq_true rfl⟩ (fun r128 u128 H locs hp128 hI => ?_)
                      obtain ⟨rfl, e9⟩ := hp128
                      rw [e9] at hI
                      refine lv_aload_n hx hb dX1_plans_131 rfl (lv_at hl 4 rfl) ?_
                      refine lv_iload_n hx hb dX1_plans_132 rfl (lv_at hl 2 rfl) ?_
                      refine cp_cVi0 (wc := cp_wY cI cZ h a) (u := u20) (As := [.int (cp_o (cp_bst (cp_suitY u20 g ch) (fun g9 => cp_with u20 (nI g9)) k))]) (rest := [.int (nI (cp_with u20 (nI k)))]) ⟨hx, hb, hml, hown, hts⟩ (c_X1_servicesWith l D cI cZ h a u20 (cp_o (cp_bst (cp_suitY u20 g ch) (fun g9 => cp_with u20 (nI g9)) k)) hM3) (cwV 1 hts gX1_plans_X1_servicesWith rfl rfl rfl (by decide +kernel) ⟨Nat.le_of_ble_eq_true rfl, Nat.le_of_ble_eq_true rfl⟩) hK hI hA ⟨_, cp_hY _ _ _ _ _⟩ rfl rfl rfl hl.1 rfl (Nat.le_of_ble_eq_true rfl) dX1_plans_133 ⟨Nat.le_of_ble_eq_true rfl, Nat.le_of_ble_eq_true rfl⟩ (fun r133 u133 H locs hp133 hI => ?_)
                      obtain ⟨rfl, e9⟩ := hp133
                      rw [e9] at hI
                      refine lv_icmp_ge (tgt := 144) hx hb dX1_plans_136 (by decide) (fun c136 => ?_) (fun c136 => ?_)
                      · refine lv_iload_n hx hb dX1_plans_144 rfl (lv_at hl 2 rfl) ?_
                        refine lv_topi (fun x145 ex145 => ?_)
                        refine lv_istore_n (lv' := [(3, .int x145), (5, .int 1), (4, .int (nI k)), (2, .int (cp_season (u20 12 g))), (0, .ref h), (1, .int (nI g))]) hx hb dX1_plans_145 rfl hl (by decide) rfl (fun ls hl => ?_)
                        obtain ⟨x146, ex146⟩ : ∃ y9 : Int32, y9 = (nI k) + 1 := ⟨_, rfl⟩
                        refine lv_iinc (v := x146) (lv' := [(4, .int x146), (3, .int x145), (5, .int 1), (2, .int (cp_season (u20 12 g))), (0, .ref h), (1, .int (nI g))]) hx hb dX1_plans_146 hl (k := 2) rfl (by rw [ex146]; rfl) (by decide) rfl (fun ls hl => ?_)
                        refine lv_goto (tgt := 26) hx hb dX1_plans_149 (by decide) ?_
                        have e9 : cp_bst (cp_suitY u20 g ch) (fun g9 => cp_with u20 (nI g9)) (k + 1) = cp_bst (cp_suitY u20 g ch) (fun g9 => cp_with u20 (nI g9)) k := cp_bst_f (fun hh => by first | exact c52 hh.1.1.1 | exact c67 hh.1.1.2 | exact c95 hh.1.2.1 | exact c105 hh.1.2.2 | (rcases hb : cp_bst (cp_suitY u20 g ch) (fun g9 => cp_with u20 (nI g9)) k with _ | b; exact c122 (by rw [hb]; rfl); have h9 := hh.2 b hb; rw [hb] at c136; have h46 : nI (cp_with u20 (nI b)) ≤ nI (cp_with u20 (nI k)) := c136; rw [nI_leI (by have := cp_with_le hM3 (nI b); omega) (by have := cp_with_le hM3 (nI k); omega)] at h46; omega))
                        have hl : lv_has ls 6 [(4, .int x146), (3, .int (cp_o (cp_bst (cp_suitY u20 g ch) (fun g9 => cp_with u20 (nI g9)) (k + 1)))), (5, .int 1), (2, .int (cp_season (u20 12 g))), (0, .ref h), (1, .int (nI g))] := by rw [e9, ← ex145]; exact hl
                        obtain rfl : x146 = nI (k + 1) := by rw [ex146]; exact nI_1 k
                        exact ih (k + 1) (by omega) (by omega) _ _ hI ls (lv_sub hl [0, 1, 3, 4, 5] rfl)
                      · refine lv_iload hx hb dX1_plans_139 (lv_at hl 1 rfl) ?_
                        refine lv_goto (tgt := 145) hx hb dX1_plans_141 (by decide) ?_
                        refine lv_istore_n (lv' := [(3, .int (nI k)), (5, .int 1), (4, .int (nI k)), (2, .int (cp_season (u20 12 g))), (0, .ref h), (1, .int (nI g))]) hx hb dX1_plans_145 rfl hl (by decide) rfl (fun ls hl => ?_)
                        obtain ⟨x146, ex146⟩ : ∃ y9 : Int32, y9 = (nI k) + 1 := ⟨_, rfl⟩
                        refine lv_iinc (v := x146) (lv' := [(4, .int x146), (3, .int (nI k)), (5, .int 1), (2, .int (cp_season (u20 12 g))), (0, .ref h), (1, .int (nI g))]) hx hb dX1_plans_146 hl (k := 2) rfl (by rw [ex146]; rfl) (by decide) rfl (fun ls hl => ?_)
                        refine lv_goto (tgt := 26) hx hb dX1_plans_149 (by decide) ?_
                        have e9 : cp_bst (cp_suitY u20 g ch) (fun g9 => cp_with u20 (nI g9)) (k + 1) = some k := cp_bst_t ⟨⟨⟨c52, c67⟩, c95, c105⟩, fun b hb => by first | (rw [hb] at c122; exact absurd c122 (cp_ne_m1 (by have := cp_bst_lt hb; omega))) | (have h45 := Int32.not_le.mp c136; rw [hb] at h45; have h46 : nI (cp_with u20 (nI k)) < nI (cp_with u20 (nI b)) := h45; rw [nI_ltI (by have := cp_with_le hM3 (nI k); omega) (by have := cp_with_le hM3 (nI b); omega)] at h46; exact h46)⟩
                        have hl : lv_has ls 6 [(4, .int x146), (3, .int (cp_o (cp_bst (cp_suitY u20 g ch) (fun g9 => cp_with u20 (nI g9)) (k + 1)))), (5, .int 1), (2, .int (cp_season (u20 12 g))), (0, .ref h), (1, .int (nI g))] := by rw [e9]; exact hl
                        obtain rfl : x146 = nI (k + 1) := by rw [ex146]; exact nI_1 k
                        exact ih (k + 1) (by omega) (by omega) _ _ hI ls (lv_sub hl [0, 1, 3, 4, 5] rfl)
  exact L26 ((cp_n u20 1) + 1) 0 (Nat.lt_succ_self _) (Nat.zero_le _) _ _ hI ls (lv_sub hl [0, 1, 2, 3, 4] rfl)
set_option maxHeartbeats 4000000 in
set_option maxRecDepth 100000 in
theorem c_X1_sungOf (l : Launch) (D : va_G) (cI cZ : ClassId) (h : Nat) (a : Nat → Nat) (u : cp_M) (ow : Int32) (y : Int32) (hN3 : cp_cn u 3 40) (hS : ∀ k, k < cp_n u 3 → u 13 k = -1 ∨ ∃ g, g < 16 ∧ u 13 k = nI g) : ∀ sz : Nat, Met l yX1_sungOf wsX1_sungOf ({ frames := 0, cells := 0, slots := 0, locals := 0 } : Room) (va_Pc [.ref h, .int ow, .int y] (cp_pre D [(cI, .int), (cZ, .boolean)] (cp_wY cI cZ h a u) sz)) (va_Qi (fun (r : Int32) (u1 : cp_M) => r = nI (cp_cnt (cp_sgY u ow y) (cp_n u 3)) ∧ u1 = u) (cp_at D [(cI, .int), (cZ, .boolean)] (va_A (cp_wY cI cZ h a u) sz) (cp_wY cI cZ h a)) (va_A (cp_wY cI cZ h a u) sz)) 0 0 (va_A (cp_wY cI cZ h a u) sz) := by
  refine cp_MetI (Qk := fun A => va_Qi (fun (r : Int32) (u1 : cp_M) => r = nI (cp_cnt (cp_sgY u ow y) (cp_n u 3)) ∧ u1 = u) (cp_at D [(cI, .int), (cZ, .boolean)] A (cp_wY cI cZ h a)) A) (by decide) rfl (Nat.le_of_ble_eq_true rfl) ?_
  intro p e s m args below meth c A hC hA hK hI ls hl
  obtain ⟨hx, hb, hml, hown, hts, hr, hlocks⟩ := hC
  have hown : s.vm.findClass RX1 = some m.cls := hown
  have hl : lv_has ls 6 [(0, .ref h), (1, .int ow), (2, .int y)] := hl
  have inW : ∀ w ∈ wsX10, w ∈ wsX1_sungOf := by decide +kernel
  have fl_day : Cond.fieldLink RX1 43 "CanticlePressModel" "day" "[I" ∈ wsX1_sungOf := by decide +kernel
  have fl_owner : Cond.fieldLink RX1 7 "CanticlePressModel" "owner" "[I" ∈ wsX1_sungOf := by decide +kernel
  have fl_services : Cond.fieldLink RX1 92 "CanticlePressModel" "services" "I" ∈ wsX1_sungOf := by decide +kernel
  have fl_sung : Cond.fieldLink RX1 46 "CanticlePressModel" "sung" "[I" ∈ wsX1_sungOf := by decide +kernel
  have fl_today : Cond.fieldLink RX1 89 "CanticlePressModel" "today" "I" ∈ wsX1_sungOf := by decide +kernel
  refine lv_iconst (v := 0) hx hb dX1_sungOf_0 (by decide) ?_
  refine lv_istore_n (lv' := [(3, .int 0), (0, .ref h), (1, .int ow), (2, .int y)]) hx hb dX1_sungOf_1 rfl hl (by decide) rfl (fun ls hl => ?_)
  refine lv_iconst (v := 0) hx hb dX1_sungOf_2 (by decide) ?_
  refine lv_istore (lv' := [(4, .int 0), (3, .int 0), (0, .ref h), (1, .int ow), (2, .int y)]) hx hb dX1_sungOf_3 hl (by decide) rfl (fun ls hl => ?_)
  have L5 : ∀ (n9 : Nat) (k : Nat) (hm9 : cp_n u 3 - k < n9) (hk : k ≤ cp_n u 3), ∀ (H : Heap) (locs : List Loc), cp_I D (cp_wY cI cZ h a u) A s.heap H locs → ∀ ls, lv_has ls 6 [(4, .int (nI k)), (3, .int (nI (cp_cnt (cp_sgY u ow y) k))), (0, .ref h), (1, .int ow), (2, .int y)] → W p l e ({ frames := 0, cells := 0, slots := 0, locals := 0 } : Room) s m args below meth c H locs 0 0 (MQ below (va_Qi (fun (r : Int32) (u1 : cp_M) => r = nI (cp_cnt (cp_sgY u ow y) (cp_n u 3)) ∧ u1 = u) (cp_at D [(cI, .int), (cZ, .boolean)] A (cp_wY cI cZ h a)) A) args s 0 0 A) (F0 m 5 ls []) := by
    intro n9
    induction n9 with
    | zero => intro k hm9; omega
    | succ n9 ih =>
      intro k hm9 hk H locs hI ls hl
      have hN9 := hN3.2.1
      refine lv_iload hx hb dX1_sungOf_5 (lv_at hl 0 rfl) ?_
      refine lv_aload_n hx hb dX1_sungOf_7 rfl (lv_at hl 2 rfl) ?_
      refine cp_get (v := .int (u 14 3)) hx hb hts inW hown hK hI (cp_hY _ _ _ _ _) rfl 14 (by decide) fl_services rfl rfl dX1_sungOf_8 ?_
      refine lv_icmp_ge (tgt := 111) hx hb dX1_sungOf_11 (by decide) (fun c11 => ?_) (fun c11 => ?_)
      · have hk2 := cp_ex hN3 hk c11
        refine lv_iload_n hx hb dX1_sungOf_111 rfl (lv_at hl 1 rfl) ?_
        exact cp_reti (u := u) (v := (nI (cp_cnt (cp_sgY u ow y) k))) hx hb hr hlocks hK hI ⟨by rw [hk2], rfl⟩ dX1_sungOf_112
      · have hk2 := cp_in hN3 (by omega) c11
        refine lv_aload_n hx hb dX1_sungOf_14 rfl (lv_at hl 2 rfl) ?_
        refine cp_get (v := .ref (a 12)) hx hb hts inW hown hK hI (cp_hY _ _ _ _ _) rfl 16 (by decide) fl_day rfl rfl dX1_sungOf_15 ?_
        refine lv_iload hx hb dX1_sungOf_18 (lv_at hl 0 rfl) ?_
        refine cp_iald (f := u 12) hx hb hK hI 0 (cp_aY_12 _ _ _ _ _) rfl (j := k) (cp_ix_n (by omega) (by decide)) dX1_sungOf_20 ?_
        refine lv_aload_n hx hb dX1_sungOf_21 rfl (lv_at hl 2 rfl) ?_
        refine cp_get (v := .int (u 14 0)) hx hb hts inW hown hK hI (cp_hY _ _ _ _ _) rfl 1 (by decide) fl_today rfl rfl dX1_sungOf_22 ?_
        refine lv_icmp_gt (tgt := 58) hx hb dX1_sungOf_25 (by decide) (fun c25 => ?_) (fun c25 => ?_)
        · refine lv_iconst (v := 0) hx hb dX1_sungOf_58 (by decide) ?_
          refine lv_istore (lv' := [(5, .int 0), (4, .int (nI k)), (3, .int (nI (cp_cnt (cp_sgY u ow y) k))), (0, .ref h), (1, .int ow), (2, .int y)]) hx hb dX1_sungOf_59 hl (by decide) rfl (fun ls hl => ?_)
          refine lv_iload_n hx hb dX1_sungOf_61 rfl (lv_at hl 2 rfl) ?_
          refine lv_iload hx hb dX1_sungOf_62 (lv_at hl 0 rfl) ?_
          refine lv_if_eq (tgt := 102) hx hb dX1_sungOf_64 (by decide) (fun c64 => ?_) (fun c64 => ?_)
          · refine lv_iconst (v := 0) hx hb dX1_sungOf_102 (by decide) ?_
            refine lv_iadd hx hb dX1_sungOf_103 ?_
            refine lv_topi (fun x104 ex104 => ?_)
            refine lv_istore_n (lv' := [(3, .int x104), (5, .int 0), (4, .int (nI k)), (0, .ref h), (1, .int ow), (2, .int y)]) hx hb dX1_sungOf_104 rfl hl (by decide) rfl (fun ls hl => ?_)
            obtain ⟨x105, ex105⟩ : ∃ y9 : Int32, y9 = (nI k) + 1 := ⟨_, rfl⟩
            refine lv_iinc (v := x105) (lv' := [(4, .int x105), (3, .int x104), (5, .int 0), (0, .ref h), (1, .int ow), (2, .int y)]) hx hb dX1_sungOf_105 hl (k := 2) rfl (by rw [ex105]; rfl) (by decide) rfl (fun ls hl => ?_)
            refine lv_goto (tgt := 5) hx hb dX1_sungOf_108 (by decide) ?_
            obtain rfl : x104 = nI (cp_cnt (cp_sgY u ow y) (k + 1)) := by rw [ex104, cp_cnt_f (p := (cp_sgY u ow y)) (by first | exact fun h => absurd h.1.1 (Int32.not_le.mpr c25) | exact fun h => c40 h.1.2.1 | exact fun h => h.1.2.2 c51 | exact fun h => c95 h.2)]; exact cp_add0 _
            obtain rfl : x105 = nI (k + 1) := by rw [ex105]; exact nI_1 k
            exact ih (k + 1) (by omega) (by omega) _ _ hI ls (lv_sub hl [0, 1, 3, 4, 5] rfl)
          · exact absurd (by decide) c64
        · refine lv_aload_n hx hb dX1_sungOf_28 rfl (lv_at hl 2 rfl) ?_
          refine cp_get (v := .ref (a 12)) hx hb hts inW hown hK hI (cp_hY _ _ _ _ _) rfl 16 (by decide) fl_day rfl rfl dX1_sungOf_29 ?_
          refine lv_iload hx hb dX1_sungOf_32 (lv_at hl 0 rfl) ?_
          refine cp_iald (f := u 12) hx hb hK hI 0 (cp_aY_12 _ _ _ _ _) rfl (j := k) (cp_ix_n (by omega) (by decide)) dX1_sungOf_34 ?_
          refine lv_sipush (v := 365) hx hb dX1_sungOf_35 (by decide) ?_
          refine lv_idiv hx hb dX1_sungOf_38 (by decide) ?_
          refine lv_iload_n hx hb dX1_sungOf_39 rfl (lv_at hl 4 rfl) ?_
          refine lv_icmp_ne (tgt := 58) hx hb dX1_sungOf_40 (by decide) (fun c40 => ?_) (fun c40 => ?_)
          · refine lv_iconst (v := 0) hx hb dX1_sungOf_58 (by decide) ?_
            refine lv_istore (lv' := [(5, .int 0), (4, .int (nI k)), (3, .int (nI (cp_cnt (cp_sgY u ow y) k))), (0, .ref h), (1, .int ow), (2, .int y)]) hx hb dX1_sungOf_59 hl (by decide) rfl (fun ls hl => ?_)
            refine lv_iload_n hx hb dX1_sungOf_61 rfl (lv_at hl 2 rfl) ?_
            refine lv_iload hx hb dX1_sungOf_62 (lv_at hl 0 rfl) ?_
            refine lv_if_eq (tgt := 102) hx hb dX1_sungOf_64 (by decide) (fun c64 => ?_) (fun c64 => ?_)
            · refine lv_iconst (v := 0) hx hb dX1_sungOf_102 (by decide) ?_
              refine lv_iadd hx hb dX1_sungOf_103 ?_
              refine lv_topi (fun x104 ex104 => ?_)
              refine lv_istore_n (lv' := [(3, .int x104), (5, .int 0), (4, .int (nI k)), (0, .ref h), (1, .int ow), (2, .int y)]) hx hb dX1_sungOf_104 rfl hl (by decide) rfl (fun ls hl => ?_)
              obtain ⟨x105, ex105⟩ : ∃ y9 : Int32, y9 = (nI k) + 1 := ⟨_, rfl⟩
              refine lv_iinc (v := x105) (lv' := [(4, .int x105), (3, .int x104), (5, .int 0), (0, .ref h), (1, .int ow), (2, .int y)]) hx hb dX1_sungOf_105 hl (k := 2) rfl (by rw [ex105]; rfl) (by decide) rfl (fun ls hl => ?_)
              refine lv_goto (tgt := 5) hx hb dX1_sungOf_108 (by decide) ?_
              obtain rfl : x104 = nI (cp_cnt (cp_sgY u ow y) (k + 1)) := by rw [ex104, cp_cnt_f (p := (cp_sgY u ow y)) (by first | exact fun h => absurd h.1.1 (Int32.not_le.mpr c25) | exact fun h => c40 h.1.2.1 | exact fun h => h.1.2.2 c51 | exact fun h => c95 h.2)]; exact cp_add0 _
              obtain rfl : x105 = nI (k + 1) := by rw [ex105]; exact nI_1 k
              exact ih (k + 1) (by omega) (by omega) _ _ hI ls (lv_sub hl [0, 1, 3, 4, 5] rfl)
            · exact absurd (by decide) c64
          · refine lv_aload_n hx hb dX1_sungOf_43 rfl (lv_at hl 2 rfl) ?_
            refine cp_get (v := .ref (a 13)) hx hb hts inW hown hK hI (cp_hY _ _ _ _ _) rfl 17 (by decide) fl_sung rfl rfl dX1_sungOf_44 ?_
            refine lv_iload hx hb dX1_sungOf_47 (lv_at hl 0 rfl) ?_
            refine cp_iald (f := u 13) hx hb hK hI 0 (cp_aY_13 _ _ _ _ _) rfl (j := k) (cp_ix_n (by omega) (by decide)) dX1_sungOf_49 ?_
            refine lv_iconst (v := (-1)) hx hb dX1_sungOf_50 (by decide) ?_
            refine lv_icmp_eq (tgt := 58) hx hb dX1_sungOf_51 (by decide) (fun c51 => ?_) (fun c51 => ?_)
            · refine lv_iconst (v := 0) hx hb dX1_sungOf_58 (by decide) ?_
              refine lv_istore (lv' := [(5, .int 0), (4, .int (nI k)), (3, .int (nI (cp_cnt (cp_sgY u ow y) k))), (0, .ref h), (1, .int ow), (2, .int y)]) hx hb dX1_sungOf_59 hl (by decide) rfl (fun ls hl => ?_)
              refine lv_iload_n hx hb dX1_sungOf_61 rfl (lv_at hl 2 rfl) ?_
              refine lv_iload hx hb dX1_sungOf_62 (lv_at hl 0 rfl) ?_
              refine lv_if_eq (tgt := 102) hx hb dX1_sungOf_64 (by decide) (fun c64 => ?_) (fun c64 => ?_)
              · refine lv_iconst (v := 0) hx hb dX1_sungOf_102 (by decide) ?_
                refine lv_iadd hx hb dX1_sungOf_103 ?_
                refine lv_topi (fun x104 ex104 => ?_)
                refine lv_istore_n (lv' := [(3, .int x104), (5, .int 0), (4, .int (nI k)), (0, .ref h), (1, .int ow), (2, .int y)]) hx hb dX1_sungOf_104 rfl hl (by decide) rfl (fun ls hl => ?_)
                obtain ⟨x105, ex105⟩ : ∃ y9 : Int32, y9 = (nI k) + 1 := ⟨_, rfl⟩
                refine lv_iinc (v := x105) (lv' := [(4, .int x105), (3, .int x104), (5, .int 0), (0, .ref h), (1, .int ow), (2, .int y)]) hx hb dX1_sungOf_105 hl (k := 2) rfl (by rw [ex105]; rfl) (by decide) rfl (fun ls hl => ?_)
                refine lv_goto (tgt := 5) hx hb dX1_sungOf_108 (by decide) ?_
                obtain rfl : x104 = nI (cp_cnt (cp_sgY u ow y) (k + 1)) := by rw [ex104, cp_cnt_f (p := (cp_sgY u ow y)) (by first | exact fun h => absurd h.1.1 (Int32.not_le.mpr c25) | exact fun h => c40 h.1.2.1 | exact fun h => h.1.2.2 c51 | exact fun h => c95 h.2)]; exact cp_add0 _
                obtain rfl : x105 = nI (k + 1) := by rw [ex105]; exact nI_1 k
                exact ih (k + 1) (by omega) (by omega) _ _ hI ls (lv_sub hl [0, 1, 3, 4, 5] rfl)
              · exact absurd (by decide) c64
            · refine lv_iconst (v := 1) hx hb dX1_sungOf_54 (by decide) ?_
              refine lv_goto (tgt := 59) hx hb dX1_sungOf_55 (by decide) ?_
              refine lv_istore (lv' := [(5, .int 1), (4, .int (nI k)), (3, .int (nI (cp_cnt (cp_sgY u ow y) k))), (0, .ref h), (1, .int ow), (2, .int y)]) hx hb dX1_sungOf_59 hl (by decide) rfl (fun ls hl => ?_)
              refine lv_iload_n hx hb dX1_sungOf_61 rfl (lv_at hl 2 rfl) ?_
              refine lv_iload hx hb dX1_sungOf_62 (lv_at hl 0 rfl) ?_
              refine lv_if_eq (tgt := 102) hx hb dX1_sungOf_64 (by decide) (fun c64 => ?_) (fun c64 => ?_)
              · exact absurd c64 (by decide)
              · refine lv_aload_n hx hb dX1_sungOf_67 rfl (lv_at hl 3 rfl) ?_
                refine cp_get (v := .ref (a 0)) hx hb hts inW hown hK hI (cp_hY _ _ _ _ _) rfl 3 (by decide) fl_owner rfl rfl dX1_sungOf_68 ?_
                refine lv_aload_n hx hb dX1_sungOf_71 rfl (lv_at hl 3 rfl) ?_
                refine cp_get (v := .ref (a 13)) hx hb hts inW hown hK hI (cp_hY _ _ _ _ _) rfl 17 (by decide) fl_sung rfl rfl dX1_sungOf_72 ?_
                refine lv_iload hx hb dX1_sungOf_75 (lv_at hl 1 rfl) ?_
                refine cp_iald (f := u 13) hx hb hK hI 0 (cp_aY_13 _ _ _ _ _) rfl (j := k) (cp_ix_n (by omega) (by decide)) dX1_sungOf_77 ?_
                refine lv_iconst (v := (-1)) hx hb dX1_sungOf_78 (by decide) ?_
                refine lv_icmp_ne (tgt := 86) hx hb dX1_sungOf_79 (by decide) (fun c79 => ?_) (fun c79 => ?_)
                · refine lv_aload_n hx hb dX1_sungOf_86 rfl (lv_at hl 3 rfl) ?_
                  refine cp_get (v := .ref (a 13)) hx hb hts inW hown hK hI (cp_hY _ _ _ _ _) rfl 17 (by decide) fl_sung rfl rfl dX1_sungOf_87 ?_
                  refine lv_iload hx hb dX1_sungOf_90 (lv_at hl 1 rfl) ?_
                  refine cp_iald (f := u 13) hx hb hK hI 0 (cp_aY_13 _ _ _ _ _) rfl (j := k) (cp_ix_n (by omega) (by decide)) dX1_sungOf_92 ?_
                  refine cp_iald (f := u 0) hx hb hK hI 0 (cp_aY_0 _ _ _ _ _) rfl (j := (u 13 k).toNatClampNeg) (by obtain ⟨g9, hg9, e9⟩ := (hS k hk2).resolve_left c51; exact ⟨rfl, by rw [e9]; exact vp_in_nI hg9 (by decide)⟩) dX1_sungOf_93 ?_
                  refine lv_iload_n hx hb dX1_sungOf_94 rfl (lv_at hl 4 rfl) ?_
                  refine lv_icmp_ne (tgt := 102) hx hb dX1_sungOf_95 (by decide) (fun c95 => ?_) (fun c95 => ?_)
                  · refine lv_iconst (v := 0) hx hb dX1_sungOf_102 (by decide) ?_
                    refine lv_iadd hx hb dX1_sungOf_103 ?_
                    refine lv_topi (fun x104 ex104 => ?_)
                    refine lv_istore_n (lv' := [(3, .int x104), (5, .int 1), (4, .int (nI k)), (0, .ref h), (1, .int ow), (2, .int y)]) hx hb dX1_sungOf_104 rfl hl (by decide) rfl (fun ls hl => ?_)
                    obtain ⟨x105, ex105⟩ : ∃ y9 : Int32, y9 = (nI k) + 1 := ⟨_, rfl⟩
                    refine lv_iinc (v := x105) (lv' := [(4, .int x105), (3, .int x104), (5, .int 1), (0, .ref h), (1, .int ow), (2, .int y)]) hx hb dX1_sungOf_105 hl (k := 2) rfl (by rw [ex105]; rfl) (by decide) rfl (fun ls hl => ?_)
                    refine lv_goto (tgt := 5) hx hb dX1_sungOf_108 (by decide) ?_
                    obtain rfl : x104 = nI (cp_cnt (cp_sgY u ow y) (k + 1)) := by rw [ex104, cp_cnt_f (p := (cp_sgY u ow y)) (by first | exact fun h => absurd h.1.1 (Int32.not_le.mpr c25) | exact fun h => c40 h.1.2.1 | exact fun h => h.1.2.2 c51 | exact fun h => c95 h.2)]; exact cp_add0 _
                    obtain rfl : x105 = nI (k + 1) := by rw [ex105]; exact nI_1 k
                    exact ih (k + 1) (by omega) (by omega) _ _ hI ls (lv_sub hl [0, 1, 3, 4, 5] rfl)
                  · refine lv_iconst (v := 1) hx hb dX1_sungOf_98 (by decide) ?_
                    refine lv_goto (tgt := 103) hx hb dX1_sungOf_99 (by decide) ?_
                    refine lv_iadd hx hb dX1_sungOf_103 ?_
                    refine lv_topi (fun x104 ex104 => ?_)
                    refine lv_istore_n (lv' := [(3, .int x104), (5, .int 1), (4, .int (nI k)), (0, .ref h), (1, .int ow), (2, .int y)]) hx hb dX1_sungOf_104 rfl hl (by decide) rfl (fun ls hl => ?_)
                    obtain ⟨x105, ex105⟩ : ∃ y9 : Int32, y9 = (nI k) + 1 := ⟨_, rfl⟩
                    refine lv_iinc (v := x105) (lv' := [(4, .int x105), (3, .int x104), (5, .int 1), (0, .ref h), (1, .int ow), (2, .int y)]) hx hb dX1_sungOf_105 hl (k := 2) rfl (by rw [ex105]; rfl) (by decide) rfl (fun ls hl => ?_)
                    refine lv_goto (tgt := 5) hx hb dX1_sungOf_108 (by decide) ?_
                    obtain rfl : x104 = nI (cp_cnt (cp_sgY u ow y) (k + 1)) := by rw [ex104, cp_cnt_t (p := (cp_sgY u ow y)) ⟨⟨Int32.not_lt.mp c25, c40, c51⟩, c95⟩]; exact nI_1 _
                    obtain rfl : x105 = nI (k + 1) := by rw [ex105]; exact nI_1 k
                    exact ih (k + 1) (by omega) (by omega) _ _ hI ls (lv_sub hl [0, 1, 3, 4, 5] rfl)
                · exact absurd c79 c51
  exact L5 ((cp_n u 3) + 1) 0 (Nat.lt_succ_self _) (Nat.zero_le _) _ _ hI ls (lv_sub hl [0, 1, 2, 3, 4] rfl)
