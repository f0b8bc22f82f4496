set_option maxHeartbeats 4000000 in
set_option maxRecDepth 100000 in
theorem c_J6_bitCount_0f7a4 (l : Launch)  (x : Int32)  : ∀ (D : va_G) (sz : Nat), Met l yJ6_bitCount_0f7a4 wsJ6_bitCount_0f7a4 ({ frames := 0, cells := 0, slots := 0, locals := 0 } : Room) (va_Pc [.int x] (cp_pre D [] [] sz)) (va_Qi (fun (r : Int32) (u1 : cp_M) => r = cp_swar x) (cp_at D [] (va_A [] sz) (fun _ => [])) (va_A [] sz)) 0 0 (va_A [] sz) := by
  intro D
  refine cp_MetI (Qk := fun A => va_Qi (fun (r : Int32) (u1 : cp_M) => r = cp_swar x) (cp_at D [] A (fun _ => [])) A) (by decide) rfl (Nat.le_of_ble_eq_true rfl) ?_
  intro p e s m args below meth c A hC hA hK hI ls hl
  obtain ⟨hx, hb, hml, hown, hts, hr, hlocks⟩ := hC
  have hown : s.vm.findClass RJ6 = some m.cls := hown
  have hl : lv_has ls 1 [(0, .int x)] := hl
  refine lv_iload_n hx hb dJ6_bitCount_0f7a4_0 rfl (lv_at hl 0 rfl) ?_
  refine lv_iload_n hx hb dJ6_bitCount_0f7a4_1 rfl (lv_at hl 0 rfl) ?_
  refine lv_iconst (v := 1) hx hb dJ6_bitCount_0f7a4_2 (by decide) ?_
  refine lv_iushr (v := (x.toUInt32 >>> ((1 : Int32).toUInt32 &&& Int32.toUInt32 31)).toInt32) hx hb dJ6_bitCount_0f7a4_3 rfl ?_
  refine lv_ldcw (v := 1431655765) hx hb hown (hts _ (by decide +kernel)) dJ6_bitCount_0f7a4_4 ?_
  refine lv_iand hx hb dJ6_bitCount_0f7a4_7 ?_
  refine lv_isub hx hb dJ6_bitCount_0f7a4_8 ?_
  refine lv_topi (fun x9 ex9 => ?_)
  refine lv_istore_n (lv' := [(0, .int x9)]) hx hb dJ6_bitCount_0f7a4_9 rfl hl (by decide) rfl (fun ls hl => ?_)
  refine lv_iload_n hx hb dJ6_bitCount_0f7a4_10 rfl (lv_at hl 0 rfl) ?_
  refine lv_ldcw (v := 858993459) hx hb hown (hts _ (by decide +kernel)) dJ6_bitCount_0f7a4_11 ?_
  refine lv_iand hx hb dJ6_bitCount_0f7a4_14 ?_
  refine lv_iload_n hx hb dJ6_bitCount_0f7a4_15 rfl (lv_at hl 0 rfl) ?_
  refine lv_iconst (v := 2) hx hb dJ6_bitCount_0f7a4_16 (by decide) ?_
  refine lv_iushr (v := (x9.toUInt32 >>> ((2 : Int32).toUInt32 &&& Int32.toUInt32 31)).toInt32) hx hb dJ6_bitCount_0f7a4_17 rfl ?_
  refine lv_ldcw (v := 858993459) hx hb hown (hts _ (by decide +kernel)) dJ6_bitCount_0f7a4_18 ?_
  refine lv_iand hx hb dJ6_bitCount_0f7a4_21 ?_
  refine lv_iadd hx hb dJ6_bitCount_0f7a4_22 ?_
  refine lv_topi (fun x23 ex23 => ?_)
  refine lv_istore_n (lv' := [(0, .int x23)]) hx hb dJ6_bitCount_0f7a4_23 rfl hl (by decide) rfl (fun ls hl => ?_)
  refine lv_iload_n hx hb dJ6_bitCount_0f7a4_24 rfl (lv_at hl 0 rfl) ?_
  refine lv_iload_n hx hb dJ6_bitCount_0f7a4_25 rfl (lv_at hl 0 rfl) ?_
  refine lv_iconst (v := 4) hx hb dJ6_bitCount_0f7a4_26 (by decide) ?_
  refine lv_iushr (v := (x23.toUInt32 >>> ((4 : Int32).toUInt32 &&& Int32.toUInt32 31)).toInt32) hx hb dJ6_bitCount_0f7a4_27 rfl ?_
  refine lv_iadd hx hb dJ6_bitCount_0f7a4_28 ?_
  refine lv_ldcw (v := 252645135) hx hb hown (hts _ (by decide +kernel)) dJ6_bitCount_0f7a4_29 ?_
  refine lv_iand hx hb dJ6_bitCount_0f7a4_32 ?_
  refine lv_topi (fun x33 ex33 => ?_)
  refine lv_istore_n (lv' := [(0, .int x33)]) hx hb dJ6_bitCount_0f7a4_33 rfl hl (by decide) rfl (fun ls hl => ?_)
  refine lv_iload_n hx hb dJ6_bitCount_0f7a4_34 rfl (lv_at hl 0 rfl) ?_
  refine lv_iload_n hx hb dJ6_bitCount_0f7a4_35 rfl (lv_at hl 0 rfl) ?_
  refine lv_bipush (v := 8) hx hb dJ6_bitCount_0f7a4_36 (by decide) ?_
  refine lv_iushr (v := (x33.toUInt32 >>> ((8 : Int32).toUInt32 &&& Int32.toUInt32 31)).toInt32) hx hb dJ6_bitCount_0f7a4_38 rfl ?_
  refine lv_iadd hx hb dJ6_bitCount_0f7a4_39 ?_
  refine lv_topi (fun x40 ex40 => ?_)
  refine lv_istore_n (lv' := [(0, .int x40)]) hx hb dJ6_bitCount_0f7a4_40 rfl hl (by decide) rfl (fun ls hl => ?_)
  refine lv_iload_n hx hb dJ6_bitCount_0f7a4_41 rfl (lv_at hl 0 rfl) ?_
  refine lv_iload_n hx hb dJ6_bitCount_0f7a4_42 rfl (lv_at hl 0 rfl) ?_
  refine lv_bipush (v := 16) hx hb dJ6_bitCount_0f7a4_43 (by decide) ?_
  refine lv_iushr (v := (x40.toUInt32 >>> ((16 : Int32).toUInt32 &&& Int32.toUInt32 31)).toInt32) hx hb dJ6_bitCount_0f7a4_45 rfl ?_
  refine lv_iadd hx hb dJ6_bitCount_0f7a4_46 ?_
  refine lv_topi (fun x47 ex47 => ?_)
  refine lv_istore_n (lv' := [(0, .int x47)]) hx hb dJ6_bitCount_0f7a4_47 rfl hl (by decide) rfl (fun ls hl => ?_)
  refine lv_iload_n hx hb dJ6_bitCount_0f7a4_48 rfl (lv_at hl 0 rfl) ?_
  refine lv_bipush (v := 63) hx hb dJ6_bitCount_0f7a4_49 (by decide) ?_
  refine lv_iand hx hb dJ6_bitCount_0f7a4_51 ?_
  exact cp_reti (u := (fun _ _ => 0)) (v := (x47 &&& 63)) hx hb hr hlocks hK hI (by subst ex47; subst ex40; subst ex33; subst ex23; subst ex9; rfl) dJ6_bitCount_0f7a4_52
set_option maxHeartbeats 4000000 in
set_option maxRecDepth 100000 in
theorem c_J13_bitCount_95d88 (l : Launch)  (x : Int64)  : ∀ (D : va_G) (sz : Nat), Met l yJ13_bitCount_95d88 wsJ13_bitCount_95d88 ({ frames := 0, cells := 0, slots := 0, locals := 0 } : Room) (va_Pc [.long x] (cp_pre D [] [] sz)) (va_Qi (fun (r : Int32) (u1 : cp_M) => r = cp_swarL x) (cp_at D [] (va_A [] sz) (fun _ => [])) (va_A [] sz)) 0 0 (va_A [] sz) := by
  intro D
  refine cp_MetI (Qk := fun A => va_Qi (fun (r : Int32) (u1 : cp_M) => r = cp_swarL x) (cp_at D [] A (fun _ => [])) A) (by decide) rfl (Nat.le_of_ble_eq_true rfl) ?_
  intro p e s m args below meth c A hC hA hK hI ls hl
  obtain ⟨hx, hb, hml, hown, hts, hr, hlocks⟩ := hC
  have hown : s.vm.findClass RJ13 = some m.cls := hown
  have hl : lv_has ls 2 [(0, .long x)] := hl
  refine lv_lload_n hx hb dJ13_bitCount_95d88_0 rfl (lv_at hl 0 rfl) ?_
  refine lv_lload_n hx hb dJ13_bitCount_95d88_1 rfl (lv_at hl 0 rfl) ?_
  refine lv_iconst (v := 1) hx hb dJ13_bitCount_95d88_2 (by decide) ?_
  refine lv_lushr (v := (x.toUInt64 >>> ((1 : Int32).toInt64.toUInt64 &&& Int64.toUInt64 63)).toInt64) hx hb dJ13_bitCount_95d88_3 rfl ?_
  refine lv_ldc2 (v := 6148914691236517205) hx hb hown (hts _ (by decide +kernel)) dJ13_bitCount_95d88_4 ?_
  refine lv_land hx hb dJ13_bitCount_95d88_7 ?_
  refine lv_lsub hx hb dJ13_bitCount_95d88_8 ?_
  refine lv_topl (fun x9 ex9 => ?_)
  refine lv_lstore_n (lv' := [(0, .long x9)]) hx hb dJ13_bitCount_95d88_9 rfl hl (by decide) rfl (fun ls hl => ?_)
  refine lv_lload_n hx hb dJ13_bitCount_95d88_10 rfl (lv_at hl 0 rfl) ?_
  refine lv_ldc2 (v := 3689348814741910323) hx hb hown (hts _ (by decide +kernel)) dJ13_bitCount_95d88_11 ?_
  refine lv_land hx hb dJ13_bitCount_95d88_14 ?_
  refine lv_lload_n hx hb dJ13_bitCount_95d88_15 rfl (lv_at hl 0 rfl) ?_
  refine lv_iconst (v := 2) hx hb dJ13_bitCount_95d88_16 (by decide) ?_
  refine lv_lushr (v := (x9.toUInt64 >>> ((2 : Int32).toInt64.toUInt64 &&& Int64.toUInt64 63)).toInt64) hx hb dJ13_bitCount_95d88_17 rfl ?_
  refine lv_ldc2 (v := 3689348814741910323) hx hb hown (hts _ (by decide +kernel)) dJ13_bitCount_95d88_18 ?_
  refine lv_land hx hb dJ13_bitCount_95d88_21 ?_
  refine lv_ladd hx hb dJ13_bitCount_95d88_22 ?_
  refine lv_topl (fun x23 ex23 => ?_)
  refine lv_lstore_n (lv' := [(0, .long x23)]) hx hb dJ13_bitCount_95d88_23 rfl hl (by decide) rfl (fun ls hl => ?_)
  refine lv_lload_n hx hb dJ13_bitCount_95d88_24 rfl (lv_at hl 0 rfl) ?_
  refine lv_lload_n hx hb dJ13_bitCount_95d88_25 rfl (lv_at hl 0 rfl) ?_
  refine lv_iconst (v := 4) hx hb dJ13_bitCount_95d88_26 (by decide) ?_
  refine lv_lushr (v := (x23.toUInt64 >>> ((4 : Int32).toInt64.toUInt64 &&& Int64.toUInt64 63)).toInt64) hx hb dJ13_bitCount_95d88_27 rfl ?_
  refine lv_ladd hx hb dJ13_bitCount_95d88_28 ?_
  refine lv_ldc2 (v := 1085102592571150095) hx hb hown (hts _ (by decide +kernel)) dJ13_bitCount_95d88_29 ?_
  refine lv_land hx hb dJ13_bitCount_95d88_32 ?_
  refine lv_topl (fun x33 ex33 => ?_)
  refine lv_lstore_n (lv' := [(0, .long x33)]) hx hb dJ13_bitCount_95d88_33 rfl hl (by decide) rfl (fun ls hl => ?_)
  refine lv_lload_n hx hb dJ13_bitCount_95d88_34 rfl (lv_at hl 0 rfl) ?_
  refine lv_lload_n hx hb dJ13_bitCount_95d88_35 rfl (lv_at hl 0 rfl) ?_
  refine lv_bipush (v := 8) hx hb dJ13_bitCount_95d88_36 (by decide) ?_
  refine lv_lushr (v := (x33.toUInt64 >>> ((8 : Int32).toInt64.toUInt64 &&& Int64.toUInt64 63)).toInt64) hx hb dJ13_bitCount_95d88_38 rfl ?_
  refine lv_ladd hx hb dJ13_bitCount_95d88_39 ?_
  refine lv_topl (fun x40 ex40 => ?_)
  refine lv_lstore_n (lv' := [(0, .long x40)]) hx hb dJ13_bitCount_95d88_40 rfl hl (by decide) rfl (fun ls hl => ?_)
  refine lv_lload_n hx hb dJ13_bitCount_95d88_41 rfl (lv_at hl 0 rfl) ?_
  refine lv_lload_n hx hb dJ13_bitCount_95d88_42 rfl (lv_at hl 0 rfl) ?_
  refine lv_bipush (v := 16) hx hb dJ13_bitCount_95d88_43 (by decide) ?_
  refine lv_lushr (v := (x40.toUInt64 >>> ((16 : Int32).toInt64.toUInt64 &&& Int64.toUInt64 63)).toInt64) hx hb dJ13_bitCount_95d88_45 rfl ?_
  refine lv_ladd hx hb dJ13_bitCount_95d88_46 ?_
  refine lv_topl (fun x47 ex47 => ?_)
  refine lv_lstore_n (lv' := [(0, .long x47)]) hx hb dJ13_bitCount_95d88_47 rfl hl (by decide) rfl (fun ls hl => ?_)
  refine lv_lload_n hx hb dJ13_bitCount_95d88_48 rfl (lv_at hl 0 rfl) ?_
  refine lv_lload_n hx hb dJ13_bitCount_95d88_49 rfl (lv_at hl 0 rfl) ?_
  refine lv_bipush (v := 32) hx hb dJ13_bitCount_95d88_50 (by decide) ?_
  refine lv_lushr (v := (x47.toUInt64 >>> ((32 : Int32).toInt64.toUInt64 &&& Int64.toUInt64 63)).toInt64) hx hb dJ13_bitCount_95d88_52 rfl ?_
  refine lv_ladd hx hb dJ13_bitCount_95d88_53 ?_
  refine lv_topl (fun x54 ex54 => ?_)
  refine lv_lstore_n (lv' := [(0, .long x54)]) hx hb dJ13_bitCount_95d88_54 rfl hl (by decide) rfl (fun ls hl => ?_)
  refine lv_lload_n hx hb dJ13_bitCount_95d88_55 rfl (lv_at hl 0 rfl) ?_
  refine lv_l2i (v := x54.toInt32) hx hb dJ13_bitCount_95d88_56 rfl ?_
  refine lv_bipush (v := 127) hx hb dJ13_bitCount_95d88_57 (by decide) ?_
  refine lv_iand hx hb dJ13_bitCount_95d88_59 ?_
  exact cp_reti (u := (fun _ _ => 0)) (v := (x54.toInt32 &&& 127)) hx hb hr hlocks hK hI (by subst ex54; subst ex47; subst ex40; subst ex33; subst ex23; subst ex9; rfl) dJ13_bitCount_95d88_60
set_option maxHeartbeats 4000000 in
set_option maxRecDepth 100000 in
theorem c_X0_lastLineOfFullPage (l : Launch)  (st : Nat) (re : Int32) (hst9 : st ≤ 64) : ∀ (D : va_G) (sz : Nat), Met l yX0_lastLineOfFullPage wsX0_lastLineOfFullPage ({ frames := 1, cells := 0, slots := 0, locals := 22 } : Room) (va_Pc [.int (nI st), .int re] (cp_pre D [] [] sz)) (va_Qi (fun (r : Int32) (u1 : cp_M) => r = nI (cp_ll (cp_q re) st 8)) (cp_at D [] (va_A [] sz) (fun _ => [])) (va_A [] sz)) 0 0 (va_A [] sz) := by
  intro D
  refine cp_MetI (Qk := fun A => va_Qi (fun (r : Int32) (u1 : cp_M) => r = nI (cp_ll (cp_q re) st 8)) (cp_at D [] A (fun _ => [])) A) (by decide) rfl (Nat.le_of_ble_eq_true rfl) ?_
  intro p e s m args below meth c A hC hA hK hI ls hl
  obtain ⟨hx, hb, hml, hown, hts, hr, hlocks⟩ := hC
  have hown : s.vm.findClass RX0 = some m.cls := hown
  have hl : lv_has ls 4 [(0, .int (nI st)), (1, .int re)] := hl
  refine lv_iload_n hx hb dX0_lastLineOfFullPage_0 rfl (lv_at hl 0 rfl) ?_
  refine lv_bipush (v := 8) hx hb dX0_lastLineOfFullPage_1 (by decide) ?_
  refine lv_iadd hx hb dX0_lastLineOfFullPage_3 ?_
  refine lv_iconst (v := 1) hx hb dX0_lastLineOfFullPage_4 (by decide) ?_
  refine lv_isub hx hb dX0_lastLineOfFullPage_5 ?_
  refine lv_topi (fun x6 ex6 => ?_)
  refine lv_istore_n (lv' := [(2, .int x6), (0, .int (nI st)), (1, .int re)]) hx hb dX0_lastLineOfFullPage_6 rfl hl (by decide) rfl (fun ls hl => ?_)
  refine lv_iload_n hx hb dX0_lastLineOfFullPage_7 rfl (lv_at hl 0 rfl) ?_
  refine lv_istore_n (lv' := [(3, .int x6), (2, .int x6), (0, .int (nI st)), (1, .int re)]) hx hb dX0_lastLineOfFullPage_8 rfl hl (by decide) rfl (fun ls hl => ?_)
  have L9 : ∀ (n9 : Nat) (i : Nat) (hm9 : i < n9) (hi : i ≤ 8) (hi2 : cp_ll (cp_q re) st 8 = cp_ll (cp_q re) st i), ∀ (H : Heap) (locs : List Loc), cp_I D ([]) A s.heap H locs → ∀ ls, lv_has ls 4 [(3, .int (nI (st + i) - 1)), (2, .int (nI st + 8 - 1)), (0, .int (nI st)), (1, .int re)] → W p l e ({ frames := 1, cells := 0, slots := 0, locals := 22 } : Room) s m args below meth c H locs 0 0 (MQ below (va_Qi (fun (r : Int32) (u1 : cp_M) => r = nI (cp_ll (cp_q re) st 8)) (cp_at D [] A (fun _ => [])) A) args s 0 0 A) (F0 m 9 ls []) := by
    intro n9
    induction n9 with
    | zero => intro i hm9; omega
    | succ n9 ih =>
      intro i hm9 hi hi2 H locs hI ls hl
      refine lv_iload_n hx hb dX0_lastLineOfFullPage_9 rfl (lv_at hl 0 rfl) ?_
      refine lv_iload_n hx hb dX0_lastLineOfFullPage_10 rfl (lv_at hl 2 rfl) ?_
      refine lv_icmp_lt (tgt := 31) hx hb dX0_lastLineOfFullPage_11 (by decide) (fun c11 => ?_) (fun c11 => ?_)
      · have h0 : i = 0 := cp_ll_end hst9 hi c11
        refine lv_iload_n hx hb dX0_lastLineOfFullPage_31 rfl (lv_at hl 1 rfl) ?_
        exact cp_reti (u := (fun _ _ => 0)) (v := (nI st + 8 - 1)) hx hb hr hlocks hK hI (by rw [hi2, h0, show nI st + 8 - 1 = nI (st + 7) from by rw [show nI st + 8 = nI (st + 7 + 1) from nI_add st 8, nI_pred]]; rfl) dX0_lastLineOfFullPage_32
      · obtain ⟨i, rfl⟩ : ∃ j, i = j + 1 := cp_ll_go hst9 hi c11
        refine lv_iload_n hx hb dX0_lastLineOfFullPage_14 rfl (lv_at hl 0 rfl) ?_
        refine lv_iload_n hx hb dX0_lastLineOfFullPage_15 rfl (lv_at hl 3 rfl) ?_
        refine lv_i2l (v := re.toInt64) hx hb dX0_lastLineOfFullPage_16 rfl ?_
        refine cp_cSi0 (As := [.int (nI (st + (i + 1)) - 1), .long re.toInt64]) (rest := []) ⟨hx, hb, hml, hown, hts⟩ ((c_X0_isInSet l (nI (st + (i + 1)) - 1) re.toInt64) D) (va_cwS 2 hts gX0_lastLineOfFullPage_X0_isInSet rfl rfl rfl (by decide +kernel) ⟨Nat.le_of_ble_eq_true rfl, Nat.le_of_ble_eq_true rfl⟩) hK hI hA rfl hl.1 rfl (Nat.le_of_ble_eq_true rfl) dX0_lastLineOfFullPage_17 ⟨Nat.le_of_ble_eq_true rfl, Nat.le_of_ble_eq_true rfl⟩ (fun r17 u17 H locs hp17 hI => ?_)
        obtain rfl := hp17
        refine lv_if_eq (tgt := 25) hx hb dX0_lastLineOfFullPage_20 (by decide) (fun c20 => ?_) (fun c20 => ?_)
        · have c20 := cp_b0.mp c20
          obtain ⟨x25, ex25⟩ : ∃ y9 : Int32, y9 = (nI (st + (i + 1)) - 1) + (-1) := ⟨_, rfl⟩
          refine lv_iinc (v := x25) (lv' := [(3, .int x25), (2, .int (nI st + 8 - 1)), (0, .int (nI st)), (1, .int re)]) hx hb dX0_lastLineOfFullPage_25 hl (k := 0) rfl (by rw [ex25]; rfl) (by decide) rfl (fun ls hl => ?_)
          refine lv_goto (tgt := 9) hx hb dX0_lastLineOfFullPage_28 (by decide) ?_
          obtain rfl : x25 = nI (st + i) - 1 := by rw [ex25, show nI (st + (i + 1)) - 1 = nI (st + i) from nI_pred (st + i)]; exact cp_sub1 _
          have h9 : ¬ cp_q re (st + i) := fun h => c20 (by rw [show nI (st + (i + 1)) - 1 = nI (st + i) from nI_pred (st + i)]; exact h)
          exact ih i (by omega) (by omega) (hi2.trans (cp_ll_f h9)) _ _ hI ls (lv_sub hl [0, 1, 2, 3] rfl)
        · have c20 := Classical.not_not.mp (fun h9 => c20 (cp_b0.mpr h9))
          refine lv_iload_n hx hb dX0_lastLineOfFullPage_23 rfl (lv_at hl 0 rfl) ?_
          rw [show nI (st + (i + 1)) - 1 = nI (st + i) from nI_pred (st + i)] at c20
          exact cp_reti (u := (fun _ _ => 0)) (v := (nI (st + (i + 1)) - 1)) hx hb hr hlocks hK hI (by rw [hi2, cp_ll_t c20]; exact nI_pred (st + i)) dX0_lastLineOfFullPage_24
  obtain rfl : x6 = nI st + 8 - 1 := ex6
  have hl : lv_has ls 4 [(3, .int (nI (st + 8) - 1)), (2, .int (nI st + 8 - 1)), (0, .int (nI st)), (1, .int re)] := by rw [show nI (st + 8) = nI st + 8 from (nI_add st 8).symm]; exact hl
  exact L9 (8 + 1) 8 (Nat.lt_succ_self _) (Nat.le_refl _) rfl _ _ hI ls (lv_sub hl [0, 1, 2, 3] rfl)
set_option maxHeartbeats 4000000 in
set_option maxRecDepth 100000 in
theorem c_X0_turns (l : Launch)  (L : Nat) (re : Int32) (hL9 : L ≤ 30) : ∀ (D : va_G) (sz : Nat), Met l yX0_turns wsX0_turns ({ frames := 2, cells := 0, slots := 0, locals := 45 } : Room) (va_Pc [.int (nI L), .int re] (cp_pre D [] [] sz)) (va_Qi (fun (r : Int32) (u1 : cp_M) => r = cp_tn (cp_q re) L L 0 0) (cp_at D [] (va_A [] sz) (fun _ => [])) (va_A [] sz)) 0 0 (va_A [] sz) := by
  intro D
  refine cp_MetI (Qk := fun A => va_Qi (fun (r : Int32) (u1 : cp_M) => r = cp_tn (cp_q re) L L 0 0) (cp_at D [] A (fun _ => [])) A) (by decide) rfl (Nat.le_of_ble_eq_true rfl) ?_
  intro p e s m args below meth c A hC hA hK hI ls hl
  obtain ⟨hx, hb, hml, hown, hts, hr, hlocks⟩ := hC
  have hown : s.vm.findClass RX0 = some m.cls := hown
  have hl : lv_has ls 6 [(0, .int (nI L)), (1, .int re)] := hl
  refine lv_iconst (v := 0) hx hb dX0_turns_0 (by decide) ?_
  refine lv_istore_n (lv' := [(2, .int 0), (0, .int (nI L)), (1, .int re)]) hx hb dX0_turns_1 rfl hl (by decide) rfl (fun ls hl => ?_)
  refine lv_iconst (v := 0) hx hb dX0_turns_2 (by decide) ?_
  refine lv_istore_n (lv' := [(3, .int 0), (2, .int 0), (0, .int (nI L)), (1, .int re)]) hx hb dX0_turns_3 rfl hl (by decide) rfl (fun ls hl => ?_)
  refine lv_iconst (v := 0) hx hb dX0_turns_4 (by decide) ?_
  refine lv_istore (lv' := [(4, .int 0), (3, .int 0), (2, .int 0), (0, .int (nI L)), (1, .int re)]) hx hb dX0_turns_5 hl (by decide) rfl (fun ls hl => ?_)
  have L7 : ∀ (n9 : Nat) (n : Nat) (st : Nat) (acc : Int32) (hm9 : L - n < n9) (hn : n ≤ L) (hs : st ≤ L) (hi2 : cp_tn (cp_q re) L L 0 0 = cp_tn (cp_q re) L (L - n) st acc), ∀ (H : Heap) (locs : List Loc), cp_I D ([]) A s.heap H locs → ∀ ls, lv_has ls 6 [(4, .int (nI n)), (3, .int (nI st)), (2, .int acc), (0, .int (nI L)), (1, .int re)] → W p l e ({ frames := 2, cells := 0, slots := 0, locals := 45 } : Room) s m args below meth c H locs 0 0 (MQ below (va_Qi (fun (r : Int32) (u1 : cp_M) => r = cp_tn (cp_q re) L L 0 0) (cp_at D [] A (fun _ => [])) A) args s 0 0 A) (F0 m 7 ls []) := by
    intro n9
    induction n9 with
    | zero => intro n st acc hm9; omega
    | succ n9 ih =>
      intro n st acc hm9 hn hs hi2 H locs hI ls hl
      refine lv_iload hx hb dX0_turns_7 (lv_at hl 0 rfl) ?_
      refine lv_iload_n hx hb dX0_turns_9 rfl (lv_at hl 3 rfl) ?_
      refine lv_icmp_ge (tgt := 46) hx hb dX0_turns_10 (by decide) (fun c10 => ?_) (fun c10 => ?_)
      · have h0 : L - n = 0 := by rw [nI_leI (by omega) (by omega)] at c10; omega
        refine lv_iload_n hx hb dX0_turns_46 rfl (lv_at hl 2 rfl) ?_
        exact cp_reti (u := (fun _ _ => 0)) (v := acc) hx hb hr hlocks hK hI (by first | (rw [hi2, h0]; rfl) | (rw [hi2, show L - n = (L - (n + 1)) + 1 from by omega]; exact (if_neg h8).symm)) dX0_turns_47
      · refine lv_iload_n hx hb dX0_turns_13 rfl (lv_at hl 3 rfl) ?_
        refine lv_iload_n hx hb dX0_turns_14 rfl (lv_at hl 1 rfl) ?_
        refine lv_isub hx hb dX0_turns_15 ?_
        refine lv_bipush (v := 8) hx hb dX0_turns_16 (by decide) ?_
        refine lv_icmp_le (tgt := 46) hx hb dX0_turns_18 (by decide) (fun c18 => ?_) (fun c18 => ?_)
        · have h8 : ¬ st + 8 < L := by rw [pk_sub hs, show (8 : Int32) = nI 8 from rfl, nI_leI (by omega) (by omega)] at c18; omega
          have h9 : n < L := by rw [nI_leI (by omega) (by omega)] at c10; omega
          refine lv_iload_n hx hb dX0_turns_46 rfl (lv_at hl 2 rfl) ?_
          exact cp_reti (u := (fun _ _ => 0)) (v := acc) hx hb hr hlocks hK hI (by first | (rw [hi2, h0]; rfl) | (rw [hi2, show L - n = (L - (n + 1)) + 1 from by omega]; exact (if_neg h8).symm)) dX0_turns_47
        · have h8 : st + 8 < L := by rw [pk_sub hs, show (8 : Int32) = nI 8 from rfl, nI_leI (by omega) (by omega)] at c18; omega
          have h9 : n < L := by rw [nI_leI (by omega) (by omega)] at c10; omega
          refine lv_iload_n hx hb dX0_turns_21 rfl (lv_at hl 1 rfl) ?_
          refine lv_iload_n hx hb dX0_turns_22 rfl (lv_at hl 4 rfl) ?_
          refine cp_cSi0 (As := [.int (nI st), .int re]) (rest := []) ⟨hx, hb, hml, hown, hts⟩ ((c_X0_lastLineOfFullPage l st re (by omega)) D) (va_cwS 2 hts gX0_turns_X0_lastLineOfFullPage rfl rfl rfl (by decide +kernel) ⟨Nat.le_of_ble_eq_true rfl, Nat.le_of_ble_eq_true rfl⟩) hK hI hA rfl hl.1 rfl (Nat.le_of_ble_eq_true rfl) dX0_turns_23 ⟨Nat.le_of_ble_eq_true rfl, Nat.le_of_ble_eq_true rfl⟩ (fun r23 u23 H locs hp23 hI => ?_)
          obtain rfl := hp23
          refine lv_topi (fun x26 ex26 => ?_)
          refine lv_istore (lv' := [(5, .int x26), (4, .int (nI n)), (3, .int (nI st)), (2, .int acc), (0, .int (nI L)), (1, .int re)]) hx hb dX0_turns_26 hl (by decide) rfl (fun ls hl => ?_)
          obtain rfl := ex26
          refine lv_iload_n hx hb dX0_turns_28 rfl (lv_at hl 3 rfl) ?_
          refine lv_iconst (v := 1) hx hb dX0_turns_29 (by decide) ?_
          refine lv_iload hx hb dX0_turns_30 (lv_at hl 0 rfl) ?_
          refine lv_ishl hx hb dX0_turns_32 ?_
          refine lv_ior hx hb dX0_turns_33 ?_
          refine lv_topi (fun x34 ex34 => ?_)
          refine lv_istore_n (lv' := [(2, .int x34), (5, .int (nI (cp_ll (cp_q re) st 8))), (4, .int (nI n)), (3, .int (nI st)), (0, .int (nI L)), (1, .int re)]) hx hb dX0_turns_34 rfl hl (by decide) rfl (fun ls hl => ?_)
          refine lv_iload hx hb dX0_turns_35 (lv_at hl 1 rfl) ?_
          refine lv_iconst (v := 1) hx hb dX0_turns_37 (by decide) ?_
          refine lv_iadd hx hb dX0_turns_38 ?_
          refine lv_topi (fun x39 ex39 => ?_)
          refine lv_istore_n (lv' := [(3, .int x39), (2, .int x34), (5, .int (nI (cp_ll (cp_q re) st 8))), (4, .int (nI n)), (0, .int (nI L)), (1, .int re)]) hx hb dX0_turns_39 rfl hl (by decide) rfl (fun ls hl => ?_)
          obtain ⟨x40, ex40⟩ : ∃ y9 : Int32, y9 = (nI n) + 1 := ⟨_, rfl⟩
          refine lv_iinc (v := x40) (lv' := [(4, .int x40), (3, .int x39), (2, .int x34), (5, .int (nI (cp_ll (cp_q re) st 8))), (0, .int (nI L)), (1, .int re)]) hx hb dX0_turns_40 hl (k := 3) rfl (by rw [ex40]; rfl) (by decide) rfl (fun ls hl => ?_)
          refine lv_goto (tgt := 7) hx hb dX0_turns_43 (by decide) ?_
          obtain rfl : x40 = nI (n + 1) := by rw [ex40]; exact nI_1 n
          obtain rfl : x39 = nI (cp_ll (cp_q re) st 8 + 1) := by rw [ex39]; exact nI_1 _
          exact ih (n + 1) (cp_ll (cp_q re) st 8 + 1) x34 (by omega) (by omega) (by have := cp_ll_b (cp_q re) st 8 (by omega); omega) (by rw [hi2, show L - n = (L - (n + 1)) + 1 from by omega, ex34]; show (if st + 8 < L then _ else _) = _; rw [if_pos h8]) _ _ hI ls (lv_sub hl [0, 1, 2, 4, 5] rfl)
  exact L7 (L + 1) 0 0 0 (Nat.lt_succ_self _) (Nat.zero_le _) (Nat.zero_le _) rfl _ _ hI ls (lv_sub hl [0, 1, 2, 3, 4] rfl)
