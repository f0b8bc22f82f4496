/-! The law: its loop over the script, its start. -/
theorem lw_lt {i L : Nat} (hL : L ≤ 2560) (hi : i ≤ L) (c : ¬ Int32.ofNat L - 5 < nI i) : i + 4 < L := by
  rcases Nat.lt_or_ge L 5 with q | q
  · exfalso
    have h1 : ∀ k, k < 5 → (nI k - 5).toInt < 0 := by decide +kernel
    have h2 := h1 L q
    apply c
    rw [Int32.lt_iff_toInt_lt, nI_toInt (by omega)]
    show (nI L - 5).toInt < (i : Int)
    omega
  · have e0 : nI L = nI (L - 5) + 5 := by
      show nI L = nI (L - 5) + nI 5
      rw [nI_add, Nat.sub_add_cancel q]
    have e : Int32.ofNat L - 5 = nI (L - 5) := by
      show nI L - 5 = _
      rw [e0, Int32.add_sub_cancel]
    rw [e, nI_ltI (by omega) (by omega)] at c
    omega
set_option maxHeartbeats 4000000 in
set_option maxRecDepth 100000 in
theorem law_loop {p : Program} {l : Launch} {e : Env} {s : State} {m : MethodId} {below : List Frame} {meth : Method} {c : Code} {b L : Nat} {xs : Nat → Int32} {D : va_G} {cI cJ cZ : ClassId} {h o h2 : Nat} {a a2 : Nat → Nat}
    (hst : l.stackTraces = false) (hL : L ≤ 2560) (C0 : lw_At p s m meth c b L xs) (hT : lw_T s D cI cJ cZ) :
    ∀ (n i : Nat) (u v : cp_M) (f9 : Nat → Int64) (H : Heap) (locs : List Loc) (cells slots : Nat) (ls : Array Slot), i ≤ L → L + 1 ≤ i + n → 5 * cells ≤ 155 + i → 5 * slots ≤ 4650 + 6 * i → lw_S s D cI cJ cZ h o h2 a a2 u v f9 H locs → lv_has ls 7 [(0, .ref b), (1, .ref h), (2, .ref h2), (3, .ref o), (4, .int (nI i))] → W p l e room_1 s m #[Value.ref b] below meth c H locs cells slots (lw_Z below #[Value.ref b] s) (F0 m 23 ls []) := by
  obtain ⟨hx, hb, hr, hml, hown, hts, hX, hbl, hlocks, hgv⟩ := id C0
  have hbA : ¬ (fun q : Nat => s.heap.size ≤ q) b := Nat.not_le.mpr hbl
  intro n
  induction n with
  | zero =>
    intro i u v f9 H locs cells slots ls h1 h2
    exact absurd h2 (by omega)
  | succ n ih =>
    intro i u v f9 H locs cells slots ls hi hin hc hs hS hl
    have hSS := hS.2.2.2.2
    refine lv_iload hx hb dL_law_23 (lv_at hl 4 rfl) ?_
    refine lv_aload_n hx hb dL_law_25 rfl (lv_at hl 0 rfl) ?_
    refine va_slen hx hb hX hbl hbA hSS dL_law_26 ?_
    refine lv_iconst (v := 5) hx hb dL_law_27 (by decide) ?_
    refine lv_isub hx hb dL_law_28 ?_
    refine lv_icmp_gt (tgt := 1258) hx hb dL_law_29 (by decide) (fun _ => ?_) (fun c1 => ?_)
    · refine lv_iconst (v := 1) hx hb dL_law_1258 (by decide) ?_
      refine va_forget (fun q hq => hSS.2.2 q hq) ?_
      refine W.widen (k := 1058) (n := 9140) (by omega) (by omega) ?_
      exact lw_ret hx hb hr hlocks dL_law_1259
    · have hlt := lw_lt hL hi c1
      have hf : cells + 1 ≤ 1058 ∧ slots + 6 ≤ 9140 := ⟨by omega, by omega⟩
      have kk : ∀ (u1 v1 : cp_M) (f1 : Nat → Int64) (H1 : Heap) (locs1 : List Loc) (ls1 : Array Slot), lw_S s D cI cJ cZ h o h2 a a2 u1 v1 f1 H1 locs1 → lv_has ls1 7 [(0, .ref b), (1, .ref h), (2, .ref h2), (3, .ref o), (4, .int (nI i))] → W p l e room_1 s m #[Value.ref b] below meth c H1 locs1 (cells + 1) (slots + 6) (lw_Z below #[Value.ref b] s) (F0 m 1252 ls1 []) := fun u1 v1 f1 H1 locs1 ls1 hS1 hl1 => by
        refine lv_iinc (v := nI (i + 5)) (lv' := [(4, .int (nI (i + 5))), (0, .ref b), (1, .ref h), (2, .ref h2), (3, .ref o)]) hx hb dL_law_1252 hl1 (k := 4) rfl (nI_add i 5) (by decide) rfl (fun ls hl => ?_)
        refine lv_goto (tgt := 23) hx hb dL_law_1255 (by decide) ?_
        exact ih (i + 5) u1 v1 f1 H1 locs1 (cells + 1) (slots + 6) ls (by omega) (by omega) (by omega) (by omega) hS1 (lv_sub hl [1, 2, 3, 4, 0] rfl)
      have h_in : vp_in (nI i) L := vp_in_nI (by omega) (by omega)
      refine lv_aload_n hx hb dL_law_32 rfl (lv_at hl 0 rfl) ?_
      refine lv_iload hx hb dL_law_33 (lv_at hl 4 rfl) ?_
      refine va_sld hx hb hX hbl hbA hSS h_in dL_law_35 ?_
      refine lv_bipush (v := 31) hx hb dL_law_36 (by decide) ?_
      refine lv_iand hx hb dL_law_38 ?_
      obtain ⟨j, hj, ej⟩ := pk_andE (xs (nI i).toNatClampNeg) (m := 31) 5 (by decide)
      rw [ej]
      rcases Nat.lt_or_ge j 18 with q | q
      · rcases (show j = 0 ∨ j = 1 ∨ j = 2 ∨ j = 3 ∨ j = 4 ∨ j = 5 ∨ j = 6 ∨ j = 7 ∨ j = 8 ∨ j = 9 ∨ j = 10 ∨ j = 11 ∨ j = 12 ∨ j = 13 ∨ j = 14 ∨ j = 15 ∨ j = 16 ∨ j = 17 by omega) with rfl | rfl | rfl | rfl | rfl | rfl | rfl | rfl | rfl | rfl | rfl | rfl | rfl | rfl | rfl | rfl | rfl | rfl
        · exact lv_tableIn (off := 85) (tgt := 124) hx hb dL_law_39 (by decide +kernel) (by decide +kernel) (by decide +kernel) (by decide) (lo_hymn hst hL C0 hT hS hlt hl hf kk)
        · exact lv_tableIn (off := 177) (tgt := 216) hx hb dL_law_39 (by decide +kernel) (by decide +kernel) (by decide +kernel) (by decide) (lo_hymns hst hL C0 hT hS hlt hl hf kk)
        · exact lv_tableIn (off := 190) (tgt := 229) hx hb dL_law_39 (by decide +kernel) (by decide +kernel) (by decide +kernel) (by decide) (lo_pages hst hL C0 hT hS hlt hl hf kk)
        · exact lv_tableIn (off := 246) (tgt := 285) hx hb dL_law_39 (by decide +kernel) (by decide +kernel) (by decide +kernel) (by decide) (lo_pageOf hst hL C0 hT hS hlt hl hf kk)
        · exact lv_tableIn (off := 314) (tgt := 353) hx hb dL_law_39 (by decide +kernel) (by decide +kernel) (by decide +kernel) (by decide) (lo_badTurns hst hL C0 hT hS hlt hl hf kk)
        · exact lv_tableIn (off := 370) (tgt := 409) hx hb dL_law_39 (by decide +kernel) (by decide +kernel) (by decide +kernel) (by decide) (lo_right hst hL C0 hT hS hlt hl hf kk)
        · exact lv_tableIn (off := 462) (tgt := 501) hx hb dL_law_39 (by decide +kernel) (by decide +kernel) (by decide +kernel) (by decide) (lo_end hst hL C0 hT hS hlt hl hf kk)
        · exact lv_tableIn (off := 530) (tgt := 569) hx hb dL_law_39 (by decide +kernel) (by decide +kernel) (by decide +kernel) (by decide) (lo_hasRight hst hL C0 hT hS hlt hl hf kk)
        · exact lv_tableIn (off := 617) (tgt := 656) hx hb dL_law_39 (by decide +kernel) (by decide +kernel) (by decide +kernel) (by decide) (lo_print hst hL C0 hT hS hlt hl hf kk)
        · exact lv_tableIn (off := 685) (tgt := 724) hx hb dL_law_39 (by decide +kernel) (by decide +kernel) (by decide +kernel) (by decide) (lo_printed hst hL C0 hT hS hlt hl hf kk)
        · exact lv_tableIn (off := 753) (tgt := 792) hx hb dL_law_39 (by decide +kernel) (by decide +kernel) (by decide +kernel) (by decide) (lo_learn hst hL C0 hT hS hlt hl hf kk)
        · exact lv_tableIn (off := 828) (tgt := 867) hx hb dL_law_39 (by decide +kernel) (by decide +kernel) (by decide +kernel) (by decide) (lo_service hst hL C0 hT hS hlt hl hf kk)
        · exact lv_tableIn (off := 896) (tgt := 935) hx hb dL_law_39 (by decide +kernel) (by decide +kernel) (by decide +kernel) (by decide) (lo_plan hst hL C0 hT hS hlt hl hf kk)
        · exact lv_tableIn (off := 952) (tgt := 991) hx hb dL_law_39 (by decide +kernel) (by decide +kernel) (by decide +kernel) (by decide) (lo_hymnOf hst hL C0 hT hS hlt hl hf kk)
        · exact lv_tableIn (off := 1008) (tgt := 1047) hx hb dL_law_39 (by decide +kernel) (by decide +kernel) (by decide +kernel) (by decide) (lo_silent hst hL C0 hT hS hlt hl hf kk)
        · exact lv_tableIn (off := 1021) (tgt := 1060) hx hb dL_law_39 (by decide +kernel) (by decide +kernel) (by decide +kernel) (by decide) (lo_sung hst hL C0 hT hS hlt hl hf kk)
        · exact lv_tableIn (off := 1089) (tgt := 1128) hx hb dL_law_39 (by decide +kernel) (by decide +kernel) (by decide +kernel) (by decide) (lo_sungByHymns hst hL C0 hT hS hlt hl hf kk)
        · exact lv_tableIn (off := 1157) (tgt := 1196) hx hb dL_law_39 (by decide +kernel) (by decide +kernel) (by decide +kernel) (by decide) (lo_pass hst hL C0 hT hS hlt hl hf kk)
      · refine lv_tableOut (tgt := 1252) hx hb dL_law_39 (Or.inr (by rw [nI_toInt (by omega)]; omega)) (by decide) ?_
        exact W.widen (k := cells + 1) (n := slots + 6) (by omega) (by omega) (kk u v f9 H locs ls hS hl)
def cp_0 : cp_M := fun _ _ => 0
theorem cp_mkz : cp_0 = cp_mk cp_0 (fun _ => 0) (fun _ => 0) 0 := by
  funext a i
  unfold cp_mk cp_thw cp_up cp_0 upd
  by_cases h4 : a = 4
  · rw [if_pos h4]
  · rw [if_neg h4]
    by_cases h5 : a = 5
    · rw [if_pos h5]
    · rw [if_neg h5]
      by_cases h14 : a = 14
      · rw [if_pos h14]
        show (0 : Int32) = if i = 4 then 0 else 0
        rw [ite_self]
      · rw [if_neg h14]
theorem cp_bt0 : ∀ n, n < 32 → bt 0 n = false := by decide +kernel
theorem cp_R0 : cp_R cp_0 cp_0 := ⟨fun _ => 0, fun _ => 0, 0, cp_mkz, fun g hg c hc => by
  show cp_inS (nI c) (0 : Int32).toInt64 ↔ cp_bit 0 (nI g)
  rw [cp_inS_n (by omega), cp_bit_n (by omega), cp_bt0 c (by omega), cp_bt0 g (by omega)]⟩
theorem cp_n0 (i : Nat) : cp_n cp_0 i = 0 := by
  show (0 : Int32).toNatClampNeg = 0
  decide
theorem cp_V0 : cp_V cp_0 := ⟨cp_cn_of nI_0.symm (Nat.zero_le _) (by decide), cp_cn_of nI_0.symm (Nat.zero_le _) (by decide), cp_cn_of nI_0.symm (Nat.zero_le _) (by decide), ⟨by rw [cp_n0]; exact nI_0.symm, by rw [cp_n0]; exact Nat.zero_le _⟩, fun g hg => absurd hg (by rw [cp_n0]; exact Nat.not_lt_zero g), fun k hk => absurd hk (by rw [cp_n0]; exact Nat.not_lt_zero k)⟩
theorem lw_w1 : (Cond.laysStatic Bundle.tN "UNASSIGNED_STACK" Bundle.steD) ∈ lw_tbl := by decide +kernel
theorem lw_w2 : (Cond.laysStatic Bundle.tN "SUPPRESSED_SENTINEL" Bundle.listD) ∈ lw_tbl := by decide +kernel
theorem lw_w3 : (Cond.initialized Bundle.tN) ∈ lw_tbl := by decide +kernel
theorem lw_w4 : (Cond.castable R_iob R_iob) ∈ lw_tbl := by decide +kernel
theorem lw_w5 : (Cond.castable R_iae R_iae) ∈ lw_tbl := by decide +kernel
theorem lw_w6 : (Cond.castable R_ise R_ise) ∈ lw_tbl := by decide +kernel
theorem lw_w7 : (Cond.declares (Bundle.init0 "java/lang/RuntimeException")) ∈ lw_tbl := by decide +kernel
theorem lw_w8 : (Cond.declares (Bundle.init0 "java/lang/Exception")) ∈ lw_tbl := by decide +kernel
theorem lw_w9 : (Cond.declares (Bundle.init0 Bundle.tN)) ∈ lw_tbl := by decide +kernel
theorem lw_w10 : (Cond.classLink R_law 8 RX0) ∈ lw_tbl := by decide +kernel
theorem lw_w11 : (Cond.classLink R_law 69 RX1) ∈ lw_tbl := by decide +kernel
theorem lw_w12 : (Cond.instantiable RX0 18) ∈ lw_tbl := by decide +kernel
theorem lw_w13 : (Cond.instantiable RX1 19) ∈ lw_tbl := by decide +kernel
theorem lw_w14 : (Cond.initialized RX0) ∈ lw_tbl := by decide +kernel
theorem lw_w15 : (Cond.initialized RX1) ∈ lw_tbl := by decide +kernel
theorem lw_w16 : (Cond.methodLink RL 68 yX0_init) ∈ lw_tbl := by decide +kernel
theorem lw_w17 : (Cond.methodLink RL 71 yX1_init) ∈ lw_tbl := by decide +kernel
theorem lw_w18 : (Cond.instanceMethod yX0_init) ∈ lw_tbl := by decide +kernel
theorem lw_w19 : (Cond.instanceMethod yX1_init) ∈ lw_tbl := by decide +kernel
theorem lw_w20 : (Cond.arrayClass .long) ∈ lw_tbl := by decide +kernel
theorem lw_Z0 {s : State} {args : Array Value} (hts : ∀ w ∈ lw_tbl, w.before args s = true) (hgv : (Jvm.Cond.and given_1 narrow_1).before args s = true) : cp_Z (fun q : Nat => s.heap.size ≤ q) s s.heap := by
  have hs := flat_of_before _ hgv
  have hq : ∀ a : Nat, a < s.heap.size → ¬ (fun q : Nat => s.heap.size ≤ q) a := fun a h => Nat.not_le.mpr h
  exact ⟨vx_Zqof (hts _ lw_w1) (hts _ lw_w3) (hs (.isRef (.static Bundle.tN "UNASSIGNED_STACK" Bundle.steD)) (by decide +kernel)) hq, vx_Zqof (hts _ lw_w2) (hts _ lw_w3) (hs (.isRef (.static Bundle.tN "SUPPRESSED_SENTINEL" Bundle.listD)) (by decide +kernel)) hq,
    va_Nw.of rfl (hts _ lw_w4), va_Nw.of rfl (hts _ lw_w5), va_Nw.of rfl (hts _ lw_w6), va_Nc.of (hs (.not (.castable R_iae R_iob)) (by decide +kernel)), va_Nc.of (hs (.not (.castable R_ise R_iob)) (by decide +kernel)), va_Nc.of (hs (.not (.castable R_ise R_iae)) (by decide +kernel)), va_Nw.of rfl (hts _ lw_w7), va_Nw.of rfl (hts _ lw_w8), va_Nw.of rfl (hts _ lw_w9)⟩
set_option maxHeartbeats 4000000 in
set_option maxRecDepth 100000 in
theorem whole_start {p : Program} {e : Env} {s : State} {m : MethodId} {below : List Frame} {meth : Method} {c : Code} (l : Launch) (hflags : l.flags = flags0) {b L : Nat} {xs : Nat → Int32} (hL : L ≤ 2560) (C0 : lw_At p s m meth c b L xs) : W p l e room_1 s m #[Value.ref b] below meth c s.heap [] 0 0 (lw_Z below #[Value.ref b] s) (entryFrame m ([Value.ref b] : List Value).toArray 7) := by
  have hst : l.stackTraces = false := by
    unfold Launch.stackTraces
    rw [hflags]
    decide
  obtain ⟨hx, hb, hr, hml, hown, hts, hX, hbl, hlocks, hgv⟩ := id C0
  have hown2 : s.vm.findClass RL = some m.cls := hown
  have htsL : ∀ w ∈ wsL_law, w.before #[Value.ref b] s = true := fun w h => hts w (wsL_law_in w h)
  have hA : ∀ q : Nat, s.heap.size ≤ q → (fun q : Nat => s.heap.size ≤ q) q := fun _ h => h
  have hZ := lw_Z0 hts hgv
  obtain ⟨c0, iS0, hKn0⟩ := u_known (C := RX0) (T := TX0) (N := 18) (n := 18) hts inX0 (hts _ lw_w12)
  obtain ⟨c1, iS1, hKn1⟩ := u_known (C := RX1) (T := TX1) (N := 19) (n := 19) hts inX1 (hts _ lw_w13)
  obtain ⟨dC, dI, hKc⟩ : ∃ (dC : Nat → ClassId) (dI : Nat → Nat → Nat), ∀ (k : Nat) (q : vw_C), vwCl[k]? = some q → u_Kn s q.1 q.2.1 q.2.2 (dC k) (dI k) := by
    refine ⟨fun k => if k = 0 then c0 else c1, fun k => if k = 0 then iS0 else iS1, ?_⟩
    intro k q hq
    match k, hq with
    | 0, hq => cases hq; exact hKn0
    | 1, hq => cases hq; exact hKn1
    | k + 2, hq => simp [vwCl] at hq
  have hS : va_S (fun q : Nat => s.heap.size ≤ q) s.heap s.heap [] := va_S.rf
  have hK : va_K (dC, dI) vwCl [] s := ⟨hKc, fun k q h => by simp at h⟩
  have hP : va_P (dC, dI) vwCl [] s.heap := fun k q h => by simp at h
  have hD : va_D (fun q : Nat => s.heap.size ≤ q) [] := ⟨fun i j p q h => by simp at h, fun k q h => by simp at h⟩
  have hl := lv_entry ([.ref b]) (n := 7) (Nat.le_of_ble_eq_true rfl)
  rw [lg_entry_eq]
  generalize (lg_sl ([.ref b]) ++ List.replicate (7 - (lg_sl ([.ref b])).length) Slot.unset).toArray = ls at hl ⊢
  have hl : lv_has ls 7 [(0, .ref b)] := hl
  refine va_new (D := (dC, dI)) (ci := 0) (fs := [.int 0, .int 0, .null, .null, .null, .null, .null, .null, .null, .int 0, .null, .null, .null, .null, .int 0, .null, .null, .null]) (C := RX0) (T := TX0) (N := 18) hx hb hts inX0 tyX0 tyX0_ok hown (hts _ lw_w10) (hts _ lw_w12) (hts _ lw_w14) hK hP hD hS hA rfl (fun j hj => by rcases (show j = 0 ∨ j = 1 ∨ j = 2 ∨ j = 3 ∨ j = 4 ∨ j = 5 ∨ j = 6 ∨ j = 7 ∨ j = 8 ∨ j = 9 ∨ j = 10 ∨ j = 11 ∨ j = 12 ∨ j = 13 ∨ j = 14 ∨ j = 15 ∨ j = 16 ∨ j = 17 by omega) with rfl | rfl | rfl | rfl | rfl | rfl | rfl | rfl | rfl | rfl | rfl | rfl | rfl | rfl | rfl | rfl | rfl | rfl <;> rfl) (Nat.le_of_ble_eq_true rfl) (Nat.le_of_ble_eq_true rfl) dL_law_0 (fun h H hP hD hS => ?_)
  have hI : cp_I (dC, dI) ([(h, .inr (0, [.int 0, .int 0, .null, .null, .null, .null, .null, .null, .null, .int 0, .null, .null, .null, .null, .int 0, .null, .null, .null]))] ++ []) (fun q : Nat => s.heap.size ≤ q) s.heap H [] := ⟨hP, hD, hS⟩
  refine W.widen (k := 1) (n := 18) (by omega) (by omega) ?_
  refine lv_dup hx hb dL_law_3 rfl ?_
  have hfr := cp_fr hI hA
  refine va_callv (va_runI (As := []) (rest := [.ref h]) ⟨hx, hb, hml, hown2, htsL⟩ (c_X0_init l (dC, dI) h H.size) (cwI 0 htsL gL_law_X0_init rfl rfl rfl (hts _ lw_w14) (hts _ lw_w16) (hts _ lw_w18) rfl (by decide +kernel) ⟨Nat.le_of_ble_eq_true rfl, Nat.le_of_ble_eq_true rfl⟩) ⟨cp_blind _ _ _ _ _, fun U hU hW => ⟨rfl, by rw [hU], by rw [hU]; exact (cp_callee hI).1, va_K.moved hW.alike hK, (cp_callee hI).2⟩⟩ rfl rfl hl.1 rfl (lv_room (Nat.le_of_ble_eq_true rfl)) dL_law_4 ⟨Nat.le_of_ble_eq_true rfl, Nat.le_of_ble_eq_true rfl⟩) hS (fun q _ h => hfr q h) hfr (fun u9 t H1 locs1 ht hvm hw hB hz hk hS => ?_)
  obtain ⟨cI, a⟩ := u9
  have hI1 : cp_I (dC, dI) (cp_wX cI h a cp_0 ++ []) (fun q : Nat => s.heap.size ≤ q) s.heap H1 locs1 := cp_behind hI hA (ht ▸ hB.1) hB.2.2 hk hS
  have hK1 : va_K (dC, dI) vwCl [(cI, .int)] s := va_K.moved hvm.symm hB.2.1
  refine W.widen (k := 15) (n := 458) (by omega) (by omega) ?_
  refine lv_astore_n (lv' := [(1, .ref h), (0, .ref b)]) hx hb dL_law_7 rfl hl (by decide) rfl (fun ls hl => ?_)
  rw [List.append_nil] at hI1
  refine va_new (D := (dC, dI)) (ci := 1) (fs := [.int 0, .int 0, .int 0, .null, .null, .null, .null, .null, .int 0, .null, .null, .null, .null, .null, .int 0, .null, .null, .null, .null]) (C := RX1) (T := TX1) (N := 19) hx hb hts inX1 tyX1 tyX1_ok hown (hts _ lw_w11) (hts _ lw_w13) (hts _ lw_w15) hK1 hI1.1 hI1.2.1 hI1.2.2 hA rfl (fun j hj => by rcases (show j = 0 ∨ j = 1 ∨ j = 2 ∨ j = 3 ∨ j = 4 ∨ j = 5 ∨ j = 6 ∨ j = 7 ∨ j = 8 ∨ j = 9 ∨ j = 10 ∨ j = 11 ∨ j = 12 ∨ j = 13 ∨ j = 14 ∨ j = 15 ∨ j = 16 ∨ j = 17 ∨ j = 18 by omega) with rfl | rfl | rfl | rfl | rfl | rfl | rfl | rfl | rfl | rfl | rfl | rfl | rfl | rfl | rfl | rfl | rfl | rfl | rfl <;> rfl) (Nat.le_of_ble_eq_true rfl) (Nat.le_of_ble_eq_true rfl) dL_law_8 (fun h2 H2 hP hD hS => ?_)
  have hI2 : cp_I (dC, dI) ([(h2, .inr (1, [.int 0, .int 0, .int 0, .null, .null, .null, .null, .null, .int 0, .null, .null, .null, .null, .null, .int 0, .null, .null, .null, .null]))] ++ cp_wX cI h a cp_0) (fun q : Nat => s.heap.size ≤ q) s.heap H2 locs1 := cp_swap ⟨hP, hD, hS⟩
  refine W.widen (k := 16) (n := 477) (by omega) (by omega) ?_
  refine lv_dup hx hb dL_law_11 rfl ?_
  have hfr2 := cp_fr hI2 hA
  refine va_callv (va_runI (As := []) (rest := [.ref h2]) ⟨hx, hb, hml, hown2, htsL⟩ (c_X1_init l (dC, dI) h2 H2.size) (cwI 0 htsL gL_law_X1_init rfl rfl rfl (hts _ lw_w15) (hts _ lw_w17) (hts _ lw_w19) rfl (by decide +kernel) ⟨Nat.le_of_ble_eq_true rfl, Nat.le_of_ble_eq_true rfl⟩) ⟨cp_blind _ _ _ _ _, fun U hU hW => ⟨rfl, by rw [hU], by rw [hU]; exact (cp_callee hI2).1, va_K.moved hW.alike hK, (cp_callee hI2).2⟩⟩ rfl rfl hl.1 rfl (lv_room (Nat.le_of_ble_eq_true rfl)) dL_law_12 ⟨Nat.le_of_ble_eq_true rfl, Nat.le_of_ble_eq_true rfl⟩) hI2.2.2 (fun q _ h => hfr2 q h) hfr2 (fun u9 t H3 locs3 ht hvm hw hB hz hk hS => ?_)
  obtain ⟨⟨cI2, cZ⟩, a2⟩ := u9
  have hI3 : cp_I (dC, dI) (cp_wY cI2 cZ h2 a2 cp_0 ++ cp_wX cI h a cp_0) (fun q : Nat => s.heap.size ≤ q) s.heap H3 locs3 := cp_behind hI2 hA (ht ▸ hB.1) hB.2.2 hk hS
  have hK2 : va_K (dC, dI) vwCl [(cI2, .int), (cZ, .boolean)] s := va_K.moved hvm.symm hB.2.1
  have hK3 : va_K (dC, dI) vwCl [(cI, .int), (cI2, .int), (cZ, .boolean)] s := hK1.app hK2
  obtain rfl : cI = cI2 := cp_cI hK3 (i := 0) (j := 1) rfl rfl
  refine W.widen (k := 30) (n := 929) (by omega) (by omega) ?_
  refine lv_astore_n (lv' := [(2, .ref h2), (1, .ref h), (0, .ref b)]) hx hb dL_law_15 rfl hl (by decide) rfl (fun ls hl => ?_)
  refine lv_iconst (v := 1) hx hb dL_law_16 (by decide) ?_
  refine va_newa (atype := .long) (ty := .long) (N' := 1) (a0 := (1, .inr (.inl (fun _ => 0)))) hx hb (hts _ lw_w20) rfl hK3 hI3.1 hI3.2.1 hI3.2.2 hA (fun _ => rfl) (by decide) (by decide) (by decide) (Nat.le_of_ble_eq_true rfl) (Nat.le_of_ble_eq_true rfl) dL_law_17 (fun o cJ H4 hK4 hP hD hS => ?_)
  have hI4 : cp_I (dC, dI) ((cp_wY cI cZ h2 a2 cp_0 ++ cp_wX cI h a cp_0) ++ cp_wO cJ o (fun _ => 0)) (fun q : Nat => s.heap.size ≤ q) s.heap H4 locs3 := ⟨hP, hD, hS⟩
  rw [List.append_assoc] at hI4
  have hI5 := cp_swap hI4
  have hK5 : va_K (dC, dI) vwCl [(cI, .int), (cJ, .long), (cZ, .boolean)] s := hK4.sub [0, 3, 2] rfl
  refine W.widen (k := 31) (n := 930) (by omega) (by omega) ?_
  refine lv_astore_n (lv' := [(3, .ref o), (2, .ref h2), (1, .ref h), (0, .ref b)]) hx hb dL_law_19 rfl hl (by decide) rfl (fun ls hl => ?_)
  refine lv_iconst (v := 0) hx hb dL_law_20 (by decide) ?_
  refine lv_istore (lv' := [(4, .int 0), (3, .ref o), (2, .ref h2), (1, .ref h), (0, .ref b)]) hx hb dL_law_21 hl (by decide) rfl (fun ls hl => ?_)
  have hl9 : lv_has ls 7 [(0, .ref b), (1, .ref h), (2, .ref h2), (3, .ref o), (4, .int (nI 0))] := by
    rw [nI_0]
    exact lv_sub hl [4, 3, 2, 1, 0] rfl
  exact law_loop hst hL C0 ⟨hK5, hZ⟩ (L + 1) 0 cp_0 cp_0 (fun _ => 0) H4 locs3 31 930 ls (Nat.zero_le L) (by omega) (by omega) (by omega) ⟨cp_R0, cp_V0, hI5⟩ hl9
