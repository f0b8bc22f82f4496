/-! One call of the script: the class, the reference, the tests of the law. -/
def lw_S (s : State) (D : va_G) (cI cJ cZ : ClassId) (h o h2 : Nat) (a a2 : Nat → Nat) (u v : cp_M) (f9 : Nat → Int64) (H : Heap) (locs : List Loc) : Prop := cp_R u v ∧ cp_V u ∧ cp_I D ((cp_wX cI h a u ++ cp_wO cJ o f9) ++ cp_wY cI cZ h2 a2 v) (fun q : Nat => s.heap.size ≤ q) s.heap H locs
def lw_T (s : State) (D : va_G) (cI cJ cZ : ClassId) : Prop := va_K D vwCl [(cI, .int), (cJ, .long), (cZ, .boolean)] s ∧ cp_Z (fun q : Nat => s.heap.size ≤ q) s s.heap
def lw_H (v : cp_M) : Prop := cp_cn v 1 16 ∧ cp_cn v 2 40 ∧ cp_cn v 3 40 ∧ cp_td v ∧ (∀ g, g < cp_n v 1 → ∃ L, 1 ≤ L ∧ L ≤ 30 ∧ v 2 g = nI L) ∧ (∀ k, k < cp_n v 3 → v 13 k = -1 ∨ ∃ g, g < 16 ∧ v 13 k = nI g)
theorem lw_hV {u : cp_M} (hV : cp_V u) : lw_H u := by
  have hn := hV.1.2.1
  refine ⟨hV.1, hV.2.1, hV.2.2.1, hV.2.2.2.1, fun g hg => ?_, fun k hk => ?_⟩
  · obtain ⟨L, a1, a2, a3, _⟩ := hV.2.2.2.2.1 g hg
    exact ⟨L, a1, a2, a3⟩
  · rcases (hV.2.2.2.2.2 k hk).2.2 with e | ⟨g, hg, e⟩
    · exact Or.inl e
    · exact Or.inr ⟨g, by omega, e⟩
theorem lw_hR {u v : cp_M} (hR : cp_R u v) (hV : cp_V u) : lw_H v := by
  obtain ⟨F, K, t, rfl, hk⟩ := hR
  have h := lw_hV hV
  exact h
theorem lw_cf {u : cp_M} (hV : cp_V u) : ∀ k, k < cp_n u 3 → (u 11 k).toNatClampNeg < 4 ∧ u 11 k = nI (u 11 k).toNatClampNeg := fun k hk => by
  obtain ⟨c, hc, e⟩ := (hV.2.2.2.2.2 k hk).1
  have e2 : (u 11 k).toNatClampNeg = c := by rw [e]; exact nI_clamp (by omega)
  rw [e2]
  exact ⟨hc, e⟩
theorem lw_cfR {u v : cp_M} (hR : cp_R u v) (hV : cp_V u) : ∀ k, k < cp_n v 3 → (u 11 k).toNatClampNeg < 4 ∧ v 11 k = nI (u 11 k).toNatClampNeg := by
  obtain ⟨F, K, t, rfl, hk⟩ := hR
  have h := lw_cf hV
  exact h
theorem lw_in {i k L : Nat} {y : Int32} (hy : y = nI k) (h : i + k < L) (hL : L ≤ 2560) : vp_in (nI i + y) L := by
  rw [hy, nI_add]
  exact vp_in_nI h (by omega)
set_option maxHeartbeats 4000000 in
set_option maxRecDepth 100000 in
theorem lo_pages {p : Program} {l : Launch} {e : Env} {s : State} {m : MethodId} {below : List Frame} {meth : Method} {c : Code} {b L : Nat} {xs : Nat → Int32} {D : va_G} {cI cJ cZ : ClassId} {h o h2 : Nat} {a a2 : Nat → Nat} {u v : cp_M} {f9 : Nat → Int64} {H : Heap} {locs : List Loc} {cells slots i : Nat} {Q : State → Prop} {ls : Array Slot}
    (hst : l.stackTraces = false) (hL : L ≤ 2560) (C0 : lw_At p s m meth c b L xs) (hT : lw_T s D cI cJ cZ) (hS : lw_S s D cI cJ cZ h o h2 a a2 u v f9 H locs) (hi : i + 4 < L) (hl : lv_has ls 7 [(0, .ref b), (1, .ref h), (2, .ref h2), (3, .ref o), (4, .int (nI i))]) (hf : cells + 1 ≤ 1058 ∧ slots + 6 ≤ 9140)
    (kk : ∀ (u1 v1 : cp_M) (f1 : Nat → Int64) (H1 : Heap) (locs1 : List Loc) (ls1 : Array Slot), lw_S s D cI cJ cZ h o h2 a a2 u1 v1 f1 H1 locs1 → lv_has ls1 7 [(0, .ref b), (1, .ref h), (2, .ref h2), (3, .ref o), (4, .int (nI i))] → W p l e room_1 s m #[Value.ref b] below meth c H1 locs1 (cells + 1) (slots + 6) Q (F0 m 1252 ls1 [])) :
    W p l e room_1 s m #[Value.ref b] below meth c H locs cells slots Q (F0 m 229 ls []) := by
  obtain ⟨hx, hb, hr, hml, hown, hts0, hX, hbl, hlocks, hgv⟩ := C0
  have hown : s.vm.findClass RL = some m.cls := hown
  have hA : ∀ q : Nat, s.heap.size ≤ q → (fun q : Nat => s.heap.size ≤ q) q := fun _ h => h
  have hbA : ¬ (fun q : Nat => s.heap.size ≤ q) b := Nat.not_le.mpr hbl
  have hts : ∀ w ∈ wsL_law, w.before #[Value.ref b] s = true := fun w h => hts0 w (wsL_law_in w h)
  obtain ⟨hK, hZ⟩ := hT
  obtain ⟨hR, hV, hI⟩ := hS
  have hV9 := lw_hV hV
  have hR9 := lw_hR hR hV
  refine lv_aload_n hx hb dL_law_229 rfl (lv_at hl 1 rfl) ?_
  refine lv_aload_n hx hb dL_law_230 rfl (lv_at hl 0 rfl) ?_
  refine lv_iload hx hb dL_law_231 (lv_at hl 4 rfl) ?_
  refine lv_iconst (v := 1) hx hb dL_law_233 (by decide) ?_
  refine lv_iadd hx hb dL_law_234 ?_
  refine va_sld hx hb hX hbl hbA hI.2.2 (lw_in (k := 1) rfl (by omega) hL) dL_law_235 ?_
  refine lv_aload_n hx hb dL_law_236 rfl (lv_at hl 3 rfl) ?_
  refine cp_cLi (As := [.ref h, .int (xs (nI i + 1).toNatClampNeg), .ref o]) (rest := []) ⟨hx, hb, hml, hown, hts⟩ (c_L_pages l hst D cI cJ h a o u f9 (xs (nI i + 1).toNatClampNeg) hV9.1) (vx_cwSW 3 hts gL_law_L_pages rfl rfl rfl (by decide +kernel) ⟨Nat.le_of_ble_eq_true rfl, Nat.le_of_ble_eq_true rfl⟩) (hK.sub [0, 1] rfl) hI hA hZ rfl hl.1 rfl (Nat.le_of_ble_eq_true rfl) dL_law_237 hf (fun k u1 f1 H locs hp hI => ?_)
  refine lv_istore (lv' := [(5, .int k), (0, .ref b), (1, .ref h), (2, .ref h2), (3, .ref o), (4, .int (nI i))]) hx hb dL_law_240 hl (by decide) rfl (fun ls hl => ?_)
  have hI := cp_swap hI
  refine lv_aload_n hx hb dL_law_242 rfl (lv_at hl 3 rfl) ?_
  refine lv_aload_n hx hb dL_law_243 rfl (lv_at hl 1 rfl) ?_
  refine lv_iload hx hb dL_law_244 (lv_at hl 5 rfl) ?_
  refine lv_iconst (v := 1) hx hb dL_law_246 (by decide) ?_
  refine lv_iadd hx hb dL_law_247 ?_
  refine va_sld hx hb hX hbl hbA hI.2.2 (lw_in (k := 1) rfl (by omega) hL) dL_law_248 ?_
  refine cp_cVi (wc := cp_wY cI cZ h2 a2) (u := v) (wr := cp_wX cI h a u1 ++ cp_wO cJ o f1) (As := [.int (xs (nI i + 1).toNatClampNeg)]) (rest := []) ⟨hx, hb, hml, hown, hts⟩ (c_X1_pages l D cI cZ h2 a2 v (xs (nI i + 1).toNatClampNeg) hR9.1 hR9.2.2.2.2.1) (cwV 1 hts gL_law_X1_pages rfl rfl rfl (by decide +kernel) ⟨Nat.le_of_ble_eq_true rfl, Nat.le_of_ble_eq_true rfl⟩) (hK.sub [0, 2] rfl) hI hA ⟨_, cp_hY _ _ _ _ _⟩ rfl rfl rfl hl.1 rfl (Nat.le_of_ble_eq_true rfl) dL_law_249 ⟨hf.1, hf.2⟩ (fun b9 v1 H locs hq hI => ?_)
  refine lv_istore (lv' := [(6, .int b9), (5, .int k), (0, .ref b), (1, .ref h), (2, .ref h2), (3, .ref o), (4, .int (nI i))]) hx hb dL_law_252 hl (by decide) rfl (fun ls hl => ?_)
  refine lv_aload_n hx hb dL_law_254 rfl (lv_at hl 4 rfl) ?_
  refine cp_cVi (wc := cp_wY cI cZ h2 a2) (u := v1) (wr := cp_wX cI h a u1 ++ cp_wO cJ o f1) (As := []) (rest := []) ⟨hx, hb, hml, hown, hts⟩ (c_X1_thrown l D cI cZ h2 a2 v1 ) (cwV 0 hts gL_law_X1_thrown rfl rfl rfl (by decide +kernel) ⟨Nat.le_of_ble_eq_true rfl, Nat.le_of_ble_eq_true rfl⟩) (hK.sub [0, 2] rfl) hI hA ⟨_, cp_hY _ _ _ _ _⟩ rfl rfl rfl hl.1 rfl (Nat.le_of_ble_eq_true rfl) dL_law_255 ⟨hf.1, hf.2⟩ (fun k9 v2 H locs hq2 hI2 => ?_)
  obtain ⟨rfl, rfl⟩ := hq2
  obtain ⟨o1, o2, o3, o4⟩ := cp_s_pages hR hV hp hq
  have hI := cp_swap hI2
  refine lv_iload hx hb dL_law_258 (lv_at hl 1 rfl) ?_
  refine lv_icmp_eq (tgt := 265) hx hb dL_law_260 (by decide) (fun _ => ?_) (fun c => absurd o1 c)
  refine lv_iload hx hb dL_law_265 (lv_at hl 1 rfl) ?_
  refine lv_if_ne (tgt := 282) hx hb dL_law_267 (by decide) (fun _ => ?_) (fun k0 => ?_)
  · refine lv_goto (tgt := 1252) hx hb dL_law_282 (by decide) ?_
    exact kk u1 v2 f1 H locs ls ⟨o3, o4, hI⟩ (lv_sub hl [2, 3, 4, 5, 6] rfl)
  · have k0 : k = 0 := by first | exact k0 | exact Classical.not_not.mp k0
    refine lv_aload_n hx hb dL_law_270 rfl (lv_at hl 5 rfl) ?_
    refine lv_iconst (v := 0) hx hb dL_law_271 (by decide) ?_
    refine va_lald (D := D) hx hb hK hI.1 15 1 (cA := cJ) (n := 1) (f := f1) rfl rfl (vp_in_nI (n := 0) (by decide) (by decide)) dL_law_272 ?_
    have o9 : f1 (Int32.toNatClampNeg 0) = b9.toInt64 := o2 k0
    refine lv_iload hx hb dL_law_273 (lv_at hl 0 rfl) ?_
    refine lv_i2l (v := b9.toInt64) hx hb dL_law_275 rfl ?_
    refine W.lcmp hx hb dL_law_276 ?_
    refine lv_if_eq (tgt := 282) hx hb dL_law_277 (by decide) (fun _ => ?_) (fun c => absurd (cp_lcmp0 (o9)) c)
    refine lv_goto (tgt := 1252) hx hb dL_law_282 (by decide) ?_
    exact kk u1 v2 f1 H locs ls ⟨o3, o4, hI⟩ (lv_sub hl [2, 3, 4, 5, 6] rfl)
