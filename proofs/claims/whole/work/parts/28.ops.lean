/-! One call of the script: the class, the reference, the tests of the law. -/
def lw_S (s : State) (D : va_G) (cI cJ cZ : ClassId) (h o h2 : Nat) (a a2 : Nat → Nat) (u v : cp_M) (f9 : Nat → Int64) (H : Heap) (locs : List Loc) : Prop := cp_R u v ∧ cp_V u ∧ cp_I D ((cp_wX cI h a u ++ cp_wO cJ o f9) ++ cp_wY cI cZ h2 a2 v) (fun q : Nat => s.heap.size ≤ q) s.heap H locs
def lw_T (s : State) (D : va_G) (cI cJ cZ : ClassId) : Prop := va_K D vwCl [(cI, .int), (cJ, .long), (cZ, .boolean)] s ∧ cp_Z (fun q : Nat => s.heap.size ≤ q) s s.heap
def lw_H (v : cp_M) : Prop := cp_cn v 1 16 ∧ cp_cn v 2 40 ∧ cp_cn v 3 40 ∧ cp_td v ∧ (∀ g, g < cp_n v 1 → ∃ L, 1 ≤ L ∧ L ≤ 30 ∧ v 2 g = nI L) ∧ (∀ k, k < cp_n v 3 → v 13 k = -1 ∨ ∃ g, g < 16 ∧ v 13 k = nI g)
theorem lw_hV {u : cp_M} (hV : cp_V u) : lw_H u := by
  have hn := hV.1.2.1
  refine ⟨hV.1, hV.2.1, hV.2.2.1, hV.2.2.2.1, fun g hg => ?_, fun k hk => ?_⟩
  · obtain ⟨L, a1, a2, a3, _⟩ := hV.2.2.2.2.1 g hg
    exact ⟨L, a1, a2, a3⟩
  · rcases (hV.2.2.2.2.2 k hk).2.2 with e | ⟨g, hg, e⟩
    · exact Or.inl e
    · exact Or.inr ⟨g, by omega, e⟩
theorem lw_hR {u v : cp_M} (hR : cp_R u v) (hV : cp_V u) : lw_H v := by
  obtain ⟨F, K, t, rfl, hk⟩ := hR
  have h := lw_hV hV
  exact h
theorem lw_cf {u : cp_M} (hV : cp_V u) : ∀ k, k < cp_n u 3 → (u 11 k).toNatClampNeg < 4 ∧ u 11 k = nI (u 11 k).toNatClampNeg := fun k hk => by
  obtain ⟨c, hc, e⟩ := (hV.2.2.2.2.2 k hk).1
  have e2 : (u 11 k).toNatClampNeg = c := by rw [e]; exact nI_clamp (by omega)
  rw [e2]
  exact ⟨hc, e⟩
theorem lw_cfR {u v : cp_M} (hR : cp_R u v) (hV : cp_V u) : ∀ k, k < cp_n v 3 → (u 11 k).toNatClampNeg < 4 ∧ v 11 k = nI (u 11 k).toNatClampNeg := by
  obtain ⟨F, K, t, rfl, hk⟩ := hR
  have h := lw_cf hV
  exact h
theorem lw_in {i k L : Nat} {y : Int32} (hy : y = nI k) (h : i + k < L) (hL : L ≤ 2560) : vp_in (nI i + y) L := by
  rw [hy, nI_add]
  exact vp_in_nI h (by omega)
set_option maxHeartbeats 4000000 in
set_option maxRecDepth 100000 in
theorem lo_hymns {p : Program} {l : Launch} {e : Env} {s : State} {m : MethodId} {below : List Frame} {meth : Method} {c : Code} {b L : Nat} {xs : Nat → Int32} {D : va_G} {cI cJ cZ : ClassId} {h o h2 : Nat} {a a2 : Nat → Nat} {u v : cp_M} {f9 : Nat → Int64} {H : Heap} {locs : List Loc} {cells slots i : Nat} {Q : State → Prop} {ls : Array Slot}
    (hst : l.stackTraces = false) (hL : L ≤ 2560) (C0 : lw_At p s m meth c b L xs) (hT : lw_T s D cI cJ cZ) (hS : lw_S s D cI cJ cZ h o h2 a a2 u v f9 H locs) (hi : i + 4 < L) (hl : lv_has ls 7 [(0, .ref b), (1, .ref h), (2, .ref h2), (3, .ref o), (4, .int (nI i))]) (hf : cells + 1 ≤ 1058 ∧ slots + 6 ≤ 9140)
    (kk : ∀ (u1 v1 : cp_M) (f1 : Nat → Int64) (H1 : Heap) (locs1 : List Loc) (ls1 : Array Slot), lw_S s D cI cJ cZ h o h2 a a2 u1 v1 f1 H1 locs1 → lv_has ls1 7 [(0, .ref b), (1, .ref h), (2, .ref h2), (3, .ref o), (4, .int (nI i))] → W p l e room_1 s m #[Value.ref b] below meth c H1 locs1 (cells + 1) (slots + 6) Q (F0 m 1252 ls1 [])) :
    W p l e room_1 s m #[Value.ref b] below meth c H locs cells slots Q (F0 m 216 ls []) := by
  obtain ⟨hx, hb, hr, hml, hown, hts0, hX, hbl, hlocks, hgv⟩ := C0
  have hown : s.vm.findClass RL = some m.cls := hown
  have hA : ∀ q : Nat, s.heap.size ≤ q → (fun q : Nat => s.heap.size ≤ q) q := fun _ h => h
  have hbA : ¬ (fun q : Nat => s.heap.size ≤ q) b := Nat.not_le.mpr hbl
  have hts : ∀ w ∈ wsL_law, w.before #[Value.ref b] s = true := fun w h => hts0 w (wsL_law_in w h)
  obtain ⟨hK, hZ⟩ := hT
  obtain ⟨hR, hV, hI⟩ := hS
  have hV9 := lw_hV hV
  have hR9 := lw_hR hR hV
  refine lv_aload_n hx hb dL_law_216 rfl (lv_at hl 1 rfl) ?_
  rw [List.append_assoc] at hI
  refine cp_cVi (wc := cp_wX cI h a) (u := u) (wr := cp_wO cJ o f9 ++ cp_wY cI cZ h2 a2 v) (As := []) (rest := []) ⟨hx, hb, hml, hown, hts⟩ (c_X0_hymns l D cI h a u) (cwV 0 hts gL_law_X0_hymns rfl rfl rfl (by decide +kernel) ⟨Nat.le_of_ble_eq_true rfl, Nat.le_of_ble_eq_true rfl⟩) (hK.sub [0] rfl) hI hA ⟨_, cp_hX _ _ _ _⟩ rfl rfl rfl hl.1 rfl (Nat.le_of_ble_eq_true rfl) dL_law_217 ⟨Nat.le_of_add_right_le hf.1, Nat.le_of_add_right_le hf.2⟩ (fun r u1 H locs hp hI1 => ?_)
  rw [← List.append_assoc] at hI1
  have hI2 := cp_swap hI1
  refine lv_aload_n hx hb dL_law_220 rfl (lv_at hl 2 rfl) ?_
  refine cp_cVi (wc := cp_wY cI cZ h2 a2) (u := v) (wr := cp_wX cI h a u1 ++ cp_wO cJ o f9) (As := []) (rest := [.int r]) ⟨hx, hb, hml, hown, hts⟩ (c_X1_hymns l D cI cZ h2 a2 v) (cwV 0 hts gL_law_X1_hymns rfl rfl rfl (by decide +kernel) ⟨Nat.le_of_ble_eq_true rfl, Nat.le_of_ble_eq_true rfl⟩) (hK.sub [0, 2] rfl) hI2 hA ⟨_, cp_hY _ _ _ _ _⟩ rfl rfl rfl hl.1 rfl (Nat.le_of_ble_eq_true rfl) dL_law_221 ⟨Nat.le_of_add_right_le hf.1, Nat.le_of_add_right_le hf.2⟩ (fun r2 v1 H locs hq hI3 => ?_)
  have hI4 := cp_swap hI3
  obtain ⟨F, K, t, rfl, hk⟩ := hR
  obtain ⟨q1, q2⟩ := hp
  obtain ⟨q3, q4⟩ := hq
  have e9 : r = r2 := by rw [q1, q3]; rfl
  have hS9 : lw_S s D cI cJ cZ h o h2 a a2 u1 v1 f9 H locs := ⟨⟨F, K, 0, by rw [q4, q2]; exact cp_mk_thw _ _ _ _ _, by rw [q2]; exact hk⟩, by rw [q2]; exact hV, hI4⟩
  refine lv_icmp_eq (tgt := 1252) hx hb dL_law_224 (by decide) (fun _ => ?_) (fun z => absurd e9 z)
  exact W.widen (k := cells + 1) (n := slots + 6) (by omega) (by omega) (kk u1 v1 f9 H locs ls hS9 hl)
set_option maxHeartbeats 4000000 in
set_option maxRecDepth 100000 in
theorem lo_silent {p : Program} {l : Launch} {e : Env} {s : State} {m : MethodId} {below : List Frame} {meth : Method} {c : Code} {b L : Nat} {xs : Nat → Int32} {D : va_G} {cI cJ cZ : ClassId} {h o h2 : Nat} {a a2 : Nat → Nat} {u v : cp_M} {f9 : Nat → Int64} {H : Heap} {locs : List Loc} {cells slots i : Nat} {Q : State → Prop} {ls : Array Slot}
    (hst : l.stackTraces = false) (hL : L ≤ 2560) (C0 : lw_At p s m meth c b L xs) (hT : lw_T s D cI cJ cZ) (hS : lw_S s D cI cJ cZ h o h2 a a2 u v f9 H locs) (hi : i + 4 < L) (hl : lv_has ls 7 [(0, .ref b), (1, .ref h), (2, .ref h2), (3, .ref o), (4, .int (nI i))]) (hf : cells + 1 ≤ 1058 ∧ slots + 6 ≤ 9140)
    (kk : ∀ (u1 v1 : cp_M) (f1 : Nat → Int64) (H1 : Heap) (locs1 : List Loc) (ls1 : Array Slot), lw_S s D cI cJ cZ h o h2 a a2 u1 v1 f1 H1 locs1 → lv_has ls1 7 [(0, .ref b), (1, .ref h), (2, .ref h2), (3, .ref o), (4, .int (nI i))] → W p l e room_1 s m #[Value.ref b] below meth c H1 locs1 (cells + 1) (slots + 6) Q (F0 m 1252 ls1 [])) :
    W p l e room_1 s m #[Value.ref b] below meth c H locs cells slots Q (F0 m 1047 ls []) := by
  obtain ⟨hx, hb, hr, hml, hown, hts0, hX, hbl, hlocks, hgv⟩ := C0
  have hown : s.vm.findClass RL = some m.cls := hown
  have hA : ∀ q : Nat, s.heap.size ≤ q → (fun q : Nat => s.heap.size ≤ q) q := fun _ h => h
  have hbA : ¬ (fun q : Nat => s.heap.size ≤ q) b := Nat.not_le.mpr hbl
  have hts : ∀ w ∈ wsL_law, w.before #[Value.ref b] s = true := fun w h => hts0 w (wsL_law_in w h)
  obtain ⟨hK, hZ⟩ := hT
  obtain ⟨hR, hV, hI⟩ := hS
  have hV9 := lw_hV hV
  have hR9 := lw_hR hR hV
  refine lv_aload_n hx hb dL_law_1047 rfl (lv_at hl 1 rfl) ?_
  rw [List.append_assoc] at hI
  refine cp_cVi (wc := cp_wX cI h a) (u := u) (wr := cp_wO cJ o f9 ++ cp_wY cI cZ h2 a2 v) (As := []) (rest := []) ⟨hx, hb, hml, hown, hts⟩ (c_X0_silent l D cI h a u hV.2.2.1) (cwV 0 hts gL_law_X0_silent rfl rfl rfl (by decide +kernel) ⟨Nat.le_of_ble_eq_true rfl, Nat.le_of_ble_eq_true rfl⟩) (hK.sub [0] rfl) hI hA ⟨_, cp_hX _ _ _ _⟩ rfl rfl rfl hl.1 rfl (Nat.le_of_ble_eq_true rfl) dL_law_1048 ⟨Nat.le_of_add_right_le hf.1, Nat.le_of_add_right_le hf.2⟩ (fun r u1 H locs hp hI1 => ?_)
  rw [← List.append_assoc] at hI1
  have hI2 := cp_swap hI1
  refine lv_aload_n hx hb dL_law_1051 rfl (lv_at hl 2 rfl) ?_
  refine cp_cVi (wc := cp_wY cI cZ h2 a2) (u := v) (wr := cp_wX cI h a u1 ++ cp_wO cJ o f9) (As := []) (rest := [.int r]) ⟨hx, hb, hml, hown, hts⟩ (c_X1_silent l D cI cZ h2 a2 v hR9.2.2.1) (cwV 0 hts gL_law_X1_silent rfl rfl rfl (by decide +kernel) ⟨Nat.le_of_ble_eq_true rfl, Nat.le_of_ble_eq_true rfl⟩) (hK.sub [0, 2] rfl) hI2 hA ⟨_, cp_hY _ _ _ _ _⟩ rfl rfl rfl hl.1 rfl (Nat.le_of_ble_eq_true rfl) dL_law_1052 ⟨Nat.le_of_add_right_le hf.1, Nat.le_of_add_right_le hf.2⟩ (fun r2 v1 H locs hq hI3 => ?_)
  have hI4 := cp_swap hI3
  obtain ⟨F, K, t, rfl, hk⟩ := hR
  obtain ⟨q1, q2⟩ := hp
  obtain ⟨q3, q4⟩ := hq
  have e9 : r = r2 := by rw [q1, q3]; rfl
  have hS9 : lw_S s D cI cJ cZ h o h2 a a2 u1 v1 f9 H locs := ⟨⟨F, K, 0, by rw [q4, q2]; exact cp_mk_thw _ _ _ _ _, by rw [q2]; exact hk⟩, by rw [q2]; exact hV, hI4⟩
  refine lv_icmp_eq (tgt := 1252) hx hb dL_law_1055 (by decide) (fun _ => ?_) (fun z => absurd e9 z)
  exact W.widen (k := cells + 1) (n := slots + 6) (by omega) (by omega) (kk u1 v1 f9 H locs ls hS9 hl)
set_option maxHeartbeats 4000000 in
set_option maxRecDepth 100000 in
theorem lo_hymn {p : Program} {l : Launch} {e : Env} {s : State} {m : MethodId} {below : List Frame} {meth : Method} {c : Code} {b L : Nat} {xs : Nat → Int32} {D : va_G} {cI cJ cZ : ClassId} {h o h2 : Nat} {a a2 : Nat → Nat} {u v : cp_M} {f9 : Nat → Int64} {H : Heap} {locs : List Loc} {cells slots i : Nat} {Q : State → Prop} {ls : Array Slot}
    (hst : l.stackTraces = false) (hL : L ≤ 2560) (C0 : lw_At p s m meth c b L xs) (hT : lw_T s D cI cJ cZ) (hS : lw_S s D cI cJ cZ h o h2 a a2 u v f9 H locs) (hi : i + 4 < L) (hl : lv_has ls 7 [(0, .ref b), (1, .ref h), (2, .ref h2), (3, .ref o), (4, .int (nI i))]) (hf : cells + 1 ≤ 1058 ∧ slots + 6 ≤ 9140)
    (kk : ∀ (u1 v1 : cp_M) (f1 : Nat → Int64) (H1 : Heap) (locs1 : List Loc) (ls1 : Array Slot), lw_S s D cI cJ cZ h o h2 a a2 u1 v1 f1 H1 locs1 → lv_has ls1 7 [(0, .ref b), (1, .ref h), (2, .ref h2), (3, .ref o), (4, .int (nI i))] → W p l e room_1 s m #[Value.ref b] below meth c H1 locs1 (cells + 1) (slots + 6) Q (F0 m 1252 ls1 [])) :
    W p l e room_1 s m #[Value.ref b] below meth c H locs cells slots Q (F0 m 124 ls []) := by
  obtain ⟨hx, hb, hr, hml, hown, hts0, hX, hbl, hlocks, hgv⟩ := C0
  have hown : s.vm.findClass RL = some m.cls := hown
  have hA : ∀ q : Nat, s.heap.size ≤ q → (fun q : Nat => s.heap.size ≤ q) q := fun _ h => h
  have hbA : ¬ (fun q : Nat => s.heap.size ≤ q) b := Nat.not_le.mpr hbl
  have hts : ∀ w ∈ wsL_law, w.before #[Value.ref b] s = true := fun w h => hts0 w (wsL_law_in w h)
  obtain ⟨hK, hZ⟩ := hT
  obtain ⟨hR, hV, hI⟩ := hS
  have hV9 := lw_hV hV
  have hR9 := lw_hR hR hV
  refine lv_aload_n hx hb dL_law_124 rfl (lv_at hl 1 rfl) ?_
  refine lv_aload_n hx hb dL_law_125 rfl (lv_at hl 0 rfl) ?_
  refine lv_iload hx hb dL_law_126 (lv_at hl 4 rfl) ?_
  refine lv_iconst (v := 1) hx hb dL_law_128 (by decide) ?_
  refine lv_iadd hx hb dL_law_129 ?_
  refine va_sld hx hb hX hbl hbA hI.2.2 (lw_in (k := 1) rfl (by omega) hL) dL_law_130 ?_
  refine lv_aload_n hx hb dL_law_131 rfl (lv_at hl 0 rfl) ?_
  refine lv_iload hx hb dL_law_132 (lv_at hl 4 rfl) ?_
  refine lv_iconst (v := 2) hx hb dL_law_134 (by decide) ?_
  refine lv_iadd hx hb dL_law_135 ?_
  refine va_sld hx hb hX hbl hbA hI.2.2 (lw_in (k := 2) rfl (by omega) hL) dL_law_136 ?_
  refine lv_aload_n hx hb dL_law_137 rfl (lv_at hl 0 rfl) ?_
  refine lv_iload hx hb dL_law_138 (lv_at hl 4 rfl) ?_
  refine lv_iconst (v := 3) hx hb dL_law_140 (by decide) ?_
  refine lv_iadd hx hb dL_law_141 ?_
  refine va_sld hx hb hX hbl hbA hI.2.2 (lw_in (k := 3) rfl (by omega) hL) dL_law_142 ?_
  refine lv_aload_n hx hb dL_law_143 rfl (lv_at hl 0 rfl) ?_
  refine lv_iload hx hb dL_law_144 (lv_at hl 4 rfl) ?_
  refine lv_iconst (v := 4) hx hb dL_law_146 (by decide) ?_
  refine lv_iadd hx hb dL_law_147 ?_
  refine va_sld hx hb hX hbl hbA hI.2.2 (lw_in (k := 4) rfl (by omega) hL) dL_law_148 ?_
  refine lv_aload_n hx hb dL_law_149 rfl (lv_at hl 3 rfl) ?_
  refine cp_cLi (As := [.ref h, .int (xs (nI i + 1).toNatClampNeg), .int (xs (nI i + 2).toNatClampNeg), .int (xs (nI i + 3).toNatClampNeg), .int (xs (nI i + 4).toNatClampNeg), .ref o]) (rest := []) ⟨hx, hb, hml, hown, hts⟩ (c_L_hymn l hst D cI cJ h a o u f9 (xs (nI i + 1).toNatClampNeg) (xs (nI i + 2).toNatClampNeg) (xs (nI i + 3).toNatClampNeg) (xs (nI i + 4).toNatClampNeg) hV9.1) (vx_cwSW 6 hts gL_law_L_hymn rfl rfl rfl (by decide +kernel) ⟨Nat.le_of_ble_eq_true rfl, Nat.le_of_ble_eq_true rfl⟩) (hK.sub [0, 1] rfl) hI hA hZ rfl hl.1 rfl (Nat.le_of_ble_eq_true rfl) dL_law_150 hf (fun k u1 f1 H locs hp hI => ?_)
  refine lv_istore (lv' := [(5, .int k), (0, .ref b), (1, .ref h), (2, .ref h2), (3, .ref o), (4, .int (nI i))]) hx hb dL_law_153 hl (by decide) rfl (fun ls hl => ?_)
  have hI := cp_swap hI
  refine lv_aload_n hx hb dL_law_155 rfl (lv_at hl 3 rfl) ?_
  refine lv_aload_n hx hb dL_law_156 rfl (lv_at hl 1 rfl) ?_
  refine lv_iload hx hb dL_law_157 (lv_at hl 5 rfl) ?_
  refine lv_iconst (v := 1) hx hb dL_law_159 (by decide) ?_
  refine lv_iadd hx hb dL_law_160 ?_
  refine va_sld hx hb hX hbl hbA hI.2.2 (lw_in (k := 1) rfl (by omega) hL) dL_law_161 ?_
  refine lv_aload_n hx hb dL_law_162 rfl (lv_at hl 1 rfl) ?_
  refine lv_iload hx hb dL_law_163 (lv_at hl 5 rfl) ?_
  refine lv_iconst (v := 2) hx hb dL_law_165 (by decide) ?_
  refine lv_iadd hx hb dL_law_166 ?_
  refine va_sld hx hb hX hbl hbA hI.2.2 (lw_in (k := 2) rfl (by omega) hL) dL_law_167 ?_
  refine lv_aload_n hx hb dL_law_168 rfl (lv_at hl 1 rfl) ?_
  refine lv_iload hx hb dL_law_169 (lv_at hl 5 rfl) ?_
  refine lv_iconst (v := 3) hx hb dL_law_171 (by decide) ?_
  refine lv_iadd hx hb dL_law_172 ?_
  refine va_sld hx hb hX hbl hbA hI.2.2 (lw_in (k := 3) rfl (by omega) hL) dL_law_173 ?_
  refine lv_aload_n hx hb dL_law_174 rfl (lv_at hl 1 rfl) ?_
  refine lv_iload hx hb dL_law_175 (lv_at hl 5 rfl) ?_
  refine lv_iconst (v := 4) hx hb dL_law_177 (by decide) ?_
  refine lv_iadd hx hb dL_law_178 ?_
  refine va_sld hx hb hX hbl hbA hI.2.2 (lw_in (k := 4) rfl (by omega) hL) dL_law_179 ?_
  refine cp_cVi (wc := cp_wY cI cZ h2 a2) (u := v) (wr := cp_wX cI h a u1 ++ cp_wO cJ o f1) (As := [.int (xs (nI i + 1).toNatClampNeg), .int (xs (nI i + 2).toNatClampNeg), .int (xs (nI i + 3).toNatClampNeg), .int (xs (nI i + 4).toNatClampNeg)]) (rest := []) ⟨hx, hb, hml, hown, hts⟩ (c_X1_hymn l D cI cZ h2 a2 v (xs (nI i + 1).toNatClampNeg) (xs (nI i + 2).toNatClampNeg) (xs (nI i + 3).toNatClampNeg) (xs (nI i + 4).toNatClampNeg) hR9.1) (cwV 4 hts gL_law_X1_hymn rfl rfl rfl (by decide +kernel) ⟨Nat.le_of_ble_eq_true rfl, Nat.le_of_ble_eq_true rfl⟩) (hK.sub [0, 2] rfl) hI hA ⟨_, cp_hY _ _ _ _ _⟩ rfl rfl rfl hl.1 rfl (Nat.le_of_ble_eq_true rfl) dL_law_180 ⟨hf.1, hf.2⟩ (fun b9 v1 H locs hq hI => ?_)
  refine lv_istore (lv' := [(6, .int b9), (5, .int k), (0, .ref b), (1, .ref h), (2, .ref h2), (3, .ref o), (4, .int (nI i))]) hx hb dL_law_183 hl (by decide) rfl (fun ls hl => ?_)
  refine lv_aload_n hx hb dL_law_185 rfl (lv_at hl 4 rfl) ?_
  refine cp_cVi (wc := cp_wY cI cZ h2 a2) (u := v1) (wr := cp_wX cI h a u1 ++ cp_wO cJ o f1) (As := []) (rest := []) ⟨hx, hb, hml, hown, hts⟩ (c_X1_thrown l D cI cZ h2 a2 v1 ) (cwV 0 hts gL_law_X1_thrown rfl rfl rfl (by decide +kernel) ⟨Nat.le_of_ble_eq_true rfl, Nat.le_of_ble_eq_true rfl⟩) (hK.sub [0, 2] rfl) hI hA ⟨_, cp_hY _ _ _ _ _⟩ rfl rfl rfl hl.1 rfl (Nat.le_of_ble_eq_true rfl) dL_law_186 ⟨hf.1, hf.2⟩ (fun k9 v2 H locs hq2 hI2 => ?_)
  obtain ⟨rfl, rfl⟩ := hq2
  obtain ⟨o1, o2, o3, o4⟩ := cp_s_hymn hR hV hp hq
  have hI := cp_swap hI2
  refine lv_iload hx hb dL_law_189 (lv_at hl 1 rfl) ?_
  refine lv_icmp_eq (tgt := 196) hx hb dL_law_191 (by decide) (fun _ => ?_) (fun c => absurd o1 c)
  refine lv_iload hx hb dL_law_196 (lv_at hl 1 rfl) ?_
  refine lv_if_ne (tgt := 213) hx hb dL_law_198 (by decide) (fun _ => ?_) (fun k0 => ?_)
  · refine lv_goto (tgt := 1252) hx hb dL_law_213 (by decide) ?_
    exact kk u1 v2 f1 H locs ls ⟨o3, o4, hI⟩ (lv_sub hl [2, 3, 4, 5, 6] rfl)
  · have k0 : k = 0 := by first | exact k0 | exact Classical.not_not.mp k0
    refine lv_aload_n hx hb dL_law_201 rfl (lv_at hl 5 rfl) ?_
    refine lv_iconst (v := 0) hx hb dL_law_202 (by decide) ?_
    refine va_lald (D := D) hx hb hK hI.1 15 1 (cA := cJ) (n := 1) (f := f1) rfl rfl (vp_in_nI (n := 0) (by decide) (by decide)) dL_law_203 ?_
    have o9 : f1 (Int32.toNatClampNeg 0) = b9.toInt64 := o2 k0
    refine lv_iload hx hb dL_law_204 (lv_at hl 0 rfl) ?_
    refine lv_i2l (v := b9.toInt64) hx hb dL_law_206 rfl ?_
    refine W.lcmp hx hb dL_law_207 ?_
    refine lv_if_eq (tgt := 213) hx hb dL_law_208 (by decide) (fun _ => ?_) (fun z => absurd (cp_lcmp0 (o9)) z)
    refine lv_goto (tgt := 1252) hx hb dL_law_213 (by decide) ?_
    exact kk u1 v2 f1 H locs ls ⟨o3, o4, hI⟩ (lv_sub hl [2, 3, 4, 5, 6] rfl)
set_option maxHeartbeats 4000000 in
set_option maxRecDepth 100000 in
theorem lo_pages {p : Program} {l : Launch} {e : Env} {s : State} {m : MethodId} {below : List Frame} {meth : Method} {c : Code} {b L : Nat} {xs : Nat → Int32} {D : va_G} {cI cJ cZ : ClassId} {h o h2 : Nat} {a a2 : Nat → Nat} {u v : cp_M} {f9 : Nat → Int64} {H : Heap} {locs : List Loc} {cells slots i : Nat} {Q : State → Prop} {ls : Array Slot}
    (hst : l.stackTraces = false) (hL : L ≤ 2560) (C0 : lw_At p s m meth c b L xs) (hT : lw_T s D cI cJ cZ) (hS : lw_S s D cI cJ cZ h o h2 a a2 u v f9 H locs) (hi : i + 4 < L) (hl : lv_has ls 7 [(0, .ref b), (1, .ref h), (2, .ref h2), (3, .ref o), (4, .int (nI i))]) (hf : cells + 1 ≤ 1058 ∧ slots + 6 ≤ 9140)
    (kk : ∀ (u1 v1 : cp_M) (f1 : Nat → Int64) (H1 : Heap) (locs1 : List Loc) (ls1 : Array Slot), lw_S s D cI cJ cZ h o h2 a a2 u1 v1 f1 H1 locs1 → lv_has ls1 7 [(0, .ref b), (1, .ref h), (2, .ref h2), (3, .ref o), (4, .int (nI i))] → W p l e room_1 s m #[Value.ref b] below meth c H1 locs1 (cells + 1) (slots + 6) Q (F0 m 1252 ls1 [])) :
    W p l e room_1 s m #[Value.ref b] below meth c H locs cells slots Q (F0 m 229 ls []) := by
  obtain ⟨hx, hb, hr, hml, hown, hts0, hX, hbl, hlocks, hgv⟩ := C0
  have hown : s.vm.findClass RL = some m.cls := hown
  have hA : ∀ q : Nat, s.heap.size ≤ q → (fun q : Nat => s.heap.size ≤ q) q := fun _ h => h
  have hbA : ¬ (fun q : Nat => s.heap.size ≤ q) b := Nat.not_le.mpr hbl
  have hts : ∀ w ∈ wsL_law, w.before #[Value.ref b] s = true := fun w h => hts0 w (wsL_law_in w h)
  obtain ⟨hK, hZ⟩ := hT
  obtain ⟨hR, hV, hI⟩ := hS
  have hV9 := lw_hV hV
  have hR9 := lw_hR hR hV
  refine lv_aload_n hx hb dL_law_229 rfl (lv_at hl 1 rfl) ?_
  refine lv_aload_n hx hb dL_law_230 rfl (lv_at hl 0 rfl) ?_
  refine lv_iload hx hb dL_law_231 (lv_at hl 4 rfl) ?_
  refine lv_iconst (v := 1) hx hb dL_law_233 (by decide) ?_
  refine lv_iadd hx hb dL_law_234 ?_
  refine va_sld hx hb hX hbl hbA hI.2.2 (lw_in (k := 1) rfl (by omega) hL) dL_law_235 ?_
  refine lv_aload_n hx hb dL_law_236 rfl (lv_at hl 3 rfl) ?_
  refine cp_cLi (As := [.ref h, .int (xs (nI i + 1).toNatClampNeg), .ref o]) (rest := []) ⟨hx, hb, hml, hown, hts⟩ (c_L_pages l hst D cI cJ h a o u f9 (xs (nI i + 1).toNatClampNeg) hV9.1) (vx_cwSW 3 hts gL_law_L_pages rfl rfl rfl (by decide +kernel) ⟨Nat.le_of_ble_eq_true rfl, Nat.le_of_ble_eq_true rfl⟩) (hK.sub [0, 1] rfl) hI hA hZ rfl hl.1 rfl (Nat.le_of_ble_eq_true rfl) dL_law_237 hf (fun k u1 f1 H locs hp hI => ?_)
  refine lv_istore (lv' := [(5, .int k), (0, .ref b), (1, .ref h), (2, .ref h2), (3, .ref o), (4, .int (nI i))]) hx hb dL_law_240 hl (by decide) rfl (fun ls hl => ?_)
  have hI := cp_swap hI
  refine lv_aload_n hx hb dL_law_242 rfl (lv_at hl 3 rfl) ?_
  refine lv_aload_n hx hb dL_law_243 rfl (lv_at hl 1 rfl) ?_
  refine lv_iload hx hb dL_law_244 (lv_at hl 5 rfl) ?_
  refine lv_iconst (v := 1) hx hb dL_law_246 (by decide) ?_
  refine lv_iadd hx hb dL_law_247 ?_
  refine va_sld hx hb hX hbl hbA hI.2.2 (lw_in (k := 1) rfl (by omega) hL) dL_law_248 ?_
  refine cp_cVi (wc := cp_wY cI cZ h2 a2) (u := v) (wr := cp_wX cI h a u1 ++ cp_wO cJ o f1) (As := [.int (xs (nI i + 1).toNatClampNeg)]) (rest := []) ⟨hx, hb, hml, hown, hts⟩ (c_X1_pages l D cI cZ h2 a2 v (xs (nI i + 1).toNatClampNeg) hR9.1 hR9.2.2.2.2.1) (cwV 1 hts gL_law_X1_pages rfl rfl rfl (by decide +kernel) ⟨Nat.le_of_ble_eq_true rfl, Nat.le_of_ble_eq_true rfl⟩) (hK.sub [0, 2] rfl) hI hA ⟨_, cp_hY _ _ _ _ _⟩ rfl rfl rfl hl.1 rfl (Nat.le_of_ble_eq_true rfl) dL_law_249 ⟨hf.1, hf.2⟩ (fun b9 v1 H locs hq hI => ?_)
  refine lv_istore (lv' := [(6, .int b9), (5, .int k), (0, .ref b), (1, .ref h), (2, .ref h2), (3, .ref o), (4, .int (nI i))]) hx hb dL_law_252 hl (by decide) rfl (fun ls hl => ?_)
  refine lv_aload_n hx hb dL_law_254 rfl (lv_at hl 4 rfl) ?_
  refine cp_cVi (wc := cp_wY cI cZ h2 a2) (u := v1) (wr := cp_wX cI h a u1 ++ cp_wO cJ o f1) (As := []) (rest := []) ⟨hx, hb, hml, hown, hts⟩ (c_X1_thrown l D cI cZ h2 a2 v1 ) (cwV 0 hts gL_law_X1_thrown rfl rfl rfl (by decide +kernel) ⟨Nat.le_of_ble_eq_true rfl, Nat.le_of_ble_eq_true rfl⟩) (hK.sub [0, 2] rfl) hI hA ⟨_, cp_hY _ _ _ _ _⟩ rfl rfl rfl hl.1 rfl (Nat.le_of_ble_eq_true rfl) dL_law_255 ⟨hf.1, hf.2⟩ (fun k9 v2 H locs hq2 hI2 => ?_)
  obtain ⟨rfl, rfl⟩ := hq2
  obtain ⟨o1, o2, o3, o4⟩ := cp_s_pages hR hV hp hq
  have hI := cp_swap hI2
  refine lv_iload hx hb dL_law_258 (lv_at hl 1 rfl) ?_
  refine lv_icmp_eq (tgt := 265) hx hb dL_law_260 (by decide) (fun _ => ?_) (fun c => absurd o1 c)
  refine lv_iload hx hb dL_law_265 (lv_at hl 1 rfl) ?_
  refine lv_if_ne (tgt := 282) hx hb dL_law_267 (by decide) (fun _ => ?_) (fun k0 => ?_)
  · refine lv_goto (tgt := 1252) hx hb dL_law_282 (by decide) ?_
    exact kk u1 v2 f1 H locs ls ⟨o3, o4, hI⟩ (lv_sub hl [2, 3, 4, 5, 6] rfl)
  · have k0 : k = 0 := by first | exact k0 | exact Classical.not_not.mp k0
    refine lv_aload_n hx hb dL_law_270 rfl (lv_at hl 5 rfl) ?_
    refine lv_iconst (v := 0) hx hb dL_law_271 (by decide) ?_
    refine va_lald (D := D) hx hb hK hI.1 15 1 (cA := cJ) (n := 1) (f := f1) rfl rfl (vp_in_nI (n := 0) (by decide) (by decide)) dL_law_272 ?_
    have o9 : f1 (Int32.toNatClampNeg 0) = b9.toInt64 := o2 k0
    refine lv_iload hx hb dL_law_273 (lv_at hl 0 rfl) ?_
    refine lv_i2l (v := b9.toInt64) hx hb dL_law_275 rfl ?_
    refine W.lcmp hx hb dL_law_276 ?_
    refine lv_if_eq (tgt := 282) hx hb dL_law_277 (by decide) (fun _ => ?_) (fun z => absurd (cp_lcmp0 (o9)) z)
    refine lv_goto (tgt := 1252) hx hb dL_law_282 (by decide) ?_
    exact kk u1 v2 f1 H locs ls ⟨o3, o4, hI⟩ (lv_sub hl [2, 3, 4, 5, 6] rfl)
set_option maxHeartbeats 4000000 in
set_option maxRecDepth 100000 in
theorem lo_pageOf {p : Program} {l : Launch} {e : Env} {s : State} {m : MethodId} {below : List Frame} {meth : Method} {c : Code} {b L : Nat} {xs : Nat → Int32} {D : va_G} {cI cJ cZ : ClassId} {h o h2 : Nat} {a a2 : Nat → Nat} {u v : cp_M} {f9 : Nat → Int64} {H : Heap} {locs : List Loc} {cells slots i : Nat} {Q : State → Prop} {ls : Array Slot}
    (hst : l.stackTraces = false) (hL : L ≤ 2560) (C0 : lw_At p s m meth c b L xs) (hT : lw_T s D cI cJ cZ) (hS : lw_S s D cI cJ cZ h o h2 a a2 u v f9 H locs) (hi : i + 4 < L) (hl : lv_has ls 7 [(0, .ref b), (1, .ref h), (2, .ref h2), (3, .ref o), (4, .int (nI i))]) (hf : cells + 1 ≤ 1058 ∧ slots + 6 ≤ 9140)
    (kk : ∀ (u1 v1 : cp_M) (f1 : Nat → Int64) (H1 : Heap) (locs1 : List Loc) (ls1 : Array Slot), lw_S s D cI cJ cZ h o h2 a a2 u1 v1 f1 H1 locs1 → lv_has ls1 7 [(0, .ref b), (1, .ref h), (2, .ref h2), (3, .ref o), (4, .int (nI i))] → W p l e room_1 s m #[Value.ref b] below meth c H1 locs1 (cells + 1) (slots + 6) Q (F0 m 1252 ls1 [])) :
    W p l e room_1 s m #[Value.ref b] below meth c H locs cells slots Q (F0 m 285 ls []) := by
  obtain ⟨hx, hb, hr, hml, hown, hts0, hX, hbl, hlocks, hgv⟩ := C0
  have hown : s.vm.findClass RL = some m.cls := hown
  have hA : ∀ q : Nat, s.heap.size ≤ q → (fun q : Nat => s.heap.size ≤ q) q := fun _ h => h
  have hbA : ¬ (fun q : Nat => s.heap.size ≤ q) b := Nat.not_le.mpr hbl
  have hts : ∀ w ∈ wsL_law, w.before #[Value.ref b] s = true := fun w h => hts0 w (wsL_law_in w h)
  obtain ⟨hK, hZ⟩ := hT
  obtain ⟨hR, hV, hI⟩ := hS
  have hV9 := lw_hV hV
  have hR9 := lw_hR hR hV
  refine lv_aload_n hx hb dL_law_285 rfl (lv_at hl 1 rfl) ?_
  refine lv_aload_n hx hb dL_law_286 rfl (lv_at hl 0 rfl) ?_
  refine lv_iload hx hb dL_law_287 (lv_at hl 4 rfl) ?_
  refine lv_iconst (v := 1) hx hb dL_law_289 (by decide) ?_
  refine lv_iadd hx hb dL_law_290 ?_
  refine va_sld hx hb hX hbl hbA hI.2.2 (lw_in (k := 1) rfl (by omega) hL) dL_law_291 ?_
  refine lv_aload_n hx hb dL_law_292 rfl (lv_at hl 0 rfl) ?_
  refine lv_iload hx hb dL_law_293 (lv_at hl 4 rfl) ?_
  refine lv_iconst (v := 2) hx hb dL_law_295 (by decide) ?_
  refine lv_iadd hx hb dL_law_296 ?_
  refine va_sld hx hb hX hbl hbA hI.2.2 (lw_in (k := 2) rfl (by omega) hL) dL_law_297 ?_
  refine lv_aload_n hx hb dL_law_298 rfl (lv_at hl 3 rfl) ?_
  refine cp_cLi (As := [.ref h, .int (xs (nI i + 1).toNatClampNeg), .int (xs (nI i + 2).toNatClampNeg), .ref o]) (rest := []) ⟨hx, hb, hml, hown, hts⟩ (c_L_pageOf l hst D cI cJ h a o u f9 (xs (nI i + 1).toNatClampNeg) (xs (nI i + 2).toNatClampNeg) hV9.1) (vx_cwSW 4 hts gL_law_L_pageOf rfl rfl rfl (by decide +kernel) ⟨Nat.le_of_ble_eq_true rfl, Nat.le_of_ble_eq_true rfl⟩) (hK.sub [0, 1] rfl) hI hA hZ rfl hl.1 rfl (Nat.le_of_ble_eq_true rfl) dL_law_299 hf (fun k u1 f1 H locs hp hI => ?_)
  refine lv_istore (lv' := [(5, .int k), (0, .ref b), (1, .ref h), (2, .ref h2), (3, .ref o), (4, .int (nI i))]) hx hb dL_law_302 hl (by decide) rfl (fun ls hl => ?_)
  have hI := cp_swap hI
  refine lv_aload_n hx hb dL_law_304 rfl (lv_at hl 3 rfl) ?_
  refine lv_aload_n hx hb dL_law_305 rfl (lv_at hl 1 rfl) ?_
  refine lv_iload hx hb dL_law_306 (lv_at hl 5 rfl) ?_
  refine lv_iconst (v := 1) hx hb dL_law_308 (by decide) ?_
  refine lv_iadd hx hb dL_law_309 ?_
  refine va_sld hx hb hX hbl hbA hI.2.2 (lw_in (k := 1) rfl (by omega) hL) dL_law_310 ?_
  refine lv_aload_n hx hb dL_law_311 rfl (lv_at hl 1 rfl) ?_
  refine lv_iload hx hb dL_law_312 (lv_at hl 5 rfl) ?_
  refine lv_iconst (v := 2) hx hb dL_law_314 (by decide) ?_
  refine lv_iadd hx hb dL_law_315 ?_
  refine va_sld hx hb hX hbl hbA hI.2.2 (lw_in (k := 2) rfl (by omega) hL) dL_law_316 ?_
  refine cp_cVi (wc := cp_wY cI cZ h2 a2) (u := v) (wr := cp_wX cI h a u1 ++ cp_wO cJ o f1) (As := [.int (xs (nI i + 1).toNatClampNeg), .int (xs (nI i + 2).toNatClampNeg)]) (rest := []) ⟨hx, hb, hml, hown, hts⟩ (c_X1_pageOf l D cI cZ h2 a2 v (xs (nI i + 1).toNatClampNeg) (xs (nI i + 2).toNatClampNeg) hR9.1 hR9.2.2.2.2.1) (cwV 2 hts gL_law_X1_pageOf rfl rfl rfl (by decide +kernel) ⟨Nat.le_of_ble_eq_true rfl, Nat.le_of_ble_eq_true rfl⟩) (hK.sub [0, 2] rfl) hI hA ⟨_, cp_hY _ _ _ _ _⟩ rfl rfl rfl hl.1 rfl (Nat.le_of_ble_eq_true rfl) dL_law_317 ⟨hf.1, hf.2⟩ (fun b9 v1 H locs hq hI => ?_)
  refine lv_istore (lv' := [(6, .int b9), (5, .int k), (0, .ref b), (1, .ref h), (2, .ref h2), (3, .ref o), (4, .int (nI i))]) hx hb dL_law_320 hl (by decide) rfl (fun ls hl => ?_)
  refine lv_aload_n hx hb dL_law_322 rfl (lv_at hl 4 rfl) ?_
  refine cp_cVi (wc := cp_wY cI cZ h2 a2) (u := v1) (wr := cp_wX cI h a u1 ++ cp_wO cJ o f1) (As := []) (rest := []) ⟨hx, hb, hml, hown, hts⟩ (c_X1_thrown l D cI cZ h2 a2 v1 ) (cwV 0 hts gL_law_X1_thrown rfl rfl rfl (by decide +kernel) ⟨Nat.le_of_ble_eq_true rfl, Nat.le_of_ble_eq_true rfl⟩) (hK.sub [0, 2] rfl) hI hA ⟨_, cp_hY _ _ _ _ _⟩ rfl rfl rfl hl.1 rfl (Nat.le_of_ble_eq_true rfl) dL_law_323 ⟨hf.1, hf.2⟩ (fun k9 v2 H locs hq2 hI2 => ?_)
  obtain ⟨rfl, rfl⟩ := hq2
  obtain ⟨o1, o2, o3, o4⟩ := cp_s_pageOf hR hV hp hq
  have hI := cp_swap hI2
  refine lv_iload hx hb dL_law_326 (lv_at hl 1 rfl) ?_
  refine lv_icmp_eq (tgt := 333) hx hb dL_law_328 (by decide) (fun _ => ?_) (fun c => absurd o1 c)
  refine lv_iload hx hb dL_law_333 (lv_at hl 1 rfl) ?_
  refine lv_if_ne (tgt := 350) hx hb dL_law_335 (by decide) (fun _ => ?_) (fun k0 => ?_)
  · refine lv_goto (tgt := 1252) hx hb dL_law_350 (by decide) ?_
    exact kk u1 v2 f1 H locs ls ⟨o3, o4, hI⟩ (lv_sub hl [2, 3, 4, 5, 6] rfl)
  · have k0 : k = 0 := by first | exact k0 | exact Classical.not_not.mp k0
    refine lv_aload_n hx hb dL_law_338 rfl (lv_at hl 5 rfl) ?_
    refine lv_iconst (v := 0) hx hb dL_law_339 (by decide) ?_
    refine va_lald (D := D) hx hb hK hI.1 15 1 (cA := cJ) (n := 1) (f := f1) rfl rfl (vp_in_nI (n := 0) (by decide) (by decide)) dL_law_340 ?_
    have o9 : f1 (Int32.toNatClampNeg 0) = b9.toInt64 := o2 k0
    refine lv_iload hx hb dL_law_341 (lv_at hl 0 rfl) ?_
    refine lv_i2l (v := b9.toInt64) hx hb dL_law_343 rfl ?_
    refine W.lcmp hx hb dL_law_344 ?_
    refine lv_if_eq (tgt := 350) hx hb dL_law_345 (by decide) (fun _ => ?_) (fun z => absurd (cp_lcmp0 (o9)) z)
    refine lv_goto (tgt := 1252) hx hb dL_law_350 (by decide) ?_
    exact kk u1 v2 f1 H locs ls ⟨o3, o4, hI⟩ (lv_sub hl [2, 3, 4, 5, 6] rfl)
set_option maxHeartbeats 4000000 in
set_option maxRecDepth 100000 in
theorem lo_badTurns {p : Program} {l : Launch} {e : Env} {s : State} {m : MethodId} {below : List Frame} {meth : Method} {c : Code} {b L : Nat} {xs : Nat → Int32} {D : va_G} {cI cJ cZ : ClassId} {h o h2 : Nat} {a a2 : Nat → Nat} {u v : cp_M} {f9 : Nat → Int64} {H : Heap} {locs : List Loc} {cells slots i : Nat} {Q : State → Prop} {ls : Array Slot}
    (hst : l.stackTraces = false) (hL : L ≤ 2560) (C0 : lw_At p s m meth c b L xs) (hT : lw_T s D cI cJ cZ) (hS : lw_S s D cI cJ cZ h o h2 a a2 u v f9 H locs) (hi : i + 4 < L) (hl : lv_has ls 7 [(0, .ref b), (1, .ref h), (2, .ref h2), (3, .ref o), (4, .int (nI i))]) (hf : cells + 1 ≤ 1058 ∧ slots + 6 ≤ 9140)
    (kk : ∀ (u1 v1 : cp_M) (f1 : Nat → Int64) (H1 : Heap) (locs1 : List Loc) (ls1 : Array Slot), lw_S s D cI cJ cZ h o h2 a a2 u1 v1 f1 H1 locs1 → lv_has ls1 7 [(0, .ref b), (1, .ref h), (2, .ref h2), (3, .ref o), (4, .int (nI i))] → W p l e room_1 s m #[Value.ref b] below meth c H1 locs1 (cells + 1) (slots + 6) Q (F0 m 1252 ls1 [])) :
    W p l e room_1 s m #[Value.ref b] below meth c H locs cells slots Q (F0 m 353 ls []) := by
  obtain ⟨hx, hb, hr, hml, hown, hts0, hX, hbl, hlocks, hgv⟩ := C0
  have hown : s.vm.findClass RL = some m.cls := hown
  have hA : ∀ q : Nat, s.heap.size ≤ q → (fun q : Nat => s.heap.size ≤ q) q := fun _ h => h
  have hbA : ¬ (fun q : Nat => s.heap.size ≤ q) b := Nat.not_le.mpr hbl
  have hts : ∀ w ∈ wsL_law, w.before #[Value.ref b] s = true := fun w h => hts0 w (wsL_law_in w h)
  obtain ⟨hK, hZ⟩ := hT
  obtain ⟨hR, hV, hI⟩ := hS
  have hV9 := lw_hV hV
  have hR9 := lw_hR hR hV
  refine lv_aload_n hx hb dL_law_353 rfl (lv_at hl 1 rfl) ?_
  refine lv_aload_n hx hb dL_law_354 rfl (lv_at hl 0 rfl) ?_
  refine lv_iload hx hb dL_law_355 (lv_at hl 4 rfl) ?_
  refine lv_iconst (v := 1) hx hb dL_law_357 (by decide) ?_
  refine lv_iadd hx hb dL_law_358 ?_
  refine va_sld hx hb hX hbl hbA hI.2.2 (lw_in (k := 1) rfl (by omega) hL) dL_law_359 ?_
  refine lv_aload_n hx hb dL_law_360 rfl (lv_at hl 3 rfl) ?_
  refine cp_cLi (As := [.ref h, .int (xs (nI i + 1).toNatClampNeg), .ref o]) (rest := []) ⟨hx, hb, hml, hown, hts⟩ (c_L_badTurns l hst D cI cJ h a o u f9 (xs (nI i + 1).toNatClampNeg) hV9.1) (vx_cwSW 3 hts gL_law_L_badTurns rfl rfl rfl (by decide +kernel) ⟨Nat.le_of_ble_eq_true rfl, Nat.le_of_ble_eq_true rfl⟩) (hK.sub [0, 1] rfl) hI hA hZ rfl hl.1 rfl (Nat.le_of_ble_eq_true rfl) dL_law_361 hf (fun k u1 f1 H locs hp hI => ?_)
  refine lv_istore (lv' := [(5, .int k), (0, .ref b), (1, .ref h), (2, .ref h2), (3, .ref o), (4, .int (nI i))]) hx hb dL_law_364 hl (by decide) rfl (fun ls hl => ?_)
  have hI := cp_swap hI
  refine lv_aload_n hx hb dL_law_366 rfl (lv_at hl 3 rfl) ?_
  refine lv_aload_n hx hb dL_law_367 rfl (lv_at hl 1 rfl) ?_
  refine lv_iload hx hb dL_law_368 (lv_at hl 5 rfl) ?_
  refine lv_iconst (v := 1) hx hb dL_law_370 (by decide) ?_
  refine lv_iadd hx hb dL_law_371 ?_
  refine va_sld hx hb hX hbl hbA hI.2.2 (lw_in (k := 1) rfl (by omega) hL) dL_law_372 ?_
  refine cp_cVi (wc := cp_wY cI cZ h2 a2) (u := v) (wr := cp_wX cI h a u1 ++ cp_wO cJ o f1) (As := [.int (xs (nI i + 1).toNatClampNeg)]) (rest := []) ⟨hx, hb, hml, hown, hts⟩ (c_X1_badTurns l D cI cZ h2 a2 v (xs (nI i + 1).toNatClampNeg) hR9.1 hR9.2.2.2.2.1) (cwV 1 hts gL_law_X1_badTurns rfl rfl rfl (by decide +kernel) ⟨Nat.le_of_ble_eq_true rfl, Nat.le_of_ble_eq_true rfl⟩) (hK.sub [0, 2] rfl) hI hA ⟨_, cp_hY _ _ _ _ _⟩ rfl rfl rfl hl.1 rfl (Nat.le_of_ble_eq_true rfl) dL_law_373 ⟨hf.1, hf.2⟩ (fun b9 v1 H locs hq hI => ?_)
  refine lv_istore (lv' := [(6, .int b9), (5, .int k), (0, .ref b), (1, .ref h), (2, .ref h2), (3, .ref o), (4, .int (nI i))]) hx hb dL_law_376 hl (by decide) rfl (fun ls hl => ?_)
  refine lv_aload_n hx hb dL_law_378 rfl (lv_at hl 4 rfl) ?_
  refine cp_cVi (wc := cp_wY cI cZ h2 a2) (u := v1) (wr := cp_wX cI h a u1 ++ cp_wO cJ o f1) (As := []) (rest := []) ⟨hx, hb, hml, hown, hts⟩ (c_X1_thrown l D cI cZ h2 a2 v1 ) (cwV 0 hts gL_law_X1_thrown rfl rfl rfl (by decide +kernel) ⟨Nat.le_of_ble_eq_true rfl, Nat.le_of_ble_eq_true rfl⟩) (hK.sub [0, 2] rfl) hI hA ⟨_, cp_hY _ _ _ _ _⟩ rfl rfl rfl hl.1 rfl (Nat.le_of_ble_eq_true rfl) dL_law_379 ⟨hf.1, hf.2⟩ (fun k9 v2 H locs hq2 hI2 => ?_)
  obtain ⟨rfl, rfl⟩ := hq2
  obtain ⟨o1, o2, o3, o4⟩ := cp_s_badTurns hR hV hp hq
  have hI := cp_swap hI2
  refine lv_iload hx hb dL_law_382 (lv_at hl 1 rfl) ?_
  refine lv_icmp_eq (tgt := 389) hx hb dL_law_384 (by decide) (fun _ => ?_) (fun c => absurd o1 c)
  refine lv_iload hx hb dL_law_389 (lv_at hl 1 rfl) ?_
  refine lv_if_ne (tgt := 406) hx hb dL_law_391 (by decide) (fun _ => ?_) (fun k0 => ?_)
  · refine lv_goto (tgt := 1252) hx hb dL_law_406 (by decide) ?_
    exact kk u1 v2 f1 H locs ls ⟨o3, o4, hI⟩ (lv_sub hl [2, 3, 4, 5, 6] rfl)
  · have k0 : k = 0 := by first | exact k0 | exact Classical.not_not.mp k0
    refine lv_aload_n hx hb dL_law_394 rfl (lv_at hl 5 rfl) ?_
    refine lv_iconst (v := 0) hx hb dL_law_395 (by decide) ?_
    refine va_lald (D := D) hx hb hK hI.1 15 1 (cA := cJ) (n := 1) (f := f1) rfl rfl (vp_in_nI (n := 0) (by decide) (by decide)) dL_law_396 ?_
    have o9 : f1 (Int32.toNatClampNeg 0) = b9.toInt64 := o2 k0
    refine lv_iload hx hb dL_law_397 (lv_at hl 0 rfl) ?_
    refine lv_i2l (v := b9.toInt64) hx hb dL_law_399 rfl ?_
    refine W.lcmp hx hb dL_law_400 ?_
    refine lv_if_eq (tgt := 406) hx hb dL_law_401 (by decide) (fun _ => ?_) (fun z => absurd (cp_lcmp0 (o9)) z)
    refine lv_goto (tgt := 1252) hx hb dL_law_406 (by decide) ?_
    exact kk u1 v2 f1 H locs ls ⟨o3, o4, hI⟩ (lv_sub hl [2, 3, 4, 5, 6] rfl)
set_option maxHeartbeats 4000000 in
set_option maxRecDepth 100000 in
theorem lo_right {p : Program} {l : Launch} {e : Env} {s : State} {m : MethodId} {below : List Frame} {meth : Method} {c : Code} {b L : Nat} {xs : Nat → Int32} {D : va_G} {cI cJ cZ : ClassId} {h o h2 : Nat} {a a2 : Nat → Nat} {u v : cp_M} {f9 : Nat → Int64} {H : Heap} {locs : List Loc} {cells slots i : Nat} {Q : State → Prop} {ls : Array Slot}
    (hst : l.stackTraces = false) (hL : L ≤ 2560) (C0 : lw_At p s m meth c b L xs) (hT : lw_T s D cI cJ cZ) (hS : lw_S s D cI cJ cZ h o h2 a a2 u v f9 H locs) (hi : i + 4 < L) (hl : lv_has ls 7 [(0, .ref b), (1, .ref h), (2, .ref h2), (3, .ref o), (4, .int (nI i))]) (hf : cells + 1 ≤ 1058 ∧ slots + 6 ≤ 9140)
    (kk : ∀ (u1 v1 : cp_M) (f1 : Nat → Int64) (H1 : Heap) (locs1 : List Loc) (ls1 : Array Slot), lw_S s D cI cJ cZ h o h2 a a2 u1 v1 f1 H1 locs1 → lv_has ls1 7 [(0, .ref b), (1, .ref h), (2, .ref h2), (3, .ref o), (4, .int (nI i))] → W p l e room_1 s m #[Value.ref b] below meth c H1 locs1 (cells + 1) (slots + 6) Q (F0 m 1252 ls1 [])) :
    W p l e room_1 s m #[Value.ref b] below meth c H locs cells slots Q (F0 m 409 ls []) := by
  obtain ⟨hx, hb, hr, hml, hown, hts0, hX, hbl, hlocks, hgv⟩ := C0
  have hown : s.vm.findClass RL = some m.cls := hown
  have hA : ∀ q : Nat, s.heap.size ≤ q → (fun q : Nat => s.heap.size ≤ q) q := fun _ h => h
  have hbA : ¬ (fun q : Nat => s.heap.size ≤ q) b := Nat.not_le.mpr hbl
  have hts : ∀ w ∈ wsL_law, w.before #[Value.ref b] s = true := fun w h => hts0 w (wsL_law_in w h)
  obtain ⟨hK, hZ⟩ := hT
  obtain ⟨hR, hV, hI⟩ := hS
  have hV9 := lw_hV hV
  have hR9 := lw_hR hR hV
  refine lv_aload_n hx hb dL_law_409 rfl (lv_at hl 1 rfl) ?_
  refine lv_aload_n hx hb dL_law_410 rfl (lv_at hl 0 rfl) ?_
  refine lv_iload hx hb dL_law_411 (lv_at hl 4 rfl) ?_
  refine lv_iconst (v := 1) hx hb dL_law_413 (by decide) ?_
  refine lv_iadd hx hb dL_law_414 ?_
  refine va_sld hx hb hX hbl hbA hI.2.2 (lw_in (k := 1) rfl (by omega) hL) dL_law_415 ?_
  refine lv_aload_n hx hb dL_law_416 rfl (lv_at hl 0 rfl) ?_
  refine lv_iload hx hb dL_law_417 (lv_at hl 4 rfl) ?_
  refine lv_iconst (v := 2) hx hb dL_law_419 (by decide) ?_
  refine lv_iadd hx hb dL_law_420 ?_
  refine va_sld hx hb hX hbl hbA hI.2.2 (lw_in (k := 2) rfl (by omega) hL) dL_law_421 ?_
  refine lv_aload_n hx hb dL_law_422 rfl (lv_at hl 0 rfl) ?_
  refine lv_iload hx hb dL_law_423 (lv_at hl 4 rfl) ?_
  refine lv_iconst (v := 3) hx hb dL_law_425 (by decide) ?_
  refine lv_iadd hx hb dL_law_426 ?_
  refine va_sld hx hb hX hbl hbA hI.2.2 (lw_in (k := 3) rfl (by omega) hL) dL_law_427 ?_
  refine lv_aload_n hx hb dL_law_428 rfl (lv_at hl 0 rfl) ?_
  refine lv_iload hx hb dL_law_429 (lv_at hl 4 rfl) ?_
  refine lv_iconst (v := 4) hx hb dL_law_431 (by decide) ?_
  refine lv_iadd hx hb dL_law_432 ?_
  refine va_sld hx hb hX hbl hbA hI.2.2 (lw_in (k := 4) rfl (by omega) hL) dL_law_433 ?_
  refine lv_aload_n hx hb dL_law_434 rfl (lv_at hl 3 rfl) ?_
  refine cp_cLi (As := [.ref h, .int (xs (nI i + 1).toNatClampNeg), .int (xs (nI i + 2).toNatClampNeg), .int (xs (nI i + 3).toNatClampNeg), .int (xs (nI i + 4).toNatClampNeg), .ref o]) (rest := []) ⟨hx, hb, hml, hown, hts⟩ (c_L_right l hst D cI cJ h a o u f9 (xs (nI i + 1).toNatClampNeg) (xs (nI i + 2).toNatClampNeg) (xs (nI i + 3).toNatClampNeg) (xs (nI i + 4).toNatClampNeg) hV9.2.1) (vx_cwSW 6 hts gL_law_L_right rfl rfl rfl (by decide +kernel) ⟨Nat.le_of_ble_eq_true rfl, Nat.le_of_ble_eq_true rfl⟩) (hK.sub [0, 1] rfl) hI hA hZ rfl hl.1 rfl (Nat.le_of_ble_eq_true rfl) dL_law_435 hf (fun k u1 f1 H locs hp hI => ?_)
  refine lv_istore (lv' := [(5, .int k), (0, .ref b), (1, .ref h), (2, .ref h2), (3, .ref o), (4, .int (nI i))]) hx hb dL_law_438 hl (by decide) rfl (fun ls hl => ?_)
  have hI := cp_swap hI
  refine lv_aload_n hx hb dL_law_440 rfl (lv_at hl 3 rfl) ?_
  refine lv_aload_n hx hb dL_law_441 rfl (lv_at hl 1 rfl) ?_
  refine lv_iload hx hb dL_law_442 (lv_at hl 5 rfl) ?_
  refine lv_iconst (v := 1) hx hb dL_law_444 (by decide) ?_
  refine lv_iadd hx hb dL_law_445 ?_
  refine va_sld hx hb hX hbl hbA hI.2.2 (lw_in (k := 1) rfl (by omega) hL) dL_law_446 ?_
  refine lv_aload_n hx hb dL_law_447 rfl (lv_at hl 1 rfl) ?_
  refine lv_iload hx hb dL_law_448 (lv_at hl 5 rfl) ?_
  refine lv_iconst (v := 2) hx hb dL_law_450 (by decide) ?_
  refine lv_iadd hx hb dL_law_451 ?_
  refine va_sld hx hb hX hbl hbA hI.2.2 (lw_in (k := 2) rfl (by omega) hL) dL_law_452 ?_
  refine lv_aload_n hx hb dL_law_453 rfl (lv_at hl 1 rfl) ?_
  refine lv_iload hx hb dL_law_454 (lv_at hl 5 rfl) ?_
  refine lv_iconst (v := 3) hx hb dL_law_456 (by decide) ?_
  refine lv_iadd hx hb dL_law_457 ?_
  refine va_sld hx hb hX hbl hbA hI.2.2 (lw_in (k := 3) rfl (by omega) hL) dL_law_458 ?_
  refine lv_aload_n hx hb dL_law_459 rfl (lv_at hl 1 rfl) ?_
  refine lv_iload hx hb dL_law_460 (lv_at hl 5 rfl) ?_
  refine lv_iconst (v := 4) hx hb dL_law_462 (by decide) ?_
  refine lv_iadd hx hb dL_law_463 ?_
  refine va_sld hx hb hX hbl hbA hI.2.2 (lw_in (k := 4) rfl (by omega) hL) dL_law_464 ?_
  refine cp_cVi (wc := cp_wY cI cZ h2 a2) (u := v) (wr := cp_wX cI h a u1 ++ cp_wO cJ o f1) (As := [.int (xs (nI i + 1).toNatClampNeg), .int (xs (nI i + 2).toNatClampNeg), .int (xs (nI i + 3).toNatClampNeg), .int (xs (nI i + 4).toNatClampNeg)]) (rest := []) ⟨hx, hb, hml, hown, hts⟩ (c_X1_right l D cI cZ h2 a2 v (xs (nI i + 1).toNatClampNeg) (xs (nI i + 2).toNatClampNeg) (xs (nI i + 3).toNatClampNeg) (xs (nI i + 4).toNatClampNeg) hR9.2.1) (cwV 4 hts gL_law_X1_right rfl rfl rfl (by decide +kernel) ⟨Nat.le_of_ble_eq_true rfl, Nat.le_of_ble_eq_true rfl⟩) (hK.sub [0, 2] rfl) hI hA ⟨_, cp_hY _ _ _ _ _⟩ rfl rfl rfl hl.1 rfl (Nat.le_of_ble_eq_true rfl) dL_law_465 ⟨hf.1, hf.2⟩ (fun b9 v1 H locs hq hI => ?_)
  refine lv_istore (lv' := [(6, .int b9), (5, .int k), (0, .ref b), (1, .ref h), (2, .ref h2), (3, .ref o), (4, .int (nI i))]) hx hb dL_law_468 hl (by decide) rfl (fun ls hl => ?_)
  refine lv_aload_n hx hb dL_law_470 rfl (lv_at hl 4 rfl) ?_
  refine cp_cVi (wc := cp_wY cI cZ h2 a2) (u := v1) (wr := cp_wX cI h a u1 ++ cp_wO cJ o f1) (As := []) (rest := []) ⟨hx, hb, hml, hown, hts⟩ (c_X1_thrown l D cI cZ h2 a2 v1 ) (cwV 0 hts gL_law_X1_thrown rfl rfl rfl (by decide +kernel) ⟨Nat.le_of_ble_eq_true rfl, Nat.le_of_ble_eq_true rfl⟩) (hK.sub [0, 2] rfl) hI hA ⟨_, cp_hY _ _ _ _ _⟩ rfl rfl rfl hl.1 rfl (Nat.le_of_ble_eq_true rfl) dL_law_471 ⟨hf.1, hf.2⟩ (fun k9 v2 H locs hq2 hI2 => ?_)
  obtain ⟨rfl, rfl⟩ := hq2
  obtain ⟨o1, o2, o3, o4⟩ := cp_s_right hR hV hp hq
  have hI := cp_swap hI2
  refine lv_iload hx hb dL_law_474 (lv_at hl 1 rfl) ?_
  refine lv_icmp_eq (tgt := 481) hx hb dL_law_476 (by decide) (fun _ => ?_) (fun c => absurd o1 c)
  refine lv_iload hx hb dL_law_481 (lv_at hl 1 rfl) ?_
  refine lv_if_ne (tgt := 498) hx hb dL_law_483 (by decide) (fun _ => ?_) (fun k0 => ?_)
  · refine lv_goto (tgt := 1252) hx hb dL_law_498 (by decide) ?_
    exact kk u1 v2 f1 H locs ls ⟨o3, o4, hI⟩ (lv_sub hl [2, 3, 4, 5, 6] rfl)
  · have k0 : k = 0 := by first | exact k0 | exact Classical.not_not.mp k0
    refine lv_aload_n hx hb dL_law_486 rfl (lv_at hl 5 rfl) ?_
    refine lv_iconst (v := 0) hx hb dL_law_487 (by decide) ?_
    refine va_lald (D := D) hx hb hK hI.1 15 1 (cA := cJ) (n := 1) (f := f1) rfl rfl (vp_in_nI (n := 0) (by decide) (by decide)) dL_law_488 ?_
    have o9 : f1 (Int32.toNatClampNeg 0) = b9.toInt64 := o2 k0
    refine lv_iload hx hb dL_law_489 (lv_at hl 0 rfl) ?_
    refine lv_i2l (v := b9.toInt64) hx hb dL_law_491 rfl ?_
    refine W.lcmp hx hb dL_law_492 ?_
    refine lv_if_eq (tgt := 498) hx hb dL_law_493 (by decide) (fun _ => ?_) (fun z => absurd (cp_lcmp0 (o9)) z)
    refine lv_goto (tgt := 1252) hx hb dL_law_498 (by decide) ?_
    exact kk u1 v2 f1 H locs ls ⟨o3, o4, hI⟩ (lv_sub hl [2, 3, 4, 5, 6] rfl)
set_option maxHeartbeats 4000000 in
set_option maxRecDepth 100000 in
theorem lo_end {p : Program} {l : Launch} {e : Env} {s : State} {m : MethodId} {below : List Frame} {meth : Method} {c : Code} {b L : Nat} {xs : Nat → Int32} {D : va_G} {cI cJ cZ : ClassId} {h o h2 : Nat} {a a2 : Nat → Nat} {u v : cp_M} {f9 : Nat → Int64} {H : Heap} {locs : List Loc} {cells slots i : Nat} {Q : State → Prop} {ls : Array Slot}
    (hst : l.stackTraces = false) (hL : L ≤ 2560) (C0 : lw_At p s m meth c b L xs) (hT : lw_T s D cI cJ cZ) (hS : lw_S s D cI cJ cZ h o h2 a a2 u v f9 H locs) (hi : i + 4 < L) (hl : lv_has ls 7 [(0, .ref b), (1, .ref h), (2, .ref h2), (3, .ref o), (4, .int (nI i))]) (hf : cells + 1 ≤ 1058 ∧ slots + 6 ≤ 9140)
    (kk : ∀ (u1 v1 : cp_M) (f1 : Nat → Int64) (H1 : Heap) (locs1 : List Loc) (ls1 : Array Slot), lw_S s D cI cJ cZ h o h2 a a2 u1 v1 f1 H1 locs1 → lv_has ls1 7 [(0, .ref b), (1, .ref h), (2, .ref h2), (3, .ref o), (4, .int (nI i))] → W p l e room_1 s m #[Value.ref b] below meth c H1 locs1 (cells + 1) (slots + 6) Q (F0 m 1252 ls1 [])) :
    W p l e room_1 s m #[Value.ref b] below meth c H locs cells slots Q (F0 m 501 ls []) := by
  obtain ⟨hx, hb, hr, hml, hown, hts0, hX, hbl, hlocks, hgv⟩ := C0
  have hown : s.vm.findClass RL = some m.cls := hown
  have hA : ∀ q : Nat, s.heap.size ≤ q → (fun q : Nat => s.heap.size ≤ q) q := fun _ h => h
  have hbA : ¬ (fun q : Nat => s.heap.size ≤ q) b := Nat.not_le.mpr hbl
  have hts : ∀ w ∈ wsL_law, w.before #[Value.ref b] s = true := fun w h => hts0 w (wsL_law_in w h)
  obtain ⟨hK, hZ⟩ := hT
  obtain ⟨hR, hV, hI⟩ := hS
  have hV9 := lw_hV hV
  have hR9 := lw_hR hR hV
  refine lv_aload_n hx hb dL_law_501 rfl (lv_at hl 1 rfl) ?_
  refine lv_aload_n hx hb dL_law_502 rfl (lv_at hl 0 rfl) ?_
  refine lv_iload hx hb dL_law_503 (lv_at hl 4 rfl) ?_
  refine lv_iconst (v := 1) hx hb dL_law_505 (by decide) ?_
  refine lv_iadd hx hb dL_law_506 ?_
  refine va_sld hx hb hX hbl hbA hI.2.2 (lw_in (k := 1) rfl (by omega) hL) dL_law_507 ?_
  refine lv_aload_n hx hb dL_law_508 rfl (lv_at hl 0 rfl) ?_
  refine lv_iload hx hb dL_law_509 (lv_at hl 4 rfl) ?_
  refine lv_iconst (v := 2) hx hb dL_law_511 (by decide) ?_
  refine lv_iadd hx hb dL_law_512 ?_
  refine va_sld hx hb hX hbl hbA hI.2.2 (lw_in (k := 2) rfl (by omega) hL) dL_law_513 ?_
  refine lv_aload_n hx hb dL_law_514 rfl (lv_at hl 3 rfl) ?_
  refine cp_cLi (As := [.ref h, .int (xs (nI i + 1).toNatClampNeg), .int (xs (nI i + 2).toNatClampNeg), .ref o]) (rest := []) ⟨hx, hb, hml, hown, hts⟩ (c_L_end l hst D cI cJ h a o u f9 (xs (nI i + 1).toNatClampNeg) (xs (nI i + 2).toNatClampNeg) hV9.1 hV9.2.1 hV9.2.2.1) (vx_cwSW 4 hts gL_law_L_end rfl rfl rfl (by decide +kernel) ⟨Nat.le_of_ble_eq_true rfl, Nat.le_of_ble_eq_true rfl⟩) (hK.sub [0, 1] rfl) hI hA hZ rfl hl.1 rfl (Nat.le_of_ble_eq_true rfl) dL_law_515 hf (fun k u1 f1 H locs hp hI => ?_)
  refine lv_istore (lv' := [(5, .int k), (0, .ref b), (1, .ref h), (2, .ref h2), (3, .ref o), (4, .int (nI i))]) hx hb dL_law_518 hl (by decide) rfl (fun ls hl => ?_)
  have hI := cp_swap hI
  refine lv_aload_n hx hb dL_law_520 rfl (lv_at hl 3 rfl) ?_
  refine lv_aload_n hx hb dL_law_521 rfl (lv_at hl 1 rfl) ?_
  refine lv_iload hx hb dL_law_522 (lv_at hl 5 rfl) ?_
  refine lv_iconst (v := 1) hx hb dL_law_524 (by decide) ?_
  refine lv_iadd hx hb dL_law_525 ?_
  refine va_sld hx hb hX hbl hbA hI.2.2 (lw_in (k := 1) rfl (by omega) hL) dL_law_526 ?_
  refine lv_aload_n hx hb dL_law_527 rfl (lv_at hl 1 rfl) ?_
  refine lv_iload hx hb dL_law_528 (lv_at hl 5 rfl) ?_
  refine lv_iconst (v := 2) hx hb dL_law_530 (by decide) ?_
  refine lv_iadd hx hb dL_law_531 ?_
  refine va_sld hx hb hX hbl hbA hI.2.2 (lw_in (k := 2) rfl (by omega) hL) dL_law_532 ?_
  refine cp_cVi (wc := cp_wY cI cZ h2 a2) (u := v) (wr := cp_wX cI h a u1 ++ cp_wO cJ o f1) (As := [.int (xs (nI i + 1).toNatClampNeg), .int (xs (nI i + 2).toNatClampNeg)]) (rest := []) ⟨hx, hb, hml, hown, hts⟩ (c_X1_end l D cI cZ h2 a2 v (xs (nI i + 1).toNatClampNeg) (xs (nI i + 2).toNatClampNeg) hR9.1 hR9.2.1 hR9.2.2.1 (fun k => (u 11 k).toNatClampNeg) (lw_cfR hR hV)) (cwV 2 hts gL_law_X1_end rfl rfl rfl (by decide +kernel) ⟨Nat.le_of_ble_eq_true rfl, Nat.le_of_ble_eq_true rfl⟩) (hK.sub [0, 2] rfl) hI hA ⟨_, cp_hY _ _ _ _ _⟩ rfl rfl rfl hl.1 rfl (Nat.le_of_ble_eq_true rfl) dL_law_533 ⟨hf.1, hf.2⟩ (fun b9 v1 H locs hq hI => ?_)
  refine lv_istore (lv' := [(6, .int b9), (5, .int k), (0, .ref b), (1, .ref h), (2, .ref h2), (3, .ref o), (4, .int (nI i))]) hx hb dL_law_536 hl (by decide) rfl (fun ls hl => ?_)
  refine lv_aload_n hx hb dL_law_538 rfl (lv_at hl 4 rfl) ?_
  refine cp_cVi (wc := cp_wY cI cZ h2 a2) (u := v1) (wr := cp_wX cI h a u1 ++ cp_wO cJ o f1) (As := []) (rest := []) ⟨hx, hb, hml, hown, hts⟩ (c_X1_thrown l D cI cZ h2 a2 v1 ) (cwV 0 hts gL_law_X1_thrown rfl rfl rfl (by decide +kernel) ⟨Nat.le_of_ble_eq_true rfl, Nat.le_of_ble_eq_true rfl⟩) (hK.sub [0, 2] rfl) hI hA ⟨_, cp_hY _ _ _ _ _⟩ rfl rfl rfl hl.1 rfl (Nat.le_of_ble_eq_true rfl) dL_law_539 ⟨hf.1, hf.2⟩ (fun k9 v2 H locs hq2 hI2 => ?_)
  obtain ⟨rfl, rfl⟩ := hq2
  obtain ⟨o1, o2, o3, o4⟩ := cp_s_end hR hV (lw_cf hV) hp hq
  have hI := cp_swap hI2
  refine lv_iload hx hb dL_law_542 (lv_at hl 1 rfl) ?_
  refine lv_icmp_eq (tgt := 549) hx hb dL_law_544 (by decide) (fun _ => ?_) (fun c => absurd o1 c)
  refine lv_iload hx hb dL_law_549 (lv_at hl 1 rfl) ?_
  refine lv_if_ne (tgt := 566) hx hb dL_law_551 (by decide) (fun _ => ?_) (fun k0 => ?_)
  · refine lv_goto (tgt := 1252) hx hb dL_law_566 (by decide) ?_
    exact kk u1 v2 f1 H locs ls ⟨o3, o4, hI⟩ (lv_sub hl [2, 3, 4, 5, 6] rfl)
  · have k0 : k = 0 := by first | exact k0 | exact Classical.not_not.mp k0
    refine lv_aload_n hx hb dL_law_554 rfl (lv_at hl 5 rfl) ?_
    refine lv_iconst (v := 0) hx hb dL_law_555 (by decide) ?_
    refine va_lald (D := D) hx hb hK hI.1 15 1 (cA := cJ) (n := 1) (f := f1) rfl rfl (vp_in_nI (n := 0) (by decide) (by decide)) dL_law_556 ?_
    have o9 : f1 (Int32.toNatClampNeg 0) = b9.toInt64 := o2 k0
    refine lv_iload hx hb dL_law_557 (lv_at hl 0 rfl) ?_
    refine lv_i2l (v := b9.toInt64) hx hb dL_law_559 rfl ?_
    refine W.lcmp hx hb dL_law_560 ?_
    refine lv_if_eq (tgt := 566) hx hb dL_law_561 (by decide) (fun _ => ?_) (fun z => absurd (cp_lcmp0 (o9)) z)
    refine lv_goto (tgt := 1252) hx hb dL_law_566 (by decide) ?_
    exact kk u1 v2 f1 H locs ls ⟨o3, o4, hI⟩ (lv_sub hl [2, 3, 4, 5, 6] rfl)
set_option maxHeartbeats 4000000 in
set_option maxRecDepth 100000 in
theorem lo_hasRight {p : Program} {l : Launch} {e : Env} {s : State} {m : MethodId} {below : List Frame} {meth : Method} {c : Code} {b L : Nat} {xs : Nat → Int32} {D : va_G} {cI cJ cZ : ClassId} {h o h2 : Nat} {a a2 : Nat → Nat} {u v : cp_M} {f9 : Nat → Int64} {H : Heap} {locs : List Loc} {cells slots i : Nat} {Q : State → Prop} {ls : Array Slot}
    (hst : l.stackTraces = false) (hL : L ≤ 2560) (C0 : lw_At p s m meth c b L xs) (hT : lw_T s D cI cJ cZ) (hS : lw_S s D cI cJ cZ h o h2 a a2 u v f9 H locs) (hi : i + 4 < L) (hl : lv_has ls 7 [(0, .ref b), (1, .ref h), (2, .ref h2), (3, .ref o), (4, .int (nI i))]) (hf : cells + 1 ≤ 1058 ∧ slots + 6 ≤ 9140)
    (kk : ∀ (u1 v1 : cp_M) (f1 : Nat → Int64) (H1 : Heap) (locs1 : List Loc) (ls1 : Array Slot), lw_S s D cI cJ cZ h o h2 a a2 u1 v1 f1 H1 locs1 → lv_has ls1 7 [(0, .ref b), (1, .ref h), (2, .ref h2), (3, .ref o), (4, .int (nI i))] → W p l e room_1 s m #[Value.ref b] below meth c H1 locs1 (cells + 1) (slots + 6) Q (F0 m 1252 ls1 [])) :
    W p l e room_1 s m #[Value.ref b] below meth c H locs cells slots Q (F0 m 569 ls []) := by
  obtain ⟨hx, hb, hr, hml, hown, hts0, hX, hbl, hlocks, hgv⟩ := C0
  have hown : s.vm.findClass RL = some m.cls := hown
  have hA : ∀ q : Nat, s.heap.size ≤ q → (fun q : Nat => s.heap.size ≤ q) q := fun _ h => h
  have hbA : ¬ (fun q : Nat => s.heap.size ≤ q) b := Nat.not_le.mpr hbl
  have hts : ∀ w ∈ wsL_law, w.before #[Value.ref b] s = true := fun w h => hts0 w (wsL_law_in w h)
  obtain ⟨hK, hZ⟩ := hT
  obtain ⟨hR, hV, hI⟩ := hS
  have hV9 := lw_hV hV
  have hR9 := lw_hR hR hV
  refine lv_aload_n hx hb dL_law_569 rfl (lv_at hl 1 rfl) ?_
  refine lv_aload_n hx hb dL_law_570 rfl (lv_at hl 0 rfl) ?_
  refine lv_iload hx hb dL_law_571 (lv_at hl 4 rfl) ?_
  refine lv_iconst (v := 1) hx hb dL_law_573 (by decide) ?_
  refine lv_iadd hx hb dL_law_574 ?_
  refine va_sld hx hb hX hbl hbA hI.2.2 (lw_in (k := 1) rfl (by omega) hL) dL_law_575 ?_
  refine lv_aload_n hx hb dL_law_576 rfl (lv_at hl 0 rfl) ?_
  refine lv_iload hx hb dL_law_577 (lv_at hl 4 rfl) ?_
  refine lv_iconst (v := 2) hx hb dL_law_579 (by decide) ?_
  refine lv_iadd hx hb dL_law_580 ?_
  refine va_sld hx hb hX hbl hbA hI.2.2 (lw_in (k := 2) rfl (by omega) hL) dL_law_581 ?_
  refine lv_aload_n hx hb dL_law_582 rfl (lv_at hl 0 rfl) ?_
  refine lv_iload hx hb dL_law_583 (lv_at hl 4 rfl) ?_
  refine lv_iconst (v := 3) hx hb dL_law_585 (by decide) ?_
  refine lv_iadd hx hb dL_law_586 ?_
  refine va_sld hx hb hX hbl hbA hI.2.2 (lw_in (k := 3) rfl (by omega) hL) dL_law_587 ?_
  refine lv_aload_n hx hb dL_law_588 rfl (lv_at hl 3 rfl) ?_
  refine cp_cLi (As := [.ref h, .int (xs (nI i + 1).toNatClampNeg), .int (xs (nI i + 2).toNatClampNeg), .int (xs (nI i + 3).toNatClampNeg), .ref o]) (rest := []) ⟨hx, hb, hml, hown, hts⟩ (c_L_hasRight l hst D cI cJ h a o u f9 (xs (nI i + 1).toNatClampNeg) (xs (nI i + 2).toNatClampNeg) (xs (nI i + 3).toNatClampNeg) hV9.2.1) (vx_cwSW 5 hts gL_law_L_hasRight rfl rfl rfl (by decide +kernel) ⟨Nat.le_of_ble_eq_true rfl, Nat.le_of_ble_eq_true rfl⟩) (hK.sub [0, 1] rfl) hI hA hZ rfl hl.1 rfl (Nat.le_of_ble_eq_true rfl) dL_law_589 hf (fun k u1 f1 H locs hp hI => ?_)
  refine lv_istore (lv' := [(5, .int k), (0, .ref b), (1, .ref h), (2, .ref h2), (3, .ref o), (4, .int (nI i))]) hx hb dL_law_592 hl (by decide) rfl (fun ls hl => ?_)
  have hI := cp_swap hI
  refine lv_aload_n hx hb dL_law_594 rfl (lv_at hl 3 rfl) ?_
  refine lv_aload_n hx hb dL_law_595 rfl (lv_at hl 1 rfl) ?_
  refine lv_iload hx hb dL_law_596 (lv_at hl 5 rfl) ?_
  refine lv_iconst (v := 1) hx hb dL_law_598 (by decide) ?_
  refine lv_iadd hx hb dL_law_599 ?_
  refine va_sld hx hb hX hbl hbA hI.2.2 (lw_in (k := 1) rfl (by omega) hL) dL_law_600 ?_
  refine lv_aload_n hx hb dL_law_601 rfl (lv_at hl 1 rfl) ?_
  refine lv_iload hx hb dL_law_602 (lv_at hl 5 rfl) ?_
  refine lv_iconst (v := 2) hx hb dL_law_604 (by decide) ?_
  refine lv_iadd hx hb dL_law_605 ?_
  refine va_sld hx hb hX hbl hbA hI.2.2 (lw_in (k := 2) rfl (by omega) hL) dL_law_606 ?_
  refine lv_aload_n hx hb dL_law_607 rfl (lv_at hl 1 rfl) ?_
  refine lv_iload hx hb dL_law_608 (lv_at hl 5 rfl) ?_
  refine lv_iconst (v := 3) hx hb dL_law_610 (by decide) ?_
  refine lv_iadd hx hb dL_law_611 ?_
  refine va_sld hx hb hX hbl hbA hI.2.2 (lw_in (k := 3) rfl (by omega) hL) dL_law_612 ?_
  refine cp_cVi (wc := cp_wY cI cZ h2 a2) (u := v) (wr := cp_wX cI h a u1 ++ cp_wO cJ o f1) (As := [.int (xs (nI i + 1).toNatClampNeg), .int (xs (nI i + 2).toNatClampNeg), .int (xs (nI i + 3).toNatClampNeg)]) (rest := []) ⟨hx, hb, hml, hown, hts⟩ (c_X1_hasRight l D cI cZ h2 a2 v (xs (nI i + 1).toNatClampNeg) (xs (nI i + 2).toNatClampNeg) (xs (nI i + 3).toNatClampNeg) hR9.2.1) (cwV 3 hts gL_law_X1_hasRight rfl rfl rfl (by decide +kernel) ⟨Nat.le_of_ble_eq_true rfl, Nat.le_of_ble_eq_true rfl⟩) (hK.sub [0, 2] rfl) hI hA ⟨_, cp_hY _ _ _ _ _⟩ rfl rfl rfl hl.1 rfl (Nat.le_of_ble_eq_true rfl) dL_law_613 ⟨hf.1, hf.2⟩ (fun b9 v1 H locs hq hI => ?_)
  refine lv_istore (lv' := [(6, .int b9), (5, .int k), (0, .ref b), (1, .ref h), (2, .ref h2), (3, .ref o), (4, .int (nI i))]) hx hb dL_law_616 hl (by decide) rfl (fun ls hl => ?_)
  refine lv_aload_n hx hb dL_law_618 rfl (lv_at hl 4 rfl) ?_
  refine cp_cVi (wc := cp_wY cI cZ h2 a2) (u := v1) (wr := cp_wX cI h a u1 ++ cp_wO cJ o f1) (As := []) (rest := []) ⟨hx, hb, hml, hown, hts⟩ (c_X1_thrown l D cI cZ h2 a2 v1 ) (cwV 0 hts gL_law_X1_thrown rfl rfl rfl (by decide +kernel) ⟨Nat.le_of_ble_eq_true rfl, Nat.le_of_ble_eq_true rfl⟩) (hK.sub [0, 2] rfl) hI hA ⟨_, cp_hY _ _ _ _ _⟩ rfl rfl rfl hl.1 rfl (Nat.le_of_ble_eq_true rfl) dL_law_619 ⟨hf.1, hf.2⟩ (fun k9 v2 H locs hq2 hI2 => ?_)
  obtain ⟨rfl, rfl⟩ := hq2
  obtain ⟨o1, o2, o3, o4⟩ := cp_s_hasRight hR hV hp hq
  have hI := cp_swap hI2
  refine lv_iload hx hb dL_law_622 (lv_at hl 1 rfl) ?_
  refine lv_icmp_eq (tgt := 629) hx hb dL_law_624 (by decide) (fun _ => ?_) (fun c => absurd o1 c)
  refine lv_iload hx hb dL_law_629 (lv_at hl 1 rfl) ?_
  refine lv_if_ne (tgt := 653) hx hb dL_law_631 (by decide) (fun _ => ?_) (fun k0 => ?_)
  · refine lv_goto (tgt := 1252) hx hb dL_law_653 (by decide) ?_
    exact kk u1 v2 f1 H locs ls ⟨o3, o4, hI⟩ (lv_sub hl [2, 3, 4, 5, 6] rfl)
  · have k0 : k = 0 := by first | exact k0 | exact Classical.not_not.mp k0
    refine lv_aload_n hx hb dL_law_634 rfl (lv_at hl 5 rfl) ?_
    refine lv_iconst (v := 0) hx hb dL_law_635 (by decide) ?_
    refine va_lald (D := D) hx hb hK hI.1 15 1 (cA := cJ) (n := 1) (f := f1) rfl rfl (vp_in_nI (n := 0) (by decide) (by decide)) dL_law_636 ?_
    have o9 : f1 (Int32.toNatClampNeg 0) = b9.toInt64 := o2 k0
    refine lv_iload hx hb dL_law_637 (lv_at hl 0 rfl) ?_
    have h01 : b9 = 0 ∨ b9 = 1 := by
      have e1 : v2 14 4 ≠ 1 := fun z => absurd (z.symm.trans (o1.trans k0)) (by decide)
      have e2 : v2 14 4 ≠ 2 := fun z => absurd (z.symm.trans (o1.trans k0)) (by decide)
      rcases hq with ⟨_, e⟩ | ⟨_, _, e⟩ | ⟨_, _, e, _⟩
      · exact absurd (by rw [e]; rfl) e1
      · exact absurd (by rw [e]; rfl) e2
      · exact cp_b01 e
    refine lv_if_eq (tgt := 646) hx hb dL_law_639 (by decide) (fun c => ?_) (fun c => ?_)
    · have c : b9 = 0 := c
      refine lv_lconst (v := 0) hx hb dL_law_646 (by decide) ?_
      refine W.lcmp hx hb dL_law_647 ?_
      refine lv_if_eq (tgt := 653) hx hb dL_law_648 (by decide) (fun _ => ?_) (fun z => absurd (cp_lcmp0 (o9.trans (by rw [c]; rfl))) z)
      refine lv_goto (tgt := 1252) hx hb dL_law_653 (by decide) ?_
      exact kk u1 v2 f1 H locs ls ⟨o3, o4, hI⟩ (lv_sub hl [2, 3, 4, 5, 6] rfl)
    · have c : b9 = 1 := h01.resolve_left c
      refine lv_lconst (v := 1) hx hb dL_law_642 (by decide) ?_
      refine lv_goto (tgt := 647) hx hb dL_law_643 (by decide) ?_
      refine W.lcmp hx hb dL_law_647 ?_
      refine lv_if_eq (tgt := 653) hx hb dL_law_648 (by decide) (fun _ => ?_) (fun z => absurd (cp_lcmp0 (o9.trans (by rw [c]; rfl))) z)
      refine lv_goto (tgt := 1252) hx hb dL_law_653 (by decide) ?_
      exact kk u1 v2 f1 H locs ls ⟨o3, o4, hI⟩ (lv_sub hl [2, 3, 4, 5, 6] rfl)
set_option maxHeartbeats 4000000 in
set_option maxRecDepth 100000 in
theorem lo_print {p : Program} {l : Launch} {e : Env} {s : State} {m : MethodId} {below : List Frame} {meth : Method} {c : Code} {b L : Nat} {xs : Nat → Int32} {D : va_G} {cI cJ cZ : ClassId} {h o h2 : Nat} {a a2 : Nat → Nat} {u v : cp_M} {f9 : Nat → Int64} {H : Heap} {locs : List Loc} {cells slots i : Nat} {Q : State → Prop} {ls : Array Slot}
    (hst : l.stackTraces = false) (hL : L ≤ 2560) (C0 : lw_At p s m meth c b L xs) (hT : lw_T s D cI cJ cZ) (hS : lw_S s D cI cJ cZ h o h2 a a2 u v f9 H locs) (hi : i + 4 < L) (hl : lv_has ls 7 [(0, .ref b), (1, .ref h), (2, .ref h2), (3, .ref o), (4, .int (nI i))]) (hf : cells + 1 ≤ 1058 ∧ slots + 6 ≤ 9140)
    (kk : ∀ (u1 v1 : cp_M) (f1 : Nat → Int64) (H1 : Heap) (locs1 : List Loc) (ls1 : Array Slot), lw_S s D cI cJ cZ h o h2 a a2 u1 v1 f1 H1 locs1 → lv_has ls1 7 [(0, .ref b), (1, .ref h), (2, .ref h2), (3, .ref o), (4, .int (nI i))] → W p l e room_1 s m #[Value.ref b] below meth c H1 locs1 (cells + 1) (slots + 6) Q (F0 m 1252 ls1 [])) :
    W p l e room_1 s m #[Value.ref b] below meth c H locs cells slots Q (F0 m 656 ls []) := by
  obtain ⟨hx, hb, hr, hml, hown, hts0, hX, hbl, hlocks, hgv⟩ := C0
  have hown : s.vm.findClass RL = some m.cls := hown
  have hA : ∀ q : Nat, s.heap.size ≤ q → (fun q : Nat => s.heap.size ≤ q) q := fun _ h => h
  have hbA : ¬ (fun q : Nat => s.heap.size ≤ q) b := Nat.not_le.mpr hbl
  have hts : ∀ w ∈ wsL_law, w.before #[Value.ref b] s = true := fun w h => hts0 w (wsL_law_in w h)
  obtain ⟨hK, hZ⟩ := hT
  obtain ⟨hR, hV, hI⟩ := hS
  have hV9 := lw_hV hV
  have hR9 := lw_hR hR hV
  refine lv_aload_n hx hb dL_law_656 rfl (lv_at hl 1 rfl) ?_
  refine lv_aload_n hx hb dL_law_657 rfl (lv_at hl 0 rfl) ?_
  refine lv_iload hx hb dL_law_658 (lv_at hl 4 rfl) ?_
  refine lv_iconst (v := 1) hx hb dL_law_660 (by decide) ?_
  refine lv_iadd hx hb dL_law_661 ?_
  refine va_sld hx hb hX hbl hbA hI.2.2 (lw_in (k := 1) rfl (by omega) hL) dL_law_662 ?_
  refine lv_aload_n hx hb dL_law_663 rfl (lv_at hl 0 rfl) ?_
  refine lv_iload hx hb dL_law_664 (lv_at hl 4 rfl) ?_
  refine lv_iconst (v := 2) hx hb dL_law_666 (by decide) ?_
  refine lv_iadd hx hb dL_law_667 ?_
  refine va_sld hx hb hX hbl hbA hI.2.2 (lw_in (k := 2) rfl (by omega) hL) dL_law_668 ?_
  refine lv_aload_n hx hb dL_law_669 rfl (lv_at hl 3 rfl) ?_
  refine cp_cLi (As := [.ref h, .int (xs (nI i + 1).toNatClampNeg), .int (xs (nI i + 2).toNatClampNeg), .ref o]) (rest := []) ⟨hx, hb, hml, hown, hts⟩ (c_L_print l hst D cI cJ h a o u f9 (xs (nI i + 1).toNatClampNeg) (xs (nI i + 2).toNatClampNeg) hV9.1 hV9.2.1 hV9.2.2.2.1) (vx_cwSW 4 hts gL_law_L_print rfl rfl rfl (by decide +kernel) ⟨Nat.le_of_ble_eq_true rfl, Nat.le_of_ble_eq_true rfl⟩) (hK.sub [0, 1] rfl) hI hA hZ rfl hl.1 rfl (Nat.le_of_ble_eq_true rfl) dL_law_670 hf (fun k u1 f1 H locs hp hI => ?_)
  refine lv_istore (lv' := [(5, .int k), (0, .ref b), (1, .ref h), (2, .ref h2), (3, .ref o), (4, .int (nI i))]) hx hb dL_law_673 hl (by decide) rfl (fun ls hl => ?_)
  have hI := cp_swap hI
  refine lv_aload_n hx hb dL_law_675 rfl (lv_at hl 3 rfl) ?_
  refine lv_aload_n hx hb dL_law_676 rfl (lv_at hl 1 rfl) ?_
  refine lv_iload hx hb dL_law_677 (lv_at hl 5 rfl) ?_
  refine lv_iconst (v := 1) hx hb dL_law_679 (by decide) ?_
  refine lv_iadd hx hb dL_law_680 ?_
  refine va_sld hx hb hX hbl hbA hI.2.2 (lw_in (k := 1) rfl (by omega) hL) dL_law_681 ?_
  refine lv_aload_n hx hb dL_law_682 rfl (lv_at hl 1 rfl) ?_
  refine lv_iload hx hb dL_law_683 (lv_at hl 5 rfl) ?_
  refine lv_iconst (v := 2) hx hb dL_law_685 (by decide) ?_
  refine lv_iadd hx hb dL_law_686 ?_
  refine va_sld hx hb hX hbl hbA hI.2.2 (lw_in (k := 2) rfl (by omega) hL) dL_law_687 ?_
  refine cp_cVi (wc := cp_wY cI cZ h2 a2) (u := v) (wr := cp_wX cI h a u1 ++ cp_wO cJ o f1) (As := [.int (xs (nI i + 1).toNatClampNeg), .int (xs (nI i + 2).toNatClampNeg)]) (rest := []) ⟨hx, hb, hml, hown, hts⟩ (c_X1_print l D cI cZ h2 a2 v (xs (nI i + 1).toNatClampNeg) (xs (nI i + 2).toNatClampNeg) hR9.1 hR9.2.1 hR9.2.2.2.2.1 hR9.2.2.2.1) (cwV 2 hts gL_law_X1_print rfl rfl rfl (by decide +kernel) ⟨Nat.le_of_ble_eq_true rfl, Nat.le_of_ble_eq_true rfl⟩) (hK.sub [0, 2] rfl) hI hA ⟨_, cp_hY _ _ _ _ _⟩ rfl rfl rfl hl.1 rfl (Nat.le_of_ble_eq_true rfl) dL_law_688 ⟨hf.1, hf.2⟩ (fun b9 v1 H locs hq hI => ?_)
  refine lv_istore (lv' := [(6, .int b9), (5, .int k), (0, .ref b), (1, .ref h), (2, .ref h2), (3, .ref o), (4, .int (nI i))]) hx hb dL_law_691 hl (by decide) rfl (fun ls hl => ?_)
  refine lv_aload_n hx hb dL_law_693 rfl (lv_at hl 4 rfl) ?_
  refine cp_cVi (wc := cp_wY cI cZ h2 a2) (u := v1) (wr := cp_wX cI h a u1 ++ cp_wO cJ o f1) (As := []) (rest := []) ⟨hx, hb, hml, hown, hts⟩ (c_X1_thrown l D cI cZ h2 a2 v1 ) (cwV 0 hts gL_law_X1_thrown rfl rfl rfl (by decide +kernel) ⟨Nat.le_of_ble_eq_true rfl, Nat.le_of_ble_eq_true rfl⟩) (hK.sub [0, 2] rfl) hI hA ⟨_, cp_hY _ _ _ _ _⟩ rfl rfl rfl hl.1 rfl (Nat.le_of_ble_eq_true rfl) dL_law_694 ⟨hf.1, hf.2⟩ (fun k9 v2 H locs hq2 hI2 => ?_)
  obtain ⟨rfl, rfl⟩ := hq2
  obtain ⟨o1, o2, o3, o4⟩ := cp_s_print hR hV hp hq
  have hI := cp_swap hI2
  refine lv_iload hx hb dL_law_697 (lv_at hl 1 rfl) ?_
  refine lv_icmp_eq (tgt := 704) hx hb dL_law_699 (by decide) (fun _ => ?_) (fun c => absurd o1 c)
  refine lv_iload hx hb dL_law_704 (lv_at hl 1 rfl) ?_
  refine lv_if_ne (tgt := 721) hx hb dL_law_706 (by decide) (fun _ => ?_) (fun k0 => ?_)
  · refine lv_goto (tgt := 1252) hx hb dL_law_721 (by decide) ?_
    exact kk u1 v2 f1 H locs ls ⟨o3, o4, hI⟩ (lv_sub hl [2, 3, 4, 5, 6] rfl)
  · have k0 : k = 0 := by first | exact k0 | exact Classical.not_not.mp k0
    refine lv_aload_n hx hb dL_law_709 rfl (lv_at hl 5 rfl) ?_
    refine lv_iconst (v := 0) hx hb dL_law_710 (by decide) ?_
    refine va_lald (D := D) hx hb hK hI.1 15 1 (cA := cJ) (n := 1) (f := f1) rfl rfl (vp_in_nI (n := 0) (by decide) (by decide)) dL_law_711 ?_
    have o9 : f1 (Int32.toNatClampNeg 0) = b9.toInt64 := o2 k0
    refine lv_iload hx hb dL_law_712 (lv_at hl 0 rfl) ?_
    refine lv_i2l (v := b9.toInt64) hx hb dL_law_714 rfl ?_
    refine W.lcmp hx hb dL_law_715 ?_
    refine lv_if_eq (tgt := 721) hx hb dL_law_716 (by decide) (fun _ => ?_) (fun z => absurd (cp_lcmp0 (o9)) z)
    refine lv_goto (tgt := 1252) hx hb dL_law_721 (by decide) ?_
    exact kk u1 v2 f1 H locs ls ⟨o3, o4, hI⟩ (lv_sub hl [2, 3, 4, 5, 6] rfl)
set_option maxHeartbeats 4000000 in
set_option maxRecDepth 100000 in
theorem lo_printed {p : Program} {l : Launch} {e : Env} {s : State} {m : MethodId} {below : List Frame} {meth : Method} {c : Code} {b L : Nat} {xs : Nat → Int32} {D : va_G} {cI cJ cZ : ClassId} {h o h2 : Nat} {a a2 : Nat → Nat} {u v : cp_M} {f9 : Nat → Int64} {H : Heap} {locs : List Loc} {cells slots i : Nat} {Q : State → Prop} {ls : Array Slot}
    (hst : l.stackTraces = false) (hL : L ≤ 2560) (C0 : lw_At p s m meth c b L xs) (hT : lw_T s D cI cJ cZ) (hS : lw_S s D cI cJ cZ h o h2 a a2 u v f9 H locs) (hi : i + 4 < L) (hl : lv_has ls 7 [(0, .ref b), (1, .ref h), (2, .ref h2), (3, .ref o), (4, .int (nI i))]) (hf : cells + 1 ≤ 1058 ∧ slots + 6 ≤ 9140)
    (kk : ∀ (u1 v1 : cp_M) (f1 : Nat → Int64) (H1 : Heap) (locs1 : List Loc) (ls1 : Array Slot), lw_S s D cI cJ cZ h o h2 a a2 u1 v1 f1 H1 locs1 → lv_has ls1 7 [(0, .ref b), (1, .ref h), (2, .ref h2), (3, .ref o), (4, .int (nI i))] → W p l e room_1 s m #[Value.ref b] below meth c H1 locs1 (cells + 1) (slots + 6) Q (F0 m 1252 ls1 [])) :
    W p l e room_1 s m #[Value.ref b] below meth c H locs cells slots Q (F0 m 724 ls []) := by
  obtain ⟨hx, hb, hr, hml, hown, hts0, hX, hbl, hlocks, hgv⟩ := C0
  have hown : s.vm.findClass RL = some m.cls := hown
  have hA : ∀ q : Nat, s.heap.size ≤ q → (fun q : Nat => s.heap.size ≤ q) q := fun _ h => h
  have hbA : ¬ (fun q : Nat => s.heap.size ≤ q) b := Nat.not_le.mpr hbl
  have hts : ∀ w ∈ wsL_law, w.before #[Value.ref b] s = true := fun w h => hts0 w (wsL_law_in w h)
  obtain ⟨hK, hZ⟩ := hT
  obtain ⟨hR, hV, hI⟩ := hS
  have hV9 := lw_hV hV
  have hR9 := lw_hR hR hV
  refine lv_aload_n hx hb dL_law_724 rfl (lv_at hl 1 rfl) ?_
  refine lv_aload_n hx hb dL_law_725 rfl (lv_at hl 0 rfl) ?_
  refine lv_iload hx hb dL_law_726 (lv_at hl 4 rfl) ?_
  refine lv_iconst (v := 1) hx hb dL_law_728 (by decide) ?_
  refine lv_iadd hx hb dL_law_729 ?_
  refine va_sld hx hb hX hbl hbA hI.2.2 (lw_in (k := 1) rfl (by omega) hL) dL_law_730 ?_
  refine lv_aload_n hx hb dL_law_731 rfl (lv_at hl 0 rfl) ?_
  refine lv_iload hx hb dL_law_732 (lv_at hl 4 rfl) ?_
  refine lv_iconst (v := 2) hx hb dL_law_734 (by decide) ?_
  refine lv_iadd hx hb dL_law_735 ?_
  refine va_sld hx hb hX hbl hbA hI.2.2 (lw_in (k := 2) rfl (by omega) hL) dL_law_736 ?_
  refine lv_aload_n hx hb dL_law_737 rfl (lv_at hl 3 rfl) ?_
  refine cp_cLi (As := [.ref h, .int (xs (nI i + 1).toNatClampNeg), .int (xs (nI i + 2).toNatClampNeg), .ref o]) (rest := []) ⟨hx, hb, hml, hown, hts⟩ (c_L_printed l hst D cI cJ h a o u f9 (xs (nI i + 1).toNatClampNeg) (xs (nI i + 2).toNatClampNeg) hV9.1) (vx_cwSW 4 hts gL_law_L_printed rfl rfl rfl (by decide +kernel) ⟨Nat.le_of_ble_eq_true rfl, Nat.le_of_ble_eq_true rfl⟩) (hK.sub [0, 1] rfl) hI hA hZ rfl hl.1 rfl (Nat.le_of_ble_eq_true rfl) dL_law_738 hf (fun k u1 f1 H locs hp hI => ?_)
  refine lv_istore (lv' := [(5, .int k), (0, .ref b), (1, .ref h), (2, .ref h2), (3, .ref o), (4, .int (nI i))]) hx hb dL_law_741 hl (by decide) rfl (fun ls hl => ?_)
  have hI := cp_swap hI
  refine lv_aload_n hx hb dL_law_743 rfl (lv_at hl 3 rfl) ?_
  refine lv_aload_n hx hb dL_law_744 rfl (lv_at hl 1 rfl) ?_
  refine lv_iload hx hb dL_law_745 (lv_at hl 5 rfl) ?_
  refine lv_iconst (v := 1) hx hb dL_law_747 (by decide) ?_
  refine lv_iadd hx hb dL_law_748 ?_
  refine va_sld hx hb hX hbl hbA hI.2.2 (lw_in (k := 1) rfl (by omega) hL) dL_law_749 ?_
  refine lv_aload_n hx hb dL_law_750 rfl (lv_at hl 1 rfl) ?_
  refine lv_iload hx hb dL_law_751 (lv_at hl 5 rfl) ?_
  refine lv_iconst (v := 2) hx hb dL_law_753 (by decide) ?_
  refine lv_iadd hx hb dL_law_754 ?_
  refine va_sld hx hb hX hbl hbA hI.2.2 (lw_in (k := 2) rfl (by omega) hL) dL_law_755 ?_
  refine cp_cVi (wc := cp_wY cI cZ h2 a2) (u := v) (wr := cp_wX cI h a u1 ++ cp_wO cJ o f1) (As := [.int (xs (nI i + 1).toNatClampNeg), .int (xs (nI i + 2).toNatClampNeg)]) (rest := []) ⟨hx, hb, hml, hown, hts⟩ (c_X1_printed l D cI cZ h2 a2 v (xs (nI i + 1).toNatClampNeg) (xs (nI i + 2).toNatClampNeg) hR9.1) (cwV 2 hts gL_law_X1_printed rfl rfl rfl (by decide +kernel) ⟨Nat.le_of_ble_eq_true rfl, Nat.le_of_ble_eq_true rfl⟩) (hK.sub [0, 2] rfl) hI hA ⟨_, cp_hY _ _ _ _ _⟩ rfl rfl rfl hl.1 rfl (Nat.le_of_ble_eq_true rfl) dL_law_756 ⟨hf.1, hf.2⟩ (fun b9 v1 H locs hq hI => ?_)
  refine lv_istore (lv' := [(6, .int b9), (5, .int k), (0, .ref b), (1, .ref h), (2, .ref h2), (3, .ref o), (4, .int (nI i))]) hx hb dL_law_759 hl (by decide) rfl (fun ls hl => ?_)
  refine lv_aload_n hx hb dL_law_761 rfl (lv_at hl 4 rfl) ?_
  refine cp_cVi (wc := cp_wY cI cZ h2 a2) (u := v1) (wr := cp_wX cI h a u1 ++ cp_wO cJ o f1) (As := []) (rest := []) ⟨hx, hb, hml, hown, hts⟩ (c_X1_thrown l D cI cZ h2 a2 v1 ) (cwV 0 hts gL_law_X1_thrown rfl rfl rfl (by decide +kernel) ⟨Nat.le_of_ble_eq_true rfl, Nat.le_of_ble_eq_true rfl⟩) (hK.sub [0, 2] rfl) hI hA ⟨_, cp_hY _ _ _ _ _⟩ rfl rfl rfl hl.1 rfl (Nat.le_of_ble_eq_true rfl) dL_law_762 ⟨hf.1, hf.2⟩ (fun k9 v2 H locs hq2 hI2 => ?_)
  obtain ⟨rfl, rfl⟩ := hq2
  obtain ⟨o1, o2, o3, o4⟩ := cp_s_printed hR hV hp hq
  have hI := cp_swap hI2
  refine lv_iload hx hb dL_law_765 (lv_at hl 1 rfl) ?_
  refine lv_icmp_eq (tgt := 772) hx hb dL_law_767 (by decide) (fun _ => ?_) (fun c => absurd o1 c)
  refine lv_iload hx hb dL_law_772 (lv_at hl 1 rfl) ?_
  refine lv_if_ne (tgt := 789) hx hb dL_law_774 (by decide) (fun _ => ?_) (fun k0 => ?_)
  · refine lv_goto (tgt := 1252) hx hb dL_law_789 (by decide) ?_
    exact kk u1 v2 f1 H locs ls ⟨o3, o4, hI⟩ (lv_sub hl [2, 3, 4, 5, 6] rfl)
  · have k0 : k = 0 := by first | exact k0 | exact Classical.not_not.mp k0
    refine lv_aload_n hx hb dL_law_777 rfl (lv_at hl 5 rfl) ?_
    refine lv_iconst (v := 0) hx hb dL_law_778 (by decide) ?_
    refine va_lald (D := D) hx hb hK hI.1 15 1 (cA := cJ) (n := 1) (f := f1) rfl rfl (vp_in_nI (n := 0) (by decide) (by decide)) dL_law_779 ?_
    have o9 : f1 (Int32.toNatClampNeg 0) = b9.toInt64 := o2 k0
    refine lv_iload hx hb dL_law_780 (lv_at hl 0 rfl) ?_
    refine lv_i2l (v := b9.toInt64) hx hb dL_law_782 rfl ?_
    refine W.lcmp hx hb dL_law_783 ?_
    refine lv_if_eq (tgt := 789) hx hb dL_law_784 (by decide) (fun _ => ?_) (fun z => absurd (cp_lcmp0 (o9)) z)
    refine lv_goto (tgt := 1252) hx hb dL_law_789 (by decide) ?_
    exact kk u1 v2 f1 H locs ls ⟨o3, o4, hI⟩ (lv_sub hl [2, 3, 4, 5, 6] rfl)
set_option maxHeartbeats 4000000 in
set_option maxRecDepth 100000 in
theorem lo_learn {p : Program} {l : Launch} {e : Env} {s : State} {m : MethodId} {below : List Frame} {meth : Method} {c : Code} {b L : Nat} {xs : Nat → Int32} {D : va_G} {cI cJ cZ : ClassId} {h o h2 : Nat} {a a2 : Nat → Nat} {u v : cp_M} {f9 : Nat → Int64} {H : Heap} {locs : List Loc} {cells slots i : Nat} {Q : State → Prop} {ls : Array Slot}
    (hst : l.stackTraces = false) (hL : L ≤ 2560) (C0 : lw_At p s m meth c b L xs) (hT : lw_T s D cI cJ cZ) (hS : lw_S s D cI cJ cZ h o h2 a a2 u v f9 H locs) (hi : i + 4 < L) (hl : lv_has ls 7 [(0, .ref b), (1, .ref h), (2, .ref h2), (3, .ref o), (4, .int (nI i))]) (hf : cells + 1 ≤ 1058 ∧ slots + 6 ≤ 9140)
    (kk : ∀ (u1 v1 : cp_M) (f1 : Nat → Int64) (H1 : Heap) (locs1 : List Loc) (ls1 : Array Slot), lw_S s D cI cJ cZ h o h2 a a2 u1 v1 f1 H1 locs1 → lv_has ls1 7 [(0, .ref b), (1, .ref h), (2, .ref h2), (3, .ref o), (4, .int (nI i))] → W p l e room_1 s m #[Value.ref b] below meth c H1 locs1 (cells + 1) (slots + 6) Q (F0 m 1252 ls1 [])) :
    W p l e room_1 s m #[Value.ref b] below meth c H locs cells slots Q (F0 m 792 ls []) := by
  obtain ⟨hx, hb, hr, hml, hown, hts0, hX, hbl, hlocks, hgv⟩ := C0
  have hown : s.vm.findClass RL = some m.cls := hown
  have hA : ∀ q : Nat, s.heap.size ≤ q → (fun q : Nat => s.heap.size ≤ q) q := fun _ h => h
  have hbA : ¬ (fun q : Nat => s.heap.size ≤ q) b := Nat.not_le.mpr hbl
  have hts : ∀ w ∈ wsL_law, w.before #[Value.ref b] s = true := fun w h => hts0 w (wsL_law_in w h)
  obtain ⟨hK, hZ⟩ := hT
  obtain ⟨hR, hV, hI⟩ := hS
  have hV9 := lw_hV hV
  have hR9 := lw_hR hR hV
  refine lv_aload_n hx hb dL_law_792 rfl (lv_at hl 1 rfl) ?_
  refine lv_aload_n hx hb dL_law_793 rfl (lv_at hl 0 rfl) ?_
  refine lv_iload hx hb dL_law_794 (lv_at hl 4 rfl) ?_
  refine lv_iconst (v := 1) hx hb dL_law_796 (by decide) ?_
  refine lv_iadd hx hb dL_law_797 ?_
  refine va_sld hx hb hX hbl hbA hI.2.2 (lw_in (k := 1) rfl (by omega) hL) dL_law_798 ?_
  refine lv_aload_n hx hb dL_law_799 rfl (lv_at hl 0 rfl) ?_
  refine lv_iload hx hb dL_law_800 (lv_at hl 4 rfl) ?_
  refine lv_iconst (v := 2) hx hb dL_law_802 (by decide) ?_
  refine lv_iadd hx hb dL_law_803 ?_
  refine va_sld hx hb hX hbl hbA hI.2.2 (lw_in (k := 2) rfl (by omega) hL) dL_law_804 ?_
  refine lv_aload_n hx hb dL_law_805 rfl (lv_at hl 3 rfl) ?_
  refine cp_cLi (As := [.ref h, .int (xs (nI i + 1).toNatClampNeg), .int (xs (nI i + 2).toNatClampNeg), .ref o]) (rest := []) ⟨hx, hb, hml, hown, hts⟩ (c_L_learn l hst D cI cJ h a o u f9 (xs (nI i + 1).toNatClampNeg) (xs (nI i + 2).toNatClampNeg) hV9.1) (vx_cwSW 4 hts gL_law_L_learn rfl rfl rfl (by decide +kernel) ⟨Nat.le_of_ble_eq_true rfl, Nat.le_of_ble_eq_true rfl⟩) (hK.sub [0, 1] rfl) hI hA hZ rfl hl.1 rfl (Nat.le_of_ble_eq_true rfl) dL_law_806 hf (fun k u1 f1 H locs hp hI => ?_)
  refine lv_istore (lv' := [(5, .int k), (0, .ref b), (1, .ref h), (2, .ref h2), (3, .ref o), (4, .int (nI i))]) hx hb dL_law_809 hl (by decide) rfl (fun ls hl => ?_)
  have hI := cp_swap hI
  refine lv_aload_n hx hb dL_law_811 rfl (lv_at hl 3 rfl) ?_
  refine lv_aload_n hx hb dL_law_812 rfl (lv_at hl 1 rfl) ?_
  refine lv_iload hx hb dL_law_813 (lv_at hl 5 rfl) ?_
  refine lv_iconst (v := 1) hx hb dL_law_815 (by decide) ?_
  refine lv_iadd hx hb dL_law_816 ?_
  refine va_sld hx hb hX hbl hbA hI.2.2 (lw_in (k := 1) rfl (by omega) hL) dL_law_817 ?_
  refine lv_aload_n hx hb dL_law_818 rfl (lv_at hl 1 rfl) ?_
  refine lv_iload hx hb dL_law_819 (lv_at hl 5 rfl) ?_
  refine lv_iconst (v := 2) hx hb dL_law_821 (by decide) ?_
  refine lv_iadd hx hb dL_law_822 ?_
  refine va_sld hx hb hX hbl hbA hI.2.2 (lw_in (k := 2) rfl (by omega) hL) dL_law_823 ?_
  refine cp_cVi (wc := cp_wY cI cZ h2 a2) (u := v) (wr := cp_wX cI h a u1 ++ cp_wO cJ o f1) (As := [.int (xs (nI i + 1).toNatClampNeg), .int (xs (nI i + 2).toNatClampNeg)]) (rest := []) ⟨hx, hb, hml, hown, hts⟩ (c_X1_learn l D cI cZ h2 a2 v (xs (nI i + 1).toNatClampNeg) (xs (nI i + 2).toNatClampNeg) hR9.1) (cwV 2 hts gL_law_X1_learn rfl rfl rfl (by decide +kernel) ⟨Nat.le_of_ble_eq_true rfl, Nat.le_of_ble_eq_true rfl⟩) (hK.sub [0, 2] rfl) hI hA ⟨_, cp_hY _ _ _ _ _⟩ rfl rfl rfl hl.1 rfl (Nat.le_of_ble_eq_true rfl) dL_law_824 ⟨hf.1, hf.2⟩ (fun b9 v1 H locs hq hI => ?_)
  refine lv_istore (lv' := [(6, .int b9), (5, .int k), (0, .ref b), (1, .ref h), (2, .ref h2), (3, .ref o), (4, .int (nI i))]) hx hb dL_law_827 hl (by decide) rfl (fun ls hl => ?_)
  refine lv_aload_n hx hb dL_law_829 rfl (lv_at hl 4 rfl) ?_
  refine cp_cVi (wc := cp_wY cI cZ h2 a2) (u := v1) (wr := cp_wX cI h a u1 ++ cp_wO cJ o f1) (As := []) (rest := []) ⟨hx, hb, hml, hown, hts⟩ (c_X1_thrown l D cI cZ h2 a2 v1 ) (cwV 0 hts gL_law_X1_thrown rfl rfl rfl (by decide +kernel) ⟨Nat.le_of_ble_eq_true rfl, Nat.le_of_ble_eq_true rfl⟩) (hK.sub [0, 2] rfl) hI hA ⟨_, cp_hY _ _ _ _ _⟩ rfl rfl rfl hl.1 rfl (Nat.le_of_ble_eq_true rfl) dL_law_830 ⟨hf.1, hf.2⟩ (fun k9 v2 H locs hq2 hI2 => ?_)
  obtain ⟨rfl, rfl⟩ := hq2
  obtain ⟨o1, o2, o3, o4⟩ := cp_s_learn hR hV hp hq
  have hI := cp_swap hI2
  refine lv_iload hx hb dL_law_833 (lv_at hl 1 rfl) ?_
  refine lv_icmp_eq (tgt := 840) hx hb dL_law_835 (by decide) (fun _ => ?_) (fun c => absurd o1 c)
  refine lv_iload hx hb dL_law_840 (lv_at hl 1 rfl) ?_
  refine lv_if_ne (tgt := 864) hx hb dL_law_842 (by decide) (fun _ => ?_) (fun k0 => ?_)
  · refine lv_goto (tgt := 1252) hx hb dL_law_864 (by decide) ?_
    exact kk u1 v2 f1 H locs ls ⟨o3, o4, hI⟩ (lv_sub hl [2, 3, 4, 5, 6] rfl)
  · have k0 : k = 0 := by first | exact k0 | exact Classical.not_not.mp k0
    refine lv_aload_n hx hb dL_law_845 rfl (lv_at hl 5 rfl) ?_
    refine lv_iconst (v := 0) hx hb dL_law_846 (by decide) ?_
    refine va_lald (D := D) hx hb hK hI.1 15 1 (cA := cJ) (n := 1) (f := f1) rfl rfl (vp_in_nI (n := 0) (by decide) (by decide)) dL_law_847 ?_
    have o9 : f1 (Int32.toNatClampNeg 0) = b9.toInt64 := o2 k0
    refine lv_iload hx hb dL_law_848 (lv_at hl 0 rfl) ?_
    have h01 : b9 = 0 ∨ b9 = 1 := by
      have e1 : v2 14 4 ≠ 1 := fun z => absurd (z.symm.trans (o1.trans k0)) (by decide)
      have e2 : v2 14 4 ≠ 2 := fun z => absurd (z.symm.trans (o1.trans k0)) (by decide)
      rcases hq with ⟨_, e⟩ | ⟨_, _, _, _, _, _, e, _⟩
      · exact absurd (by rw [e]; rfl) e1
      · exact cp_b01 e
    refine lv_if_eq (tgt := 857) hx hb dL_law_850 (by decide) (fun c => ?_) (fun c => ?_)
    · have c : b9 = 0 := c
      refine lv_lconst (v := 0) hx hb dL_law_857 (by decide) ?_
      refine W.lcmp hx hb dL_law_858 ?_
      refine lv_if_eq (tgt := 864) hx hb dL_law_859 (by decide) (fun _ => ?_) (fun z => absurd (cp_lcmp0 (o9.trans (by rw [c]; rfl))) z)
      refine lv_goto (tgt := 1252) hx hb dL_law_864 (by decide) ?_
      exact kk u1 v2 f1 H locs ls ⟨o3, o4, hI⟩ (lv_sub hl [2, 3, 4, 5, 6] rfl)
    · have c : b9 = 1 := h01.resolve_left c
      refine lv_lconst (v := 1) hx hb dL_law_853 (by decide) ?_
      refine lv_goto (tgt := 858) hx hb dL_law_854 (by decide) ?_
      refine W.lcmp hx hb dL_law_858 ?_
      refine lv_if_eq (tgt := 864) hx hb dL_law_859 (by decide) (fun _ => ?_) (fun z => absurd (cp_lcmp0 (o9.trans (by rw [c]; rfl))) z)
      refine lv_goto (tgt := 1252) hx hb dL_law_864 (by decide) ?_
      exact kk u1 v2 f1 H locs ls ⟨o3, o4, hI⟩ (lv_sub hl [2, 3, 4, 5, 6] rfl)
set_option maxHeartbeats 4000000 in
set_option maxRecDepth 100000 in
theorem lo_service {p : Program} {l : Launch} {e : Env} {s : State} {m : MethodId} {below : List Frame} {meth : Method} {c : Code} {b L : Nat} {xs : Nat → Int32} {D : va_G} {cI cJ cZ : ClassId} {h o h2 : Nat} {a a2 : Nat → Nat} {u v : cp_M} {f9 : Nat → Int64} {H : Heap} {locs : List Loc} {cells slots i : Nat} {Q : State → Prop} {ls : Array Slot}
    (hst : l.stackTraces = false) (hL : L ≤ 2560) (C0 : lw_At p s m meth c b L xs) (hT : lw_T s D cI cJ cZ) (hS : lw_S s D cI cJ cZ h o h2 a a2 u v f9 H locs) (hi : i + 4 < L) (hl : lv_has ls 7 [(0, .ref b), (1, .ref h), (2, .ref h2), (3, .ref o), (4, .int (nI i))]) (hf : cells + 1 ≤ 1058 ∧ slots + 6 ≤ 9140)
    (kk : ∀ (u1 v1 : cp_M) (f1 : Nat → Int64) (H1 : Heap) (locs1 : List Loc) (ls1 : Array Slot), lw_S s D cI cJ cZ h o h2 a a2 u1 v1 f1 H1 locs1 → lv_has ls1 7 [(0, .ref b), (1, .ref h), (2, .ref h2), (3, .ref o), (4, .int (nI i))] → W p l e room_1 s m #[Value.ref b] below meth c H1 locs1 (cells + 1) (slots + 6) Q (F0 m 1252 ls1 [])) :
    W p l e room_1 s m #[Value.ref b] below meth c H locs cells slots Q (F0 m 867 ls []) := by
  obtain ⟨hx, hb, hr, hml, hown, hts0, hX, hbl, hlocks, hgv⟩ := C0
  have hown : s.vm.findClass RL = some m.cls := hown
  have hA : ∀ q : Nat, s.heap.size ≤ q → (fun q : Nat => s.heap.size ≤ q) q := fun _ h => h
  have hbA : ¬ (fun q : Nat => s.heap.size ≤ q) b := Nat.not_le.mpr hbl
  have hts : ∀ w ∈ wsL_law, w.before #[Value.ref b] s = true := fun w h => hts0 w (wsL_law_in w h)
  obtain ⟨hK, hZ⟩ := hT
  obtain ⟨hR, hV, hI⟩ := hS
  have hV9 := lw_hV hV
  have hR9 := lw_hR hR hV
  refine lv_aload_n hx hb dL_law_867 rfl (lv_at hl 1 rfl) ?_
  refine lv_aload_n hx hb dL_law_868 rfl (lv_at hl 0 rfl) ?_
  refine lv_iload hx hb dL_law_869 (lv_at hl 4 rfl) ?_
  refine lv_iconst (v := 1) hx hb dL_law_871 (by decide) ?_
  refine lv_iadd hx hb dL_law_872 ?_
  refine va_sld hx hb hX hbl hbA hI.2.2 (lw_in (k := 1) rfl (by omega) hL) dL_law_873 ?_
  refine lv_aload_n hx hb dL_law_874 rfl (lv_at hl 0 rfl) ?_
  refine lv_iload hx hb dL_law_875 (lv_at hl 4 rfl) ?_
  refine lv_iconst (v := 2) hx hb dL_law_877 (by decide) ?_
  refine lv_iadd hx hb dL_law_878 ?_
  refine va_sld hx hb hX hbl hbA hI.2.2 (lw_in (k := 2) rfl (by omega) hL) dL_law_879 ?_
  refine lv_aload_n hx hb dL_law_880 rfl (lv_at hl 3 rfl) ?_
  refine cp_cLi (As := [.ref h, .int (xs (nI i + 1).toNatClampNeg), .int (xs (nI i + 2).toNatClampNeg), .ref o]) (rest := []) ⟨hx, hb, hml, hown, hts⟩ (c_L_service l hst D cI cJ h a o u f9 (xs (nI i + 1).toNatClampNeg) (xs (nI i + 2).toNatClampNeg) hV9.1 hV9.2.1 hV9.2.2.1) (vx_cwSW 4 hts gL_law_L_service rfl rfl rfl (by decide +kernel) ⟨Nat.le_of_ble_eq_true rfl, Nat.le_of_ble_eq_true rfl⟩) (hK.sub [0, 1] rfl) hI hA hZ rfl hl.1 rfl (Nat.le_of_ble_eq_true rfl) dL_law_881 hf (fun k u1 f1 H locs hp hI => ?_)
  refine lv_istore (lv' := [(5, .int k), (0, .ref b), (1, .ref h), (2, .ref h2), (3, .ref o), (4, .int (nI i))]) hx hb dL_law_884 hl (by decide) rfl (fun ls hl => ?_)
  have hI := cp_swap hI
  refine lv_aload_n hx hb dL_law_886 rfl (lv_at hl 3 rfl) ?_
  refine lv_aload_n hx hb dL_law_887 rfl (lv_at hl 1 rfl) ?_
  refine lv_iload hx hb dL_law_888 (lv_at hl 5 rfl) ?_
  refine lv_iconst (v := 1) hx hb dL_law_890 (by decide) ?_
  refine lv_iadd hx hb dL_law_891 ?_
  refine va_sld hx hb hX hbl hbA hI.2.2 (lw_in (k := 1) rfl (by omega) hL) dL_law_892 ?_
  refine lv_aload_n hx hb dL_law_893 rfl (lv_at hl 1 rfl) ?_
  refine lv_iload hx hb dL_law_894 (lv_at hl 5 rfl) ?_
  refine lv_iconst (v := 2) hx hb dL_law_896 (by decide) ?_
  refine lv_iadd hx hb dL_law_897 ?_
  refine va_sld hx hb hX hbl hbA hI.2.2 (lw_in (k := 2) rfl (by omega) hL) dL_law_898 ?_
  refine cp_cVi (wc := cp_wY cI cZ h2 a2) (u := v) (wr := cp_wX cI h a u1 ++ cp_wO cJ o f1) (As := [.int (xs (nI i + 1).toNatClampNeg), .int (xs (nI i + 2).toNatClampNeg)]) (rest := []) ⟨hx, hb, hml, hown, hts⟩ (c_X1_service l D cI cZ h2 a2 v (xs (nI i + 1).toNatClampNeg) (xs (nI i + 2).toNatClampNeg) hR9.1 hR9.2.1 hR9.2.2.1) (cwV 2 hts gL_law_X1_service rfl rfl rfl (by decide +kernel) ⟨Nat.le_of_ble_eq_true rfl, Nat.le_of_ble_eq_true rfl⟩) (hK.sub [0, 2] rfl) hI hA ⟨_, cp_hY _ _ _ _ _⟩ rfl rfl rfl hl.1 rfl (Nat.le_of_ble_eq_true rfl) dL_law_899 ⟨hf.1, hf.2⟩ (fun b9 v1 H locs hq hI => ?_)
  refine lv_istore (lv' := [(6, .int b9), (5, .int k), (0, .ref b), (1, .ref h), (2, .ref h2), (3, .ref o), (4, .int (nI i))]) hx hb dL_law_902 hl (by decide) rfl (fun ls hl => ?_)
  refine lv_aload_n hx hb dL_law_904 rfl (lv_at hl 4 rfl) ?_
  refine cp_cVi (wc := cp_wY cI cZ h2 a2) (u := v1) (wr := cp_wX cI h a u1 ++ cp_wO cJ o f1) (As := []) (rest := []) ⟨hx, hb, hml, hown, hts⟩ (c_X1_thrown l D cI cZ h2 a2 v1 ) (cwV 0 hts gL_law_X1_thrown rfl rfl rfl (by decide +kernel) ⟨Nat.le_of_ble_eq_true rfl, Nat.le_of_ble_eq_true rfl⟩) (hK.sub [0, 2] rfl) hI hA ⟨_, cp_hY _ _ _ _ _⟩ rfl rfl rfl hl.1 rfl (Nat.le_of_ble_eq_true rfl) dL_law_905 ⟨hf.1, hf.2⟩ (fun k9 v2 H locs hq2 hI2 => ?_)
  obtain ⟨rfl, rfl⟩ := hq2
  obtain ⟨o1, o2, o3, o4⟩ := cp_s_service hR hV hp hq
  have hI := cp_swap hI2
  refine lv_iload hx hb dL_law_908 (lv_at hl 1 rfl) ?_
  refine lv_icmp_eq (tgt := 915) hx hb dL_law_910 (by decide) (fun _ => ?_) (fun c => absurd o1 c)
  refine lv_iload hx hb dL_law_915 (lv_at hl 1 rfl) ?_
  refine lv_if_ne (tgt := 932) hx hb dL_law_917 (by decide) (fun _ => ?_) (fun k0 => ?_)
  · refine lv_goto (tgt := 1252) hx hb dL_law_932 (by decide) ?_
    exact kk u1 v2 f1 H locs ls ⟨o3, o4, hI⟩ (lv_sub hl [2, 3, 4, 5, 6] rfl)
  · have k0 : k = 0 := by first | exact k0 | exact Classical.not_not.mp k0
    refine lv_aload_n hx hb dL_law_920 rfl (lv_at hl 5 rfl) ?_
    refine lv_iconst (v := 0) hx hb dL_law_921 (by decide) ?_
    refine va_lald (D := D) hx hb hK hI.1 15 1 (cA := cJ) (n := 1) (f := f1) rfl rfl (vp_in_nI (n := 0) (by decide) (by decide)) dL_law_922 ?_
    have o9 : f1 (Int32.toNatClampNeg 0) = b9.toInt64 := o2 k0
    refine lv_iload hx hb dL_law_923 (lv_at hl 0 rfl) ?_
    refine lv_i2l (v := b9.toInt64) hx hb dL_law_925 rfl ?_
    refine W.lcmp hx hb dL_law_926 ?_
    refine lv_if_eq (tgt := 932) hx hb dL_law_927 (by decide) (fun _ => ?_) (fun z => absurd (cp_lcmp0 (o9)) z)
    refine lv_goto (tgt := 1252) hx hb dL_law_932 (by decide) ?_
    exact kk u1 v2 f1 H locs ls ⟨o3, o4, hI⟩ (lv_sub hl [2, 3, 4, 5, 6] rfl)
set_option maxHeartbeats 4000000 in
set_option maxRecDepth 100000 in
theorem lo_plan {p : Program} {l : Launch} {e : Env} {s : State} {m : MethodId} {below : List Frame} {meth : Method} {c : Code} {b L : Nat} {xs : Nat → Int32} {D : va_G} {cI cJ cZ : ClassId} {h o h2 : Nat} {a a2 : Nat → Nat} {u v : cp_M} {f9 : Nat → Int64} {H : Heap} {locs : List Loc} {cells slots i : Nat} {Q : State → Prop} {ls : Array Slot}
    (hst : l.stackTraces = false) (hL : L ≤ 2560) (C0 : lw_At p s m meth c b L xs) (hT : lw_T s D cI cJ cZ) (hS : lw_S s D cI cJ cZ h o h2 a a2 u v f9 H locs) (hi : i + 4 < L) (hl : lv_has ls 7 [(0, .ref b), (1, .ref h), (2, .ref h2), (3, .ref o), (4, .int (nI i))]) (hf : cells + 1 ≤ 1058 ∧ slots + 6 ≤ 9140)
    (kk : ∀ (u1 v1 : cp_M) (f1 : Nat → Int64) (H1 : Heap) (locs1 : List Loc) (ls1 : Array Slot), lw_S s D cI cJ cZ h o h2 a a2 u1 v1 f1 H1 locs1 → lv_has ls1 7 [(0, .ref b), (1, .ref h), (2, .ref h2), (3, .ref o), (4, .int (nI i))] → W p l e room_1 s m #[Value.ref b] below meth c H1 locs1 (cells + 1) (slots + 6) Q (F0 m 1252 ls1 [])) :
    W p l e room_1 s m #[Value.ref b] below meth c H locs cells slots Q (F0 m 935 ls []) := by
  obtain ⟨hx, hb, hr, hml, hown, hts0, hX, hbl, hlocks, hgv⟩ := C0
  have hown : s.vm.findClass RL = some m.cls := hown
  have hA : ∀ q : Nat, s.heap.size ≤ q → (fun q : Nat => s.heap.size ≤ q) q := fun _ h => h
  have hbA : ¬ (fun q : Nat => s.heap.size ≤ q) b := Nat.not_le.mpr hbl
  have hts : ∀ w ∈ wsL_law, w.before #[Value.ref b] s = true := fun w h => hts0 w (wsL_law_in w h)
  obtain ⟨hK, hZ⟩ := hT
  obtain ⟨hR, hV, hI⟩ := hS
  have hV9 := lw_hV hV
  have hR9 := lw_hR hR hV
  refine lv_aload_n hx hb dL_law_935 rfl (lv_at hl 1 rfl) ?_
  refine lv_aload_n hx hb dL_law_936 rfl (lv_at hl 0 rfl) ?_
  refine lv_iload hx hb dL_law_937 (lv_at hl 4 rfl) ?_
  refine lv_iconst (v := 1) hx hb dL_law_939 (by decide) ?_
  refine lv_iadd hx hb dL_law_940 ?_
  refine va_sld hx hb hX hbl hbA hI.2.2 (lw_in (k := 1) rfl (by omega) hL) dL_law_941 ?_
  refine lv_aload_n hx hb dL_law_942 rfl (lv_at hl 3 rfl) ?_
  refine cp_cLi (As := [.ref h, .int (xs (nI i + 1).toNatClampNeg), .ref o]) (rest := []) ⟨hx, hb, hml, hown, hts⟩ (c_L_plan l hst D cI cJ h a o u f9 (xs (nI i + 1).toNatClampNeg) hV9.1 hV9.2.1 hV9.2.2.1) (vx_cwSW 3 hts gL_law_L_plan rfl rfl rfl (by decide +kernel) ⟨Nat.le_of_ble_eq_true rfl, Nat.le_of_ble_eq_true rfl⟩) (hK.sub [0, 1] rfl) hI hA hZ rfl hl.1 rfl (Nat.le_of_ble_eq_true rfl) dL_law_943 hf (fun k u1 f1 H locs hp hI => ?_)
  refine lv_istore (lv' := [(5, .int k), (0, .ref b), (1, .ref h), (2, .ref h2), (3, .ref o), (4, .int (nI i))]) hx hb dL_law_946 hl (by decide) rfl (fun ls hl => ?_)
  have hI := cp_swap hI
  refine lv_aload_n hx hb dL_law_948 rfl (lv_at hl 3 rfl) ?_
  refine lv_aload_n hx hb dL_law_949 rfl (lv_at hl 1 rfl) ?_
  refine lv_iload hx hb dL_law_950 (lv_at hl 5 rfl) ?_
  refine lv_iconst (v := 1) hx hb dL_law_952 (by decide) ?_
  refine lv_iadd hx hb dL_law_953 ?_
  refine va_sld hx hb hX hbl hbA hI.2.2 (lw_in (k := 1) rfl (by omega) hL) dL_law_954 ?_
  refine cp_cVi (wc := cp_wY cI cZ h2 a2) (u := v) (wr := cp_wX cI h a u1 ++ cp_wO cJ o f1) (As := [.int (xs (nI i + 1).toNatClampNeg)]) (rest := []) ⟨hx, hb, hml, hown, hts⟩ (c_X1_plan l D cI cZ h2 a2 v (xs (nI i + 1).toNatClampNeg) hR9.1 hR9.2.1 hR9.2.2.1 (fun k => (u 11 k).toNatClampNeg) (lw_cfR hR hV)) (cwV 1 hts gL_law_X1_plan rfl rfl rfl (by decide +kernel) ⟨Nat.le_of_ble_eq_true rfl, Nat.le_of_ble_eq_true rfl⟩) (hK.sub [0, 2] rfl) hI hA ⟨_, cp_hY _ _ _ _ _⟩ rfl rfl rfl hl.1 rfl (Nat.le_of_ble_eq_true rfl) dL_law_955 ⟨hf.1, hf.2⟩ (fun b9 v1 H locs hq hI => ?_)
  refine lv_istore (lv' := [(6, .int b9), (5, .int k), (0, .ref b), (1, .ref h), (2, .ref h2), (3, .ref o), (4, .int (nI i))]) hx hb dL_law_958 hl (by decide) rfl (fun ls hl => ?_)
  refine lv_aload_n hx hb dL_law_960 rfl (lv_at hl 4 rfl) ?_
  refine cp_cVi (wc := cp_wY cI cZ h2 a2) (u := v1) (wr := cp_wX cI h a u1 ++ cp_wO cJ o f1) (As := []) (rest := []) ⟨hx, hb, hml, hown, hts⟩ (c_X1_thrown l D cI cZ h2 a2 v1 ) (cwV 0 hts gL_law_X1_thrown rfl rfl rfl (by decide +kernel) ⟨Nat.le_of_ble_eq_true rfl, Nat.le_of_ble_eq_true rfl⟩) (hK.sub [0, 2] rfl) hI hA ⟨_, cp_hY _ _ _ _ _⟩ rfl rfl rfl hl.1 rfl (Nat.le_of_ble_eq_true rfl) dL_law_961 ⟨hf.1, hf.2⟩ (fun k9 v2 H locs hq2 hI2 => ?_)
  obtain ⟨rfl, rfl⟩ := hq2
  obtain ⟨o1, o2, o3, o4⟩ := cp_s_plan hR hV (lw_cf hV) hp hq
  have hI := cp_swap hI2
  refine lv_iload hx hb dL_law_964 (lv_at hl 1 rfl) ?_
  refine lv_icmp_eq (tgt := 971) hx hb dL_law_966 (by decide) (fun _ => ?_) (fun c => absurd o1 c)
  refine lv_iload hx hb dL_law_971 (lv_at hl 1 rfl) ?_
  refine lv_if_ne (tgt := 988) hx hb dL_law_973 (by decide) (fun _ => ?_) (fun k0 => ?_)
  · refine lv_goto (tgt := 1252) hx hb dL_law_988 (by decide) ?_
    exact kk u1 v2 f1 H locs ls ⟨o3, o4, hI⟩ (lv_sub hl [2, 3, 4, 5, 6] rfl)
  · have k0 : k = 0 := by first | exact k0 | exact Classical.not_not.mp k0
    refine lv_aload_n hx hb dL_law_976 rfl (lv_at hl 5 rfl) ?_
    refine lv_iconst (v := 0) hx hb dL_law_977 (by decide) ?_
    refine va_lald (D := D) hx hb hK hI.1 15 1 (cA := cJ) (n := 1) (f := f1) rfl rfl (vp_in_nI (n := 0) (by decide) (by decide)) dL_law_978 ?_
    have o9 : f1 (Int32.toNatClampNeg 0) = b9.toInt64 := o2 k0
    refine lv_iload hx hb dL_law_979 (lv_at hl 0 rfl) ?_
    refine lv_i2l (v := b9.toInt64) hx hb dL_law_981 rfl ?_
    refine W.lcmp hx hb dL_law_982 ?_
    refine lv_if_eq (tgt := 988) hx hb dL_law_983 (by decide) (fun _ => ?_) (fun z => absurd (cp_lcmp0 (o9)) z)
    refine lv_goto (tgt := 1252) hx hb dL_law_988 (by decide) ?_
    exact kk u1 v2 f1 H locs ls ⟨o3, o4, hI⟩ (lv_sub hl [2, 3, 4, 5, 6] rfl)
set_option maxHeartbeats 4000000 in
set_option maxRecDepth 100000 in
theorem lo_hymnOf {p : Program} {l : Launch} {e : Env} {s : State} {m : MethodId} {below : List Frame} {meth : Method} {c : Code} {b L : Nat} {xs : Nat → Int32} {D : va_G} {cI cJ cZ : ClassId} {h o h2 : Nat} {a a2 : Nat → Nat} {u v : cp_M} {f9 : Nat → Int64} {H : Heap} {locs : List Loc} {cells slots i : Nat} {Q : State → Prop} {ls : Array Slot}
    (hst : l.stackTraces = false) (hL : L ≤ 2560) (C0 : lw_At p s m meth c b L xs) (hT : lw_T s D cI cJ cZ) (hS : lw_S s D cI cJ cZ h o h2 a a2 u v f9 H locs) (hi : i + 4 < L) (hl : lv_has ls 7 [(0, .ref b), (1, .ref h), (2, .ref h2), (3, .ref o), (4, .int (nI i))]) (hf : cells + 1 ≤ 1058 ∧ slots + 6 ≤ 9140)
    (kk : ∀ (u1 v1 : cp_M) (f1 : Nat → Int64) (H1 : Heap) (locs1 : List Loc) (ls1 : Array Slot), lw_S s D cI cJ cZ h o h2 a a2 u1 v1 f1 H1 locs1 → lv_has ls1 7 [(0, .ref b), (1, .ref h), (2, .ref h2), (3, .ref o), (4, .int (nI i))] → W p l e room_1 s m #[Value.ref b] below meth c H1 locs1 (cells + 1) (slots + 6) Q (F0 m 1252 ls1 [])) :
    W p l e room_1 s m #[Value.ref b] below meth c H locs cells slots Q (F0 m 991 ls []) := by
  obtain ⟨hx, hb, hr, hml, hown, hts0, hX, hbl, hlocks, hgv⟩ := C0
  have hown : s.vm.findClass RL = some m.cls := hown
  have hA : ∀ q : Nat, s.heap.size ≤ q → (fun q : Nat => s.heap.size ≤ q) q := fun _ h => h
  have hbA : ¬ (fun q : Nat => s.heap.size ≤ q) b := Nat.not_le.mpr hbl
  have hts : ∀ w ∈ wsL_law, w.before #[Value.ref b] s = true := fun w h => hts0 w (wsL_law_in w h)
  obtain ⟨hK, hZ⟩ := hT
  obtain ⟨hR, hV, hI⟩ := hS
  have hV9 := lw_hV hV
  have hR9 := lw_hR hR hV
  refine lv_aload_n hx hb dL_law_991 rfl (lv_at hl 1 rfl) ?_
  refine lv_aload_n hx hb dL_law_992 rfl (lv_at hl 0 rfl) ?_
  refine lv_iload hx hb dL_law_993 (lv_at hl 4 rfl) ?_
  refine lv_iconst (v := 1) hx hb dL_law_995 (by decide) ?_
  refine lv_iadd hx hb dL_law_996 ?_
  refine va_sld hx hb hX hbl hbA hI.2.2 (lw_in (k := 1) rfl (by omega) hL) dL_law_997 ?_
  refine lv_aload_n hx hb dL_law_998 rfl (lv_at hl 3 rfl) ?_
  refine cp_cLi (As := [.ref h, .int (xs (nI i + 1).toNatClampNeg), .ref o]) (rest := []) ⟨hx, hb, hml, hown, hts⟩ (c_L_hymnOf l hst D cI cJ h a o u f9 (xs (nI i + 1).toNatClampNeg) hV9.2.2.1) (vx_cwSW 3 hts gL_law_L_hymnOf rfl rfl rfl (by decide +kernel) ⟨Nat.le_of_ble_eq_true rfl, Nat.le_of_ble_eq_true rfl⟩) (hK.sub [0, 1] rfl) hI hA hZ rfl hl.1 rfl (Nat.le_of_ble_eq_true rfl) dL_law_999 hf (fun k u1 f1 H locs hp hI => ?_)
  refine lv_istore (lv' := [(5, .int k), (0, .ref b), (1, .ref h), (2, .ref h2), (3, .ref o), (4, .int (nI i))]) hx hb dL_law_1002 hl (by decide) rfl (fun ls hl => ?_)
  have hI := cp_swap hI
  refine lv_aload_n hx hb dL_law_1004 rfl (lv_at hl 3 rfl) ?_
  refine lv_aload_n hx hb dL_law_1005 rfl (lv_at hl 1 rfl) ?_
  refine lv_iload hx hb dL_law_1006 (lv_at hl 5 rfl) ?_
  refine lv_iconst (v := 1) hx hb dL_law_1008 (by decide) ?_
  refine lv_iadd hx hb dL_law_1009 ?_
  refine va_sld hx hb hX hbl hbA hI.2.2 (lw_in (k := 1) rfl (by omega) hL) dL_law_1010 ?_
  refine cp_cVi (wc := cp_wY cI cZ h2 a2) (u := v) (wr := cp_wX cI h a u1 ++ cp_wO cJ o f1) (As := [.int (xs (nI i + 1).toNatClampNeg)]) (rest := []) ⟨hx, hb, hml, hown, hts⟩ (c_X1_hymnOf l D cI cZ h2 a2 v (xs (nI i + 1).toNatClampNeg) hR9.2.2.1) (cwV 1 hts gL_law_X1_hymnOf rfl rfl rfl (by decide +kernel) ⟨Nat.le_of_ble_eq_true rfl, Nat.le_of_ble_eq_true rfl⟩) (hK.sub [0, 2] rfl) hI hA ⟨_, cp_hY _ _ _ _ _⟩ rfl rfl rfl hl.1 rfl (Nat.le_of_ble_eq_true rfl) dL_law_1011 ⟨hf.1, hf.2⟩ (fun b9 v1 H locs hq hI => ?_)
  refine lv_istore (lv' := [(6, .int b9), (5, .int k), (0, .ref b), (1, .ref h), (2, .ref h2), (3, .ref o), (4, .int (nI i))]) hx hb dL_law_1014 hl (by decide) rfl (fun ls hl => ?_)
  refine lv_aload_n hx hb dL_law_1016 rfl (lv_at hl 4 rfl) ?_
  refine cp_cVi (wc := cp_wY cI cZ h2 a2) (u := v1) (wr := cp_wX cI h a u1 ++ cp_wO cJ o f1) (As := []) (rest := []) ⟨hx, hb, hml, hown, hts⟩ (c_X1_thrown l D cI cZ h2 a2 v1 ) (cwV 0 hts gL_law_X1_thrown rfl rfl rfl (by decide +kernel) ⟨Nat.le_of_ble_eq_true rfl, Nat.le_of_ble_eq_true rfl⟩) (hK.sub [0, 2] rfl) hI hA ⟨_, cp_hY _ _ _ _ _⟩ rfl rfl rfl hl.1 rfl (Nat.le_of_ble_eq_true rfl) dL_law_1017 ⟨hf.1, hf.2⟩ (fun k9 v2 H locs hq2 hI2 => ?_)
  obtain ⟨rfl, rfl⟩ := hq2
  obtain ⟨o1, o2, o3, o4⟩ := cp_s_hymnOf hR hV hp hq
  have hI := cp_swap hI2
  refine lv_iload hx hb dL_law_1020 (lv_at hl 1 rfl) ?_
  refine lv_icmp_eq (tgt := 1027) hx hb dL_law_1022 (by decide) (fun _ => ?_) (fun c => absurd o1 c)
  refine lv_iload hx hb dL_law_1027 (lv_at hl 1 rfl) ?_
  refine lv_if_ne (tgt := 1044) hx hb dL_law_1029 (by decide) (fun _ => ?_) (fun k0 => ?_)
  · refine lv_goto (tgt := 1252) hx hb dL_law_1044 (by decide) ?_
    exact kk u1 v2 f1 H locs ls ⟨o3, o4, hI⟩ (lv_sub hl [2, 3, 4, 5, 6] rfl)
  · have k0 : k = 0 := by first | exact k0 | exact Classical.not_not.mp k0
    refine lv_aload_n hx hb dL_law_1032 rfl (lv_at hl 5 rfl) ?_
    refine lv_iconst (v := 0) hx hb dL_law_1033 (by decide) ?_
    refine va_lald (D := D) hx hb hK hI.1 15 1 (cA := cJ) (n := 1) (f := f1) rfl rfl (vp_in_nI (n := 0) (by decide) (by decide)) dL_law_1034 ?_
    have o9 : f1 (Int32.toNatClampNeg 0) = b9.toInt64 := o2 k0
    refine lv_iload hx hb dL_law_1035 (lv_at hl 0 rfl) ?_
    refine lv_i2l (v := b9.toInt64) hx hb dL_law_1037 rfl ?_
    refine W.lcmp hx hb dL_law_1038 ?_
    refine lv_if_eq (tgt := 1044) hx hb dL_law_1039 (by decide) (fun _ => ?_) (fun z => absurd (cp_lcmp0 (o9)) z)
    refine lv_goto (tgt := 1252) hx hb dL_law_1044 (by decide) ?_
    exact kk u1 v2 f1 H locs ls ⟨o3, o4, hI⟩ (lv_sub hl [2, 3, 4, 5, 6] rfl)
set_option maxHeartbeats 4000000 in
set_option maxRecDepth 100000 in
theorem lo_sung {p : Program} {l : Launch} {e : Env} {s : State} {m : MethodId} {below : List Frame} {meth : Method} {c : Code} {b L : Nat} {xs : Nat → Int32} {D : va_G} {cI cJ cZ : ClassId} {h o h2 : Nat} {a a2 : Nat → Nat} {u v : cp_M} {f9 : Nat → Int64} {H : Heap} {locs : List Loc} {cells slots i : Nat} {Q : State → Prop} {ls : Array Slot}
    (hst : l.stackTraces = false) (hL : L ≤ 2560) (C0 : lw_At p s m meth c b L xs) (hT : lw_T s D cI cJ cZ) (hS : lw_S s D cI cJ cZ h o h2 a a2 u v f9 H locs) (hi : i + 4 < L) (hl : lv_has ls 7 [(0, .ref b), (1, .ref h), (2, .ref h2), (3, .ref o), (4, .int (nI i))]) (hf : cells + 1 ≤ 1058 ∧ slots + 6 ≤ 9140)
    (kk : ∀ (u1 v1 : cp_M) (f1 : Nat → Int64) (H1 : Heap) (locs1 : List Loc) (ls1 : Array Slot), lw_S s D cI cJ cZ h o h2 a a2 u1 v1 f1 H1 locs1 → lv_has ls1 7 [(0, .ref b), (1, .ref h), (2, .ref h2), (3, .ref o), (4, .int (nI i))] → W p l e room_1 s m #[Value.ref b] below meth c H1 locs1 (cells + 1) (slots + 6) Q (F0 m 1252 ls1 [])) :
    W p l e room_1 s m #[Value.ref b] below meth c H locs cells slots Q (F0 m 1060 ls []) := by
  obtain ⟨hx, hb, hr, hml, hown, hts0, hX, hbl, hlocks, hgv⟩ := C0
  have hown : s.vm.findClass RL = some m.cls := hown
  have hA : ∀ q : Nat, s.heap.size ≤ q → (fun q : Nat => s.heap.size ≤ q) q := fun _ h => h
  have hbA : ¬ (fun q : Nat => s.heap.size ≤ q) b := Nat.not_le.mpr hbl
  have hts : ∀ w ∈ wsL_law, w.before #[Value.ref b] s = true := fun w h => hts0 w (wsL_law_in w h)
  obtain ⟨hK, hZ⟩ := hT
  obtain ⟨hR, hV, hI⟩ := hS
  have hV9 := lw_hV hV
  have hR9 := lw_hR hR hV
  refine lv_aload_n hx hb dL_law_1060 rfl (lv_at hl 1 rfl) ?_
  refine lv_aload_n hx hb dL_law_1061 rfl (lv_at hl 0 rfl) ?_
  refine lv_iload hx hb dL_law_1062 (lv_at hl 4 rfl) ?_
  refine lv_iconst (v := 1) hx hb dL_law_1064 (by decide) ?_
  refine lv_iadd hx hb dL_law_1065 ?_
  refine va_sld hx hb hX hbl hbA hI.2.2 (lw_in (k := 1) rfl (by omega) hL) dL_law_1066 ?_
  refine lv_aload_n hx hb dL_law_1067 rfl (lv_at hl 0 rfl) ?_
  refine lv_iload hx hb dL_law_1068 (lv_at hl 4 rfl) ?_
  refine lv_iconst (v := 2) hx hb dL_law_1070 (by decide) ?_
  refine lv_iadd hx hb dL_law_1071 ?_
  refine va_sld hx hb hX hbl hbA hI.2.2 (lw_in (k := 2) rfl (by omega) hL) dL_law_1072 ?_
  refine lv_aload_n hx hb dL_law_1073 rfl (lv_at hl 3 rfl) ?_
  refine cp_cLi (As := [.ref h, .int (xs (nI i + 1).toNatClampNeg), .int (xs (nI i + 2).toNatClampNeg), .ref o]) (rest := []) ⟨hx, hb, hml, hown, hts⟩ (c_L_sung l hst D cI cJ h a o u f9 (xs (nI i + 1).toNatClampNeg) (xs (nI i + 2).toNatClampNeg) hV9.1 hV9.2.2.1) (vx_cwSW 4 hts gL_law_L_sung rfl rfl rfl (by decide +kernel) ⟨Nat.le_of_ble_eq_true rfl, Nat.le_of_ble_eq_true rfl⟩) (hK.sub [0, 1] rfl) hI hA hZ rfl hl.1 rfl (Nat.le_of_ble_eq_true rfl) dL_law_1074 hf (fun k u1 f1 H locs hp hI => ?_)
  refine lv_istore (lv' := [(5, .int k), (0, .ref b), (1, .ref h), (2, .ref h2), (3, .ref o), (4, .int (nI i))]) hx hb dL_law_1077 hl (by decide) rfl (fun ls hl => ?_)
  have hI := cp_swap hI
  refine lv_aload_n hx hb dL_law_1079 rfl (lv_at hl 3 rfl) ?_
  refine lv_aload_n hx hb dL_law_1080 rfl (lv_at hl 1 rfl) ?_
  refine lv_iload hx hb dL_law_1081 (lv_at hl 5 rfl) ?_
  refine lv_iconst (v := 1) hx hb dL_law_1083 (by decide) ?_
  refine lv_iadd hx hb dL_law_1084 ?_
  refine va_sld hx hb hX hbl hbA hI.2.2 (lw_in (k := 1) rfl (by omega) hL) dL_law_1085 ?_
  refine lv_aload_n hx hb dL_law_1086 rfl (lv_at hl 1 rfl) ?_
  refine lv_iload hx hb dL_law_1087 (lv_at hl 5 rfl) ?_
  refine lv_iconst (v := 2) hx hb dL_law_1089 (by decide) ?_
  refine lv_iadd hx hb dL_law_1090 ?_
  refine va_sld hx hb hX hbl hbA hI.2.2 (lw_in (k := 2) rfl (by omega) hL) dL_law_1091 ?_
  refine cp_cVi (wc := cp_wY cI cZ h2 a2) (u := v) (wr := cp_wX cI h a u1 ++ cp_wO cJ o f1) (As := [.int (xs (nI i + 1).toNatClampNeg), .int (xs (nI i + 2).toNatClampNeg)]) (rest := []) ⟨hx, hb, hml, hown, hts⟩ (c_X1_sung l D cI cZ h2 a2 v (xs (nI i + 1).toNatClampNeg) (xs (nI i + 2).toNatClampNeg) hR9.2.2.1 hR9.2.2.2.2.2) (cwV 2 hts gL_law_X1_sung rfl rfl rfl (by decide +kernel) ⟨Nat.le_of_ble_eq_true rfl, Nat.le_of_ble_eq_true rfl⟩) (hK.sub [0, 2] rfl) hI hA ⟨_, cp_hY _ _ _ _ _⟩ rfl rfl rfl hl.1 rfl (Nat.le_of_ble_eq_true rfl) dL_law_1092 ⟨hf.1, hf.2⟩ (fun b9 v1 H locs hq hI => ?_)
  refine lv_istore (lv' := [(6, .int b9), (5, .int k), (0, .ref b), (1, .ref h), (2, .ref h2), (3, .ref o), (4, .int (nI i))]) hx hb dL_law_1095 hl (by decide) rfl (fun ls hl => ?_)
  refine lv_aload_n hx hb dL_law_1097 rfl (lv_at hl 4 rfl) ?_
  refine cp_cVi (wc := cp_wY cI cZ h2 a2) (u := v1) (wr := cp_wX cI h a u1 ++ cp_wO cJ o f1) (As := []) (rest := []) ⟨hx, hb, hml, hown, hts⟩ (c_X1_thrown l D cI cZ h2 a2 v1 ) (cwV 0 hts gL_law_X1_thrown rfl rfl rfl (by decide +kernel) ⟨Nat.le_of_ble_eq_true rfl, Nat.le_of_ble_eq_true rfl⟩) (hK.sub [0, 2] rfl) hI hA ⟨_, cp_hY _ _ _ _ _⟩ rfl rfl rfl hl.1 rfl (Nat.le_of_ble_eq_true rfl) dL_law_1098 ⟨hf.1, hf.2⟩ (fun k9 v2 H locs hq2 hI2 => ?_)
  obtain ⟨rfl, rfl⟩ := hq2
  obtain ⟨o1, o2, o3, o4⟩ := cp_s_sung hR hV hp hq
  have hI := cp_swap hI2
  refine lv_iload hx hb dL_law_1101 (lv_at hl 1 rfl) ?_
  refine lv_icmp_eq (tgt := 1108) hx hb dL_law_1103 (by decide) (fun _ => ?_) (fun c => absurd o1 c)
  refine lv_iload hx hb dL_law_1108 (lv_at hl 1 rfl) ?_
  refine lv_if_ne (tgt := 1125) hx hb dL_law_1110 (by decide) (fun _ => ?_) (fun k0 => ?_)
  · refine lv_goto (tgt := 1252) hx hb dL_law_1125 (by decide) ?_
    exact kk u1 v2 f1 H locs ls ⟨o3, o4, hI⟩ (lv_sub hl [2, 3, 4, 5, 6] rfl)
  · have k0 : k = 0 := by first | exact k0 | exact Classical.not_not.mp k0
    refine lv_aload_n hx hb dL_law_1113 rfl (lv_at hl 5 rfl) ?_
    refine lv_iconst (v := 0) hx hb dL_law_1114 (by decide) ?_
    refine va_lald (D := D) hx hb hK hI.1 15 1 (cA := cJ) (n := 1) (f := f1) rfl rfl (vp_in_nI (n := 0) (by decide) (by decide)) dL_law_1115 ?_
    have o9 : f1 (Int32.toNatClampNeg 0) = b9.toInt64 := o2 k0
    refine lv_iload hx hb dL_law_1116 (lv_at hl 0 rfl) ?_
    refine lv_i2l (v := b9.toInt64) hx hb dL_law_1118 rfl ?_
    refine W.lcmp hx hb dL_law_1119 ?_
    refine lv_if_eq (tgt := 1125) hx hb dL_law_1120 (by decide) (fun _ => ?_) (fun z => absurd (cp_lcmp0 (o9)) z)
    refine lv_goto (tgt := 1252) hx hb dL_law_1125 (by decide) ?_
    exact kk u1 v2 f1 H locs ls ⟨o3, o4, hI⟩ (lv_sub hl [2, 3, 4, 5, 6] rfl)
set_option maxHeartbeats 4000000 in
set_option maxRecDepth 100000 in
theorem lo_sungByHymns {p : Program} {l : Launch} {e : Env} {s : State} {m : MethodId} {below : List Frame} {meth : Method} {c : Code} {b L : Nat} {xs : Nat → Int32} {D : va_G} {cI cJ cZ : ClassId} {h o h2 : Nat} {a a2 : Nat → Nat} {u v : cp_M} {f9 : Nat → Int64} {H : Heap} {locs : List Loc} {cells slots i : Nat} {Q : State → Prop} {ls : Array Slot}
    (hst : l.stackTraces = false) (hL : L ≤ 2560) (C0 : lw_At p s m meth c b L xs) (hT : lw_T s D cI cJ cZ) (hS : lw_S s D cI cJ cZ h o h2 a a2 u v f9 H locs) (hi : i + 4 < L) (hl : lv_has ls 7 [(0, .ref b), (1, .ref h), (2, .ref h2), (3, .ref o), (4, .int (nI i))]) (hf : cells + 1 ≤ 1058 ∧ slots + 6 ≤ 9140)
    (kk : ∀ (u1 v1 : cp_M) (f1 : Nat → Int64) (H1 : Heap) (locs1 : List Loc) (ls1 : Array Slot), lw_S s D cI cJ cZ h o h2 a a2 u1 v1 f1 H1 locs1 → lv_has ls1 7 [(0, .ref b), (1, .ref h), (2, .ref h2), (3, .ref o), (4, .int (nI i))] → W p l e room_1 s m #[Value.ref b] below meth c H1 locs1 (cells + 1) (slots + 6) Q (F0 m 1252 ls1 [])) :
    W p l e room_1 s m #[Value.ref b] below meth c H locs cells slots Q (F0 m 1128 ls []) := by
  obtain ⟨hx, hb, hr, hml, hown, hts0, hX, hbl, hlocks, hgv⟩ := C0
  have hown : s.vm.findClass RL = some m.cls := hown
  have hA : ∀ q : Nat, s.heap.size ≤ q → (fun q : Nat => s.heap.size ≤ q) q := fun _ h => h
  have hbA : ¬ (fun q : Nat => s.heap.size ≤ q) b := Nat.not_le.mpr hbl
  have hts : ∀ w ∈ wsL_law, w.before #[Value.ref b] s = true := fun w h => hts0 w (wsL_law_in w h)
  obtain ⟨hK, hZ⟩ := hT
  obtain ⟨hR, hV, hI⟩ := hS
  have hV9 := lw_hV hV
  have hR9 := lw_hR hR hV
  refine lv_aload_n hx hb dL_law_1128 rfl (lv_at hl 1 rfl) ?_
  refine lv_aload_n hx hb dL_law_1129 rfl (lv_at hl 0 rfl) ?_
  refine lv_iload hx hb dL_law_1130 (lv_at hl 4 rfl) ?_
  refine lv_iconst (v := 1) hx hb dL_law_1132 (by decide) ?_
  refine lv_iadd hx hb dL_law_1133 ?_
  refine va_sld hx hb hX hbl hbA hI.2.2 (lw_in (k := 1) rfl (by omega) hL) dL_law_1134 ?_
  refine lv_aload_n hx hb dL_law_1135 rfl (lv_at hl 0 rfl) ?_
  refine lv_iload hx hb dL_law_1136 (lv_at hl 4 rfl) ?_
  refine lv_iconst (v := 2) hx hb dL_law_1138 (by decide) ?_
  refine lv_iadd hx hb dL_law_1139 ?_
  refine va_sld hx hb hX hbl hbA hI.2.2 (lw_in (k := 2) rfl (by omega) hL) dL_law_1140 ?_
  refine lv_aload_n hx hb dL_law_1141 rfl (lv_at hl 3 rfl) ?_
  refine cp_cLi (As := [.ref h, .int (xs (nI i + 1).toNatClampNeg), .int (xs (nI i + 2).toNatClampNeg), .ref o]) (rest := []) ⟨hx, hb, hml, hown, hts⟩ (c_L_sungByHymns l hst D cI cJ h a o u f9 (xs (nI i + 1).toNatClampNeg) (xs (nI i + 2).toNatClampNeg) hV9.1 hV9.2.2.1) (vx_cwSW 4 hts gL_law_L_sungByHymns rfl rfl rfl (by decide +kernel) ⟨Nat.le_of_ble_eq_true rfl, Nat.le_of_ble_eq_true rfl⟩) (hK.sub [0, 1] rfl) hI hA hZ rfl hl.1 rfl (Nat.le_of_ble_eq_true rfl) dL_law_1142 hf (fun k u1 f1 H locs hp hI => ?_)
  refine lv_istore (lv' := [(5, .int k), (0, .ref b), (1, .ref h), (2, .ref h2), (3, .ref o), (4, .int (nI i))]) hx hb dL_law_1145 hl (by decide) rfl (fun ls hl => ?_)
  have hI := cp_swap hI
  refine lv_aload_n hx hb dL_law_1147 rfl (lv_at hl 3 rfl) ?_
  refine lv_aload_n hx hb dL_law_1148 rfl (lv_at hl 1 rfl) ?_
  refine lv_iload hx hb dL_law_1149 (lv_at hl 5 rfl) ?_
  refine lv_iconst (v := 1) hx hb dL_law_1151 (by decide) ?_
  refine lv_iadd hx hb dL_law_1152 ?_
  refine va_sld hx hb hX hbl hbA hI.2.2 (lw_in (k := 1) rfl (by omega) hL) dL_law_1153 ?_
  refine lv_aload_n hx hb dL_law_1154 rfl (lv_at hl 1 rfl) ?_
  refine lv_iload hx hb dL_law_1155 (lv_at hl 5 rfl) ?_
  refine lv_iconst (v := 2) hx hb dL_law_1157 (by decide) ?_
  refine lv_iadd hx hb dL_law_1158 ?_
  refine va_sld hx hb hX hbl hbA hI.2.2 (lw_in (k := 2) rfl (by omega) hL) dL_law_1159 ?_
  refine cp_cVi (wc := cp_wY cI cZ h2 a2) (u := v) (wr := cp_wX cI h a u1 ++ cp_wO cJ o f1) (As := [.int (xs (nI i + 1).toNatClampNeg), .int (xs (nI i + 2).toNatClampNeg)]) (rest := []) ⟨hx, hb, hml, hown, hts⟩ (c_X1_sungByHymns l D cI cZ h2 a2 v (xs (nI i + 1).toNatClampNeg) (xs (nI i + 2).toNatClampNeg) hR9.2.2.1 hR9.2.2.2.2.2) (cwV 2 hts gL_law_X1_sungByHymns rfl rfl rfl (by decide +kernel) ⟨Nat.le_of_ble_eq_true rfl, Nat.le_of_ble_eq_true rfl⟩) (hK.sub [0, 2] rfl) hI hA ⟨_, cp_hY _ _ _ _ _⟩ rfl rfl rfl hl.1 rfl (Nat.le_of_ble_eq_true rfl) dL_law_1160 ⟨hf.1, hf.2⟩ (fun b9 v1 H locs hq hI => ?_)
  refine lv_istore (lv' := [(6, .int b9), (5, .int k), (0, .ref b), (1, .ref h), (2, .ref h2), (3, .ref o), (4, .int (nI i))]) hx hb dL_law_1163 hl (by decide) rfl (fun ls hl => ?_)
  refine lv_aload_n hx hb dL_law_1165 rfl (lv_at hl 4 rfl) ?_
  refine cp_cVi (wc := cp_wY cI cZ h2 a2) (u := v1) (wr := cp_wX cI h a u1 ++ cp_wO cJ o f1) (As := []) (rest := []) ⟨hx, hb, hml, hown, hts⟩ (c_X1_thrown l D cI cZ h2 a2 v1 ) (cwV 0 hts gL_law_X1_thrown rfl rfl rfl (by decide +kernel) ⟨Nat.le_of_ble_eq_true rfl, Nat.le_of_ble_eq_true rfl⟩) (hK.sub [0, 2] rfl) hI hA ⟨_, cp_hY _ _ _ _ _⟩ rfl rfl rfl hl.1 rfl (Nat.le_of_ble_eq_true rfl) dL_law_1166 ⟨hf.1, hf.2⟩ (fun k9 v2 H locs hq2 hI2 => ?_)
  obtain ⟨rfl, rfl⟩ := hq2
  obtain ⟨o1, o2, o3, o4⟩ := cp_s_sungByHymns hR hV hp hq
  have hI := cp_swap hI2
  refine lv_iload hx hb dL_law_1169 (lv_at hl 1 rfl) ?_
  refine lv_icmp_eq (tgt := 1176) hx hb dL_law_1171 (by decide) (fun _ => ?_) (fun c => absurd o1 c)
  refine lv_iload hx hb dL_law_1176 (lv_at hl 1 rfl) ?_
  refine lv_if_ne (tgt := 1193) hx hb dL_law_1178 (by decide) (fun _ => ?_) (fun k0 => ?_)
  · refine lv_goto (tgt := 1252) hx hb dL_law_1193 (by decide) ?_
    exact kk u1 v2 f1 H locs ls ⟨o3, o4, hI⟩ (lv_sub hl [2, 3, 4, 5, 6] rfl)
  · have k0 : k = 0 := by first | exact k0 | exact Classical.not_not.mp k0
    refine lv_aload_n hx hb dL_law_1181 rfl (lv_at hl 5 rfl) ?_
    refine lv_iconst (v := 0) hx hb dL_law_1182 (by decide) ?_
    refine va_lald (D := D) hx hb hK hI.1 15 1 (cA := cJ) (n := 1) (f := f1) rfl rfl (vp_in_nI (n := 0) (by decide) (by decide)) dL_law_1183 ?_
    have o9 : f1 (Int32.toNatClampNeg 0) = b9.toInt64 := o2 k0
    refine lv_iload hx hb dL_law_1184 (lv_at hl 0 rfl) ?_
    refine lv_i2l (v := b9.toInt64) hx hb dL_law_1186 rfl ?_
    refine W.lcmp hx hb dL_law_1187 ?_
    refine lv_if_eq (tgt := 1193) hx hb dL_law_1188 (by decide) (fun _ => ?_) (fun z => absurd (cp_lcmp0 (o9)) z)
    refine lv_goto (tgt := 1252) hx hb dL_law_1193 (by decide) ?_
    exact kk u1 v2 f1 H locs ls ⟨o3, o4, hI⟩ (lv_sub hl [2, 3, 4, 5, 6] rfl)
set_option maxHeartbeats 4000000 in
set_option maxRecDepth 100000 in
theorem lo_pass {p : Program} {l : Launch} {e : Env} {s : State} {m : MethodId} {below : List Frame} {meth : Method} {c : Code} {b L : Nat} {xs : Nat → Int32} {D : va_G} {cI cJ cZ : ClassId} {h o h2 : Nat} {a a2 : Nat → Nat} {u v : cp_M} {f9 : Nat → Int64} {H : Heap} {locs : List Loc} {cells slots i : Nat} {Q : State → Prop} {ls : Array Slot}
    (hst : l.stackTraces = false) (hL : L ≤ 2560) (C0 : lw_At p s m meth c b L xs) (hT : lw_T s D cI cJ cZ) (hS : lw_S s D cI cJ cZ h o h2 a a2 u v f9 H locs) (hi : i + 4 < L) (hl : lv_has ls 7 [(0, .ref b), (1, .ref h), (2, .ref h2), (3, .ref o), (4, .int (nI i))]) (hf : cells + 1 ≤ 1058 ∧ slots + 6 ≤ 9140)
    (kk : ∀ (u1 v1 : cp_M) (f1 : Nat → Int64) (H1 : Heap) (locs1 : List Loc) (ls1 : Array Slot), lw_S s D cI cJ cZ h o h2 a a2 u1 v1 f1 H1 locs1 → lv_has ls1 7 [(0, .ref b), (1, .ref h), (2, .ref h2), (3, .ref o), (4, .int (nI i))] → W p l e room_1 s m #[Value.ref b] below meth c H1 locs1 (cells + 1) (slots + 6) Q (F0 m 1252 ls1 [])) :
    W p l e room_1 s m #[Value.ref b] below meth c H locs cells slots Q (F0 m 1196 ls []) := by
  obtain ⟨hx, hb, hr, hml, hown, hts0, hX, hbl, hlocks, hgv⟩ := C0
  have hown : s.vm.findClass RL = some m.cls := hown
  have hA : ∀ q : Nat, s.heap.size ≤ q → (fun q : Nat => s.heap.size ≤ q) q := fun _ h => h
  have hbA : ¬ (fun q : Nat => s.heap.size ≤ q) b := Nat.not_le.mpr hbl
  have hts : ∀ w ∈ wsL_law, w.before #[Value.ref b] s = true := fun w h => hts0 w (wsL_law_in w h)
  obtain ⟨hK, hZ⟩ := hT
  obtain ⟨hR, hV, hI⟩ := hS
  have hV9 := lw_hV hV
  have hR9 := lw_hR hR hV
  refine lv_aload_n hx hb dL_law_1196 rfl (lv_at hl 1 rfl) ?_
  refine lv_aload_n hx hb dL_law_1197 rfl (lv_at hl 0 rfl) ?_
  refine lv_iload hx hb dL_law_1198 (lv_at hl 4 rfl) ?_
  refine lv_iconst (v := 1) hx hb dL_law_1200 (by decide) ?_
  refine lv_iadd hx hb dL_law_1201 ?_
  refine va_sld hx hb hX hbl hbA hI.2.2 (lw_in (k := 1) rfl (by omega) hL) dL_law_1202 ?_
  refine lv_aload_n hx hb dL_law_1203 rfl (lv_at hl 3 rfl) ?_
  refine cp_cLi (As := [.ref h, .int (xs (nI i + 1).toNatClampNeg), .ref o]) (rest := []) ⟨hx, hb, hml, hown, hts⟩ (c_L_pass l hst D cI cJ h a o u f9 (xs (nI i + 1).toNatClampNeg) ) (vx_cwSW 3 hts gL_law_L_pass rfl rfl rfl (by decide +kernel) ⟨Nat.le_of_ble_eq_true rfl, Nat.le_of_ble_eq_true rfl⟩) (hK.sub [0, 1] rfl) hI hA hZ rfl hl.1 rfl (Nat.le_of_ble_eq_true rfl) dL_law_1204 hf (fun k u1 f1 H locs hp hI => ?_)
  refine lv_istore (lv' := [(5, .int k), (0, .ref b), (1, .ref h), (2, .ref h2), (3, .ref o), (4, .int (nI i))]) hx hb dL_law_1207 hl (by decide) rfl (fun ls hl => ?_)
  have hI := cp_swap hI
  refine lv_aload_n hx hb dL_law_1209 rfl (lv_at hl 3 rfl) ?_
  refine lv_aload_n hx hb dL_law_1210 rfl (lv_at hl 1 rfl) ?_
  refine lv_iload hx hb dL_law_1211 (lv_at hl 5 rfl) ?_
  refine lv_iconst (v := 1) hx hb dL_law_1213 (by decide) ?_
  refine lv_iadd hx hb dL_law_1214 ?_
  refine va_sld hx hb hX hbl hbA hI.2.2 (lw_in (k := 1) rfl (by omega) hL) dL_law_1215 ?_
  refine cp_cVi (wc := cp_wY cI cZ h2 a2) (u := v) (wr := cp_wX cI h a u1 ++ cp_wO cJ o f1) (As := [.int (xs (nI i + 1).toNatClampNeg)]) (rest := []) ⟨hx, hb, hml, hown, hts⟩ (c_X1_pass l D cI cZ h2 a2 v (xs (nI i + 1).toNatClampNeg) ) (cwV 1 hts gL_law_X1_pass rfl rfl rfl (by decide +kernel) ⟨Nat.le_of_ble_eq_true rfl, Nat.le_of_ble_eq_true rfl⟩) (hK.sub [0, 2] rfl) hI hA ⟨_, cp_hY _ _ _ _ _⟩ rfl rfl rfl hl.1 rfl (Nat.le_of_ble_eq_true rfl) dL_law_1216 ⟨hf.1, hf.2⟩ (fun b9 v1 H locs hq hI => ?_)
  refine lv_istore (lv' := [(6, .int b9), (5, .int k), (0, .ref b), (1, .ref h), (2, .ref h2), (3, .ref o), (4, .int (nI i))]) hx hb dL_law_1219 hl (by decide) rfl (fun ls hl => ?_)
  refine lv_aload_n hx hb dL_law_1221 rfl (lv_at hl 4 rfl) ?_
  refine cp_cVi (wc := cp_wY cI cZ h2 a2) (u := v1) (wr := cp_wX cI h a u1 ++ cp_wO cJ o f1) (As := []) (rest := []) ⟨hx, hb, hml, hown, hts⟩ (c_X1_thrown l D cI cZ h2 a2 v1 ) (cwV 0 hts gL_law_X1_thrown rfl rfl rfl (by decide +kernel) ⟨Nat.le_of_ble_eq_true rfl, Nat.le_of_ble_eq_true rfl⟩) (hK.sub [0, 2] rfl) hI hA ⟨_, cp_hY _ _ _ _ _⟩ rfl rfl rfl hl.1 rfl (Nat.le_of_ble_eq_true rfl) dL_law_1222 ⟨hf.1, hf.2⟩ (fun k9 v2 H locs hq2 hI2 => ?_)
  obtain ⟨rfl, rfl⟩ := hq2
  obtain ⟨o1, o2, o3, o4⟩ := cp_s_pass hR hV hp hq
  have hI := cp_swap hI2
  refine lv_iload hx hb dL_law_1225 (lv_at hl 1 rfl) ?_
  refine lv_icmp_eq (tgt := 1232) hx hb dL_law_1227 (by decide) (fun _ => ?_) (fun c => absurd o1 c)
  refine lv_iload hx hb dL_law_1232 (lv_at hl 1 rfl) ?_
  refine lv_if_ne (tgt := 1249) hx hb dL_law_1234 (by decide) (fun _ => ?_) (fun k0 => ?_)
  · refine lv_goto (tgt := 1252) hx hb dL_law_1249 (by decide) ?_
    exact kk u1 v2 f1 H locs ls ⟨o3, o4, hI⟩ (lv_sub hl [2, 3, 4, 5, 6] rfl)
  · have k0 : k = 0 := by first | exact k0 | exact Classical.not_not.mp k0
    refine lv_aload_n hx hb dL_law_1237 rfl (lv_at hl 5 rfl) ?_
    refine lv_iconst (v := 0) hx hb dL_law_1238 (by decide) ?_
    refine va_lald (D := D) hx hb hK hI.1 15 1 (cA := cJ) (n := 1) (f := f1) rfl rfl (vp_in_nI (n := 0) (by decide) (by decide)) dL_law_1239 ?_
    have o9 : f1 (Int32.toNatClampNeg 0) = b9.toInt64 := o2 k0
    refine lv_iload hx hb dL_law_1240 (lv_at hl 0 rfl) ?_
    refine lv_i2l (v := b9.toInt64) hx hb dL_law_1242 rfl ?_
    refine W.lcmp hx hb dL_law_1243 ?_
    refine lv_if_eq (tgt := 1249) hx hb dL_law_1244 (by decide) (fun _ => ?_) (fun z => absurd (cp_lcmp0 (o9)) z)
    refine lv_goto (tgt := 1252) hx hb dL_law_1249 (by decide) ?_
    exact kk u1 v2 f1 H locs ls ⟨o3, o4, hI⟩ (lv_sub hl [2, 3, 4, 5, 6] rfl)
