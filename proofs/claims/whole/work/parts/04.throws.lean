/-! Methods that throw: what they need of the start, their walk's start, a call of needX that throws. -/
def R_iob : String := "java/lang/IndexOutOfBoundsException"
def R_iae : String := "java/lang/IllegalArgumentException"
def R_ise : String := "java/lang/IllegalStateException"
/-- each exception is of its own class and of no other of the three -/
def cp_K3 (U : State) : Prop := va_Nw (.castable R_iob R_iob) U ∧ va_Nw (.castable R_iae R_iae) U ∧ va_Nw (.castable R_ise R_ise) U ∧ va_Nc R_iae R_iob U ∧ va_Nc R_ise R_iob U ∧ va_Nc R_ise R_iae U ∧ va_Nw (.declares (Bundle.init0 "java/lang/RuntimeException")) U ∧ va_Nw (.declares (Bundle.init0 "java/lang/Exception")) U ∧ va_Nw (.declares (Bundle.init0 Bundle.tN)) U
theorem cp_K3.warm {s U : State} (hW : s.WarmedH U.vm) (h : cp_K3 s) : cp_K3 U := ⟨va_Nw.warmC hW h.1, va_Nw.warmC hW h.2.1, va_Nw.warmC hW h.2.2.1, va_Nc.moved hW.alike h.2.2.2.1, va_Nc.moved hW.alike h.2.2.2.2.1, va_Nc.moved hW.alike h.2.2.2.2.2.1, va_Nw.warmD hW h.2.2.2.2.2.2.1, va_Nw.warmD hW h.2.2.2.2.2.2.2.1, va_Nw.warmD hW h.2.2.2.2.2.2.2.2⟩
def cp_Z (A : Nat → Prop) (U : State) (H : Heap) : Prop := vx_Zq Bundle.tN "UNASSIGNED_STACK" Bundle.steD A U H ∧ vx_Zq Bundle.tN "SUPPRESSED_SENTINEL" Bundle.listD A U H ∧ cp_K3 U
theorem cp_K3.same {s U : State} (h : cp_K3 s) (hA : s.vm.Alike U.vm) (e : s.vm = U.vm) : cp_K3 U := ⟨va_Nw.same rfl e h.1, va_Nw.same rfl e h.2.1, va_Nw.same rfl e h.2.2.1, va_Nc.moved hA h.2.2.2.1, va_Nc.moved hA h.2.2.2.2.1, va_Nc.moved hA h.2.2.2.2.2.1, va_Nw.same rfl e h.2.2.2.2.2.2.1, va_Nw.same rfl e h.2.2.2.2.2.2.2.1, va_Nw.same rfl e h.2.2.2.2.2.2.2.2⟩
def cp_preZ (D : va_G) (tys : List (ClassId × FieldType)) (w : va_W) (sz : Nat) : State → Prop := fun U => cp_pre D tys w sz U ∧ cp_Z (va_A w sz) U U.heap
def cp_XC (D : va_G) (tys : List (ClassId × FieldType)) (wf : cp_M → va_W) (u : cp_M) (xe : String → Prop) (A : Nat → Prop) : String → State → State → Prop := vx_X (fun u1 : cp_M => u1 = u) (fun E u1 t => xe E ∧ cp_at D tys A wf u1 t) A
theorem cp_blindZ (D : va_G) (tys : List (ClassId × FieldType)) (w : va_W) (sz : Nat) (As : List Value) : FrameBlind (va_Pc As (cp_preZ D tys w sz)) := fun a U g mk q => by
  obtain ⟨q0, q1, q2, q3, q4⟩ := q
  have h := cp_blind D tys w sz As a U g mk ⟨q0, q1⟩
  exact ⟨q0, h.2, vx_Zq.moved (Vm.Alike.refl U.vm) q2, vx_Zq.moved (Vm.Alike.refl U.vm) q3, q4.same (Vm.Alike.refl U.vm) rfl⟩
theorem cp_MetX {l : Launch} {y : MethodName} {ws ws' : List Cond} {rm : Room} {cc : ByteArray} {maxL mc ms : Nat} {ret : Option FieldType} {As : List Value} {D : va_G} {tys : List (ClassId × FieldType)} {w0 : va_W} {Qk : (Nat → Prop) → Array Value → State → Outcome → State → Prop} {XCk : (Nat → Prop) → String → State → State → Prop}
    (hy : plainName y.cls = true) (hw : ws = Cond.code y cc maxL ret :: ws') (hnL : (lg_sl As).length ≤ maxL)
    (body : ∀ (p : Program) (e : Env) (s : State) (m : MethodId) (args : Array Value) (below : List Frame) (meth : Method) (c : Code) (A : Nat → Prop), cp_C p s m args meth c cc maxL ws ret y.cls → (∀ q, s.heap.size ≤ q → A q) → va_K D vwCl tys s → cp_I D w0 A s.heap s.heap [] → cp_Z A s s.heap → (∀ x ∈ c.exceptionTable.toList, False) →
      ∀ ls, lv_has ls maxL (lv_args 0 As) → W p l e rm s m args below meth c s.heap [] 0 0 (vx_MQ below (Qk A) (XCk A) args s mc ms A) (F0 m 0 ls [])) (sz : Nat) : vx_Met l y ws rm (va_Pc As (cp_preZ D tys w0 sz)) (Qk (va_A w0 sz)) (XCk (va_A w0 sz)) mc ms (va_A w0 sz) := by
  refine vx_ofW (cc := cc) (maxL := maxL) (ret := ret) hy hw ?_
  intro p e s m args below meth c s₁ B hml hno hv
  obtain ⟨rfl, ⟨hsz, hP, hK, hD0⟩, hZ⟩ := hv
  subst hsz
  have hts := atoms_spec (ws := ws) B.pre
  have hl := lv_entry As (n := maxL) hnL
  rw [lg_entry_eq]
  exact body p e s m _ below meth c (va_A w0 s.heap.size) ⟨B.exec, B.bytes, hml, findClass_of_methodNamed B.named, hts, B.returns, B.notSynchronized⟩ (fun q h => Or.inr h) hK ⟨hP, hD0.self, va_S.rf⟩ hZ hno _ hl
theorem cp_Zkept {A B : Nat → Prop} {s U : State} {H : Heap} {locs : List Loc} (hZ : cp_Z A s s.heap) (hS : va_S A s.heap H locs) (hB : ∀ q, B q → A q) (hU : U.heap = H) (hW : s.WarmedH U.vm) : cp_Z B U U.heap := by
  rw [hU]
  exact ⟨vx_Zq.moved hW.alike ((hZ.1.kept hS.2.1).narrow hB), vx_Zq.moved hW.alike ((hZ.2.1.kept hS.2.1).narrow hB), hZ.2.2.warm hW⟩
section CPX
variable {p : Program} {l : Launch} {e : Env} {R : Room} {s : State} {m : MethodId} {args : Array Value} {below : List Frame} {meth : Method} {c : Code} {H : Heap} {locs : List Loc} {cells slots : Nat} {Q : State → Prop}
variable {cc : ByteArray} {pc : Nat} {ls : Array Slot} {rest : List Value} {D : va_G} {A : Nat → Prop} {tys : List (ClassId × FieldType)} {wf : cp_M → va_W} {u u0 : cp_M}
variable {y : MethodName} {bytes : ByteArray} {maxL nL mc ms n index ci : Nat} {ret : Option FieldType} {wsy : List Cond} {rm : Room} {Ts : List Cond} {own C : String} {b : Nat} {As st0 : List Value}
theorem cp_nilP {D : va_G} {H : Heap} : va_P D vwCl [] H := fun k q h => by simp at h
theorem cp_nilD {A : Nat → Prop} : va_D A [] := ⟨fun i j p q h => by simp at h, fun k q h => by simp at h⟩
/-- a call of needX that throws, out of the method -/
theorem cp_thr {E0 : String} {xe : String → Prop} {Qc : Array Value → State → Outcome → State → Prop} (S : CallFix p m c cc nL s args Ts own) (hM : ∀ sz, vx_Met l y wsy rm (va_Pc As (cp_preZ D [] [] sz)) (va_Qv (fun _ : cp_M => False) (cp_at D [] (va_A [] sz) (fun _ => [])) (va_A [] sz)) (vx_X (fun _ : cp_M => True) (fun E _ _ => E = E0) (va_A [] sz)) mc ms (va_A [] sz))
    (cw : CallB R s args own index y bytes maxL ret wsy rm mc ms n ∧ (Cond.static y).before args s = true) (hK : va_K D vwCl tys s) (hI : cp_I D (wf u) A s.heap H locs) (hA : ∀ q, s.heap.size ≤ q → A q) (hZ : cp_Z A s s.heap) (hno : ∀ x ∈ c.exceptionTable.toList, False) (hlocks : meth.locks = false)
    (hn : As.length = n) (hsz : ls.size = nL) (hst : st0 = As.reverse ++ rest) (hr : (rest.map fun v => v.category).sum ≤ 8) (hdg : decode cc pc = .ok (.invokestatic index, 3)) (hf : cells + mc ≤ R.cells ∧ slots + ms ≤ R.slots) (hu : u = u0) (hx : xe E0) :
    W p l e R s m args below meth c H locs cells slots (vx_MQ below Qc (cp_XC D tys wf u0 xe A) args s (cells + mc) (slots + ms) A) (F0 m pc ls st0) := by
  have hI0 : cp_I D ([] ++ wf u) A s.heap H locs := hI
  have hfr := cp_fr (wc := []) hI0 hA
  refine vx_callv (vx_runS (g := F0 m pc ls st0) (As := As) (rest := rest) S (hM H.size) cw ⟨cp_blindZ _ _ _ _ _, fun U hU hW => ⟨rfl, ⟨by rw [hU], cp_nilP, va_K.moved hW.alike (hK.sub [] rfl), cp_nilD⟩, cp_Zkept hZ hI.2.2 hfr hU hW⟩⟩ rfl hn hsz hst (lv_room hr) hdg hf) hI.2.2 (fun q _ h => hfr q h) hfr (fun q _ h => hfr q h) (fun E ce q9 u1 t H1 locs1 ht hvm _ hE hz hk hS h1 h2 h3 => ?_) (fun u1 t H1 locs1 _ _ hF => hF.elim)
  obtain rfl := hE
  have h9 := cp_behind (wc := []) (wr := wf u) (w1 := []) hI0 hA cp_nilP cp_nilD hk hS
  exact vx_out (fun x h => (hno x h).elim) hlocks h1 h2 h3 (fun t2 ht2 hvm2 => ⟨u, hu, ⟨hx, by rw [ht2]; exact h9.1, va_K.moved hvm2 hK, h9.2.1⟩, hS.F ht2⟩) hS.2.2 (Nat.le_refl _) (Nat.le_refl _)
end CPX
set_option maxHeartbeats 4000000 in
set_option maxRecDepth 100000 in
theorem c_X0_needIndex_ok (l : Launch) (D : va_G) (sz : Nat) : Met l yX0_needIndex wsX0_needIndex ({ frames := 0, cells := 0, slots := 0, locals := 0 } : Room) (va_Pc [.int 1] (cp_pre D [] [] sz)) (va_Qv (fun _ : cp_M => True) (cp_at D [] (va_A [] sz) (fun _ => [])) (va_A [] sz)) 0 0 (va_A [] sz) := by
  refine cp_MetI (Qk := fun A => va_Qv (fun _ : cp_M => True) (cp_at D [] A (fun _ => [])) A) (by decide) rfl (Nat.le_of_ble_eq_true rfl) ?_ sz
  intro p e s m args below meth c A hC hA hK hI ls hl
  obtain ⟨hx, hb, hml, hown, hts, hr, hlocks⟩ := hC
  have hl : lv_has ls 1 [(0, .int 1)] := hl
  refine lv_iload_n hx hb dX0_needIndex_0 rfl (lv_at hl 0 rfl) ?_
  refine lv_if_ne (tgt := 12) hx hb dX0_needIndex_1 (by decide) (fun _ => ?_) (fun c => absurd c (by decide))
  exact cp_retv (u := fun _ _ => 0) hx hb hr hlocks hK hI trivial dX0_needIndex_12
set_option maxHeartbeats 4000000 in
set_option maxRecDepth 100000 in
theorem c_X0_needIndex_thr (l : Launch) (hst : l.stackTraces = false) (D : va_G) (sz : Nat) : vx_Met l yX0_needIndex wsX0_needIndex ({ frames := 6, cells := 1, slots := 6, locals := 81 } : Room) (va_Pc [.int 0] (cp_preZ D [] [] sz)) (va_Qv (fun _ : cp_M => False) (cp_at D [] (va_A [] sz) (fun _ => [])) (va_A [] sz)) (vx_X (fun _ : cp_M => True) (fun E _ _ => E = "java/lang/IndexOutOfBoundsException") (va_A [] sz)) 1 6 (va_A [] sz) := by
  refine cp_MetX (Qk := fun A => va_Qv (fun _ : cp_M => False) (cp_at D [] A (fun _ => [])) A) (XCk := fun A => vx_X (fun _ : cp_M => True) (fun E _ _ => E = "java/lang/IndexOutOfBoundsException") A) (by decide) rfl (Nat.le_of_ble_eq_true rfl) ?_ sz
  intro p e s m args below meth c A hC hA hK hI hZ hno ls hl
  obtain ⟨hx, hb, hml, hown, hts, hr, hlocks⟩ := hC
  have hown : s.vm.findClass RX0 = some m.cls := hown
  have hl : lv_has ls 1 [(0, .int 0)] := hl
  refine lv_iload_n hx hb dX0_needIndex_0 rfl (lv_at hl 0 rfl) ?_
  refine lv_if_ne (tgt := 12) hx hb dX0_needIndex_1 (by decide) (fun c => absurd rfl c) (fun _ => ?_)
  exact vx_throw0 hx hb hst (own := RX0) (cls := "java/lang/IndexOutOfBoundsException") (names := ["java/lang/RuntimeException", "java/lang/Exception"]) (ik := 180) (ic := 182) (A := A) hown (by decide +kernel) (by decide +kernel) (hts _ (by decide +kernel)) (hts _ (by decide +kernel)) (vx_hat (B := [.castable "java/lang/IndexOutOfBoundsException" "java/lang/IndexOutOfBoundsException", .declares (Bundle.init0 "java/lang/RuntimeException"), .declares (Bundle.init0 "java/lang/Exception"), .declares (Bundle.init0 Bundle.tN)]) (fun w h => hts w (List.mem_cons_of_mem _ (List.mem_append_right _ h))) (by decide +kernel) (vx_c (va_Nw.use rfl hZ.2.2.1) (vx_c (va_Nw.use rfl hZ.2.2.2.2.2.2.2.2.1) (vx_c (va_Nw.use rfl hZ.2.2.2.2.2.2.2.2.2.1) (vx_c (va_Nw.use rfl hZ.2.2.2.2.2.2.2.2.2.2) vx_n))))) (by decide +kernel) hZ.1 hZ.2.1 hI.2.2 (hl.1.trans hml.symm) dX0_needIndex_4 dX0_needIndex_7 dX0_needIndex_8 dX0_needIndex_11 (fun x h => (hno x h).elim) (by decide) (by decide) (by decide) (by decide) hlocks (fun t hvm hsz hk => ⟨fun _ _ => 0, trivial, rfl, hsz, fun q hq _ => hk q hq⟩) (fun z h => nomatch h) (by decide) (by decide)
set_option maxHeartbeats 4000000 in
set_option maxRecDepth 100000 in
theorem c_X0_needArgument_ok (l : Launch) (D : va_G) (sz : Nat) : Met l yX0_needArgument wsX0_needArgument ({ frames := 0, cells := 0, slots := 0, locals := 0 } : Room) (va_Pc [.int 1] (cp_pre D [] [] sz)) (va_Qv (fun _ : cp_M => True) (cp_at D [] (va_A [] sz) (fun _ => [])) (va_A [] sz)) 0 0 (va_A [] sz) := by
  refine cp_MetI (Qk := fun A => va_Qv (fun _ : cp_M => True) (cp_at D [] A (fun _ => [])) A) (by decide) rfl (Nat.le_of_ble_eq_true rfl) ?_ sz
  intro p e s m args below meth c A hC hA hK hI ls hl
  obtain ⟨hx, hb, hml, hown, hts, hr, hlocks⟩ := hC
  have hl : lv_has ls 1 [(0, .int 1)] := hl
  refine lv_iload_n hx hb dX0_needArgument_0 rfl (lv_at hl 0 rfl) ?_
  refine lv_if_ne (tgt := 12) hx hb dX0_needArgument_1 (by decide) (fun _ => ?_) (fun c => absurd c (by decide))
  exact cp_retv (u := fun _ _ => 0) hx hb hr hlocks hK hI trivial dX0_needArgument_12
set_option maxHeartbeats 4000000 in
set_option maxRecDepth 100000 in
theorem c_X0_needArgument_thr (l : Launch) (hst : l.stackTraces = false) (D : va_G) (sz : Nat) : vx_Met l yX0_needArgument wsX0_needArgument ({ frames := 6, cells := 1, slots := 6, locals := 81 } : Room) (va_Pc [.int 0] (cp_preZ D [] [] sz)) (va_Qv (fun _ : cp_M => False) (cp_at D [] (va_A [] sz) (fun _ => [])) (va_A [] sz)) (vx_X (fun _ : cp_M => True) (fun E _ _ => E = "java/lang/IllegalArgumentException") (va_A [] sz)) 1 6 (va_A [] sz) := by
  refine cp_MetX (Qk := fun A => va_Qv (fun _ : cp_M => False) (cp_at D [] A (fun _ => [])) A) (XCk := fun A => vx_X (fun _ : cp_M => True) (fun E _ _ => E = "java/lang/IllegalArgumentException") A) (by decide) rfl (Nat.le_of_ble_eq_true rfl) ?_ sz
  intro p e s m args below meth c A hC hA hK hI hZ hno ls hl
  obtain ⟨hx, hb, hml, hown, hts, hr, hlocks⟩ := hC
  have hown : s.vm.findClass RX0 = some m.cls := hown
  have hl : lv_has ls 1 [(0, .int 0)] := hl
  refine lv_iload_n hx hb dX0_needArgument_0 rfl (lv_at hl 0 rfl) ?_
  refine lv_if_ne (tgt := 12) hx hb dX0_needArgument_1 (by decide) (fun c => absurd rfl c) (fun _ => ?_)
  exact vx_throw0 hx hb hst (own := RX0) (cls := "java/lang/IllegalArgumentException") (names := ["java/lang/RuntimeException", "java/lang/Exception"]) (ik := 183) (ic := 185) (A := A) hown (by decide +kernel) (by decide +kernel) (hts _ (by decide +kernel)) (hts _ (by decide +kernel)) (vx_hat (B := [.castable "java/lang/IllegalArgumentException" "java/lang/IllegalArgumentException", .declares (Bundle.init0 "java/lang/RuntimeException"), .declares (Bundle.init0 "java/lang/Exception"), .declares (Bundle.init0 Bundle.tN)]) (fun w h => hts w (List.mem_cons_of_mem _ (List.mem_append_right _ h))) (by decide +kernel) (vx_c (va_Nw.use rfl hZ.2.2.2.1) (vx_c (va_Nw.use rfl hZ.2.2.2.2.2.2.2.2.1) (vx_c (va_Nw.use rfl hZ.2.2.2.2.2.2.2.2.2.1) (vx_c (va_Nw.use rfl hZ.2.2.2.2.2.2.2.2.2.2) vx_n))))) (by decide +kernel) hZ.1 hZ.2.1 hI.2.2 (hl.1.trans hml.symm) dX0_needArgument_4 dX0_needArgument_7 dX0_needArgument_8 dX0_needArgument_11 (fun x h => (hno x h).elim) (by decide) (by decide) (by decide) (by decide) hlocks (fun t hvm hsz hk => ⟨fun _ _ => 0, trivial, rfl, hsz, fun q hq _ => hk q hq⟩) (fun z h => nomatch h) (by decide) (by decide)
set_option maxHeartbeats 4000000 in
set_option maxRecDepth 100000 in
theorem c_X0_needState_ok (l : Launch) (D : va_G) (sz : Nat) : Met l yX0_needState wsX0_needState ({ frames := 0, cells := 0, slots := 0, locals := 0 } : Room) (va_Pc [.int 1] (cp_pre D [] [] sz)) (va_Qv (fun _ : cp_M => True) (cp_at D [] (va_A [] sz) (fun _ => [])) (va_A [] sz)) 0 0 (va_A [] sz) := by
  refine cp_MetI (Qk := fun A => va_Qv (fun _ : cp_M => True) (cp_at D [] A (fun _ => [])) A) (by decide) rfl (Nat.le_of_ble_eq_true rfl) ?_ sz
  intro p e s m args below meth c A hC hA hK hI ls hl
  obtain ⟨hx, hb, hml, hown, hts, hr, hlocks⟩ := hC
  have hl : lv_has ls 1 [(0, .int 1)] := hl
  refine lv_iload_n hx hb dX0_needState_0 rfl (lv_at hl 0 rfl) ?_
  refine lv_if_ne (tgt := 12) hx hb dX0_needState_1 (by decide) (fun _ => ?_) (fun c => absurd c (by decide))
  exact cp_retv (u := fun _ _ => 0) hx hb hr hlocks hK hI trivial dX0_needState_12
set_option maxHeartbeats 4000000 in
set_option maxRecDepth 100000 in
theorem c_X0_needState_thr (l : Launch) (hst : l.stackTraces = false) (D : va_G) (sz : Nat) : vx_Met l yX0_needState wsX0_needState ({ frames := 6, cells := 1, slots := 6, locals := 81 } : Room) (va_Pc [.int 0] (cp_preZ D [] [] sz)) (va_Qv (fun _ : cp_M => False) (cp_at D [] (va_A [] sz) (fun _ => [])) (va_A [] sz)) (vx_X (fun _ : cp_M => True) (fun E _ _ => E = "java/lang/IllegalStateException") (va_A [] sz)) 1 6 (va_A [] sz) := by
  refine cp_MetX (Qk := fun A => va_Qv (fun _ : cp_M => False) (cp_at D [] A (fun _ => [])) A) (XCk := fun A => vx_X (fun _ : cp_M => True) (fun E _ _ => E = "java/lang/IllegalStateException") A) (by decide) rfl (Nat.le_of_ble_eq_true rfl) ?_ sz
  intro p e s m args below meth c A hC hA hK hI hZ hno ls hl
  obtain ⟨hx, hb, hml, hown, hts, hr, hlocks⟩ := hC
  have hown : s.vm.findClass RX0 = some m.cls := hown
  have hl : lv_has ls 1 [(0, .int 0)] := hl
  refine lv_iload_n hx hb dX0_needState_0 rfl (lv_at hl 0 rfl) ?_
  refine lv_if_ne (tgt := 12) hx hb dX0_needState_1 (by decide) (fun c => absurd rfl c) (fun _ => ?_)
  exact vx_throw0 hx hb hst (own := RX0) (cls := "java/lang/IllegalStateException") (names := ["java/lang/RuntimeException", "java/lang/Exception"]) (ik := 186) (ic := 188) (A := A) hown (by decide +kernel) (by decide +kernel) (hts _ (by decide +kernel)) (hts _ (by decide +kernel)) (vx_hat (B := [.castable "java/lang/IllegalStateException" "java/lang/IllegalStateException", .declares (Bundle.init0 "java/lang/RuntimeException"), .declares (Bundle.init0 "java/lang/Exception"), .declares (Bundle.init0 Bundle.tN)]) (fun w h => hts w (List.mem_cons_of_mem _ (List.mem_append_right _ h))) (by decide +kernel) (vx_c (va_Nw.use rfl hZ.2.2.2.2.1) (vx_c (va_Nw.use rfl hZ.2.2.2.2.2.2.2.2.1) (vx_c (va_Nw.use rfl hZ.2.2.2.2.2.2.2.2.2.1) (vx_c (va_Nw.use rfl hZ.2.2.2.2.2.2.2.2.2.2) vx_n))))) (by decide +kernel) hZ.1 hZ.2.1 hI.2.2 (hl.1.trans hml.symm) dX0_needState_4 dX0_needState_7 dX0_needState_8 dX0_needState_11 (fun x h => (hno x h).elim) (by decide) (by decide) (by decide) (by decide) hlocks (fun t hvm hsz hk => ⟨fun _ _ => 0, trivial, rfl, hsz, fun q hq _ => hk q hq⟩) (fun z h => nomatch h) (by decide) (by decide)

