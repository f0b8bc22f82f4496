/-! The law's own methods: each calls one method of the class, catches what it throws, lays the answer into out. -/
def cp_wO (cJ : ClassId) (o : Nat) (f : Nat → Int64) : va_W := [(o, .inl (cJ, 1, .inr (.inl f)))]
def cp_B (D : va_G) (tys : List (ClassId × FieldType)) (cI cJ : ClassId) (h : Nat) (a : Nat → Nat) (o : Nat) (A : Nat → Prop) (v : cp_M × (Nat → Int64)) (t : State) : Prop := va_P D vwCl (cp_wX cI h a v.1 ++ cp_wO cJ o v.2) t.heap ∧ va_K D vwCl tys t ∧ va_D A (cp_wX cI h a v.1 ++ cp_wO cJ o v.2)
theorem cp_b01 {r : Int32} {P : Prop} (h : r = cp_b P) : r = 0 ∨ r = 1 := by
  by_cases q : P
  · exact Or.inr (h.trans (cp_bt q))
  · exact Or.inl (h.trans (cp_bf q))
theorem cp_MetL {l : Launch} {y : MethodName} {ws ws' : List Cond} {rm : Room} {cc : ByteArray} {maxL mc ms : Nat} {ret : Option FieldType} {hh : List (Nat × Nat × Nat × Nat)} {As : List Value} {D : va_G} {tys : List (ClassId × FieldType)} {w0 : va_W} {Qk : (Nat → Prop) → Array Value → State → Outcome → State → Prop}
    (hy : plainName y.cls = true) (hw : ws = Cond.codeWith y cc maxL ret hh :: ws') (hnL : (lg_sl As).length ≤ maxL)
    (body : ∀ (p : Program) (e : Env) (s : State) (m : MethodId) (args : Array Value) (below : List Frame) (meth : Method) (c : Code) (A : Nat → Prop), cp_C p s m args meth c cc maxL ws ret y.cls → (∀ q, s.heap.size ≤ q → A q) → va_K D vwCl tys s → cp_I D w0 A s.heap s.heap [] → cp_Z A s s.heap → c.exceptionTable.toList = tableOf hh →
      ∀ ls, lv_has ls maxL (lv_args 0 As) → W p l e rm s m args below meth c s.heap [] 0 0 (MQ below (Qk A) args s mc ms A) (F0 m 0 ls [])) (sz : Nat) : Met l y ws rm (va_Pc As (cp_preZ D tys w0 sz)) (Qk (va_A w0 sz)) mc ms (va_A w0 sz) := by
  refine va_MetW (cc := cc) (maxL := maxL) (ret := ret) (hh := hh) hy hw ?_
  intro p e s m args below meth c s₁ B hml hv
  obtain ⟨rfl, ⟨hsz, hP, hK, hD0⟩, hZ⟩ := hv
  subst hsz
  have hts := atoms_spec (ws := ws) B.pre
  have htab := vx_table (x := y) B (hts _ (by rw [hw]; exact List.mem_cons_self))
  have hl := lv_entry As (n := maxL) hnL
  rw [lg_entry_eq]
  exact body p e s m _ below meth c (va_A w0 s.heap.size) ⟨B.exec, B.bytes, hml, findClass_of_methodNamed B.named, hts, B.returns, B.notSynchronized⟩ (fun q h => Or.inr h) hK ⟨hP, hD0.self, va_S.rf⟩ hZ htab _ hl
section CPL
variable {p : Program} {l : Launch} {e : Env} {R : Room} {s : State} {m : MethodId} {args : Array Value} {below : List Frame} {meth : Method} {c : Code} {H : Heap} {locs : List Loc} {cells slots : Nat} {Q : State → Prop}
variable {cc : ByteArray} {pc : Nat} {ls : Array Slot} {rest : List Value} {D : va_G} {A : Nat → Prop} {wc : cp_M → va_W} {wr : va_W} {u : cp_M} {tc : List (ClassId × FieldType)} {vq : vw_C}
variable {y : MethodName} {bytes : ByteArray} {maxL nL mc ms n index ci : Nat} {ret : Option FieldType} {wsy : List Cond} {rm : Room} {Ts : List Cond} {own C : String} {b : Nat} {As st0 : List Value}
theorem cp_cXi {post : Int32 → cp_M → Prop} {xe : String → Prop} (S : CallFix p m c cc nL s args Ts own) (hM : ∀ sz, vx_Met l y wsy rm (va_Pc (.ref b :: As) (cp_preZ D tc (wc u) sz)) (va_Qi post (cp_at D tc (va_A (wc u) sz) wc) (va_A (wc u) sz)) (cp_XC D tc wc u xe (va_A (wc u) sz)) mc ms (va_A (wc u) sz)) (cw : CallW R s args own C index y bytes maxL ret wsy rm mc ms n) (hK : va_K D vwCl tc s) (hI : cp_I D (wc u ++ wr) A s.heap H locs) (hA : ∀ q, s.heap.size ≤ q → A q) (hZ : cp_Z A s s.heap)
    (hrv : ∃ fs, (wc u)[0]? = some (b, .inr (ci, fs))) (hci : vwCl[ci]? = some vq) (hq : vq.1 = C) (hn : As.length = n) (hsz : ls.size = nL) (hst : st0 = As.reverse ++ .ref b :: rest) (hr : (rest.map fun v => v.category).sum ≤ 8) (hdg : decode cc pc = .ok (.invokevirtual index, 3)) (hf : cells + mc ≤ R.cells ∧ slots + ms ≤ R.slots)
    (kx : ∀ (E : String) (ce : Cell) (q9 : Addr) (H1 : Heap) (locs1 : List Loc), xe E → cp_I D (wc u ++ wr) A s.heap H1 locs1 → H1[q9]? = some ce → ce.vm = .none → s.vm.findClass E = some ce.cls → vx_W p l e R s m args below meth c H1 locs1 (cells + mc) (slots + ms) Q (F0 m pc ls rest) q9)
    (kk : ∀ (r : Int32) (u1 : cp_M) (H1 : Heap) (locs1 : List Loc), post r u1 → cp_I D (wc u1 ++ wr) A s.heap H1 locs1 → W p l e R s m args below meth c H1 locs1 (cells + mc) (slots + ms) Q (F0 m (pc + 3) ls (.int r :: rest))) : W p l e R s m args below meth c H locs cells slots Q (F0 m pc ls st0) := by
  have hfr := cp_fr hI hA
  refine vx_calli (vx_runV (g := F0 m pc ls st0) (As := As) (rest := rest) S (hM H.size) cw ⟨cp_blindZ _ _ _ _ _, (cp_preV (As := As) hK hI hrv hci hq).2.1, fun U hU hW => ⟨rfl, ⟨by rw [hU], by rw [hU]; exact (cp_callee hI).1, va_K.moved hW.alike hK, (cp_callee hI).2⟩, cp_Zkept hZ hI.2.2 hfr hU hW⟩⟩ rfl hn hsz hst (lv_room hr) hdg hf) hI.2.2 (fun q _ h => hfr q h) hfr (fun q _ h => hfr q h) (fun E ce q9 u1 t H1 locs1 ht hvm hu hB hz hk hS h1 h2 h3 => ?_) (fun r u1 t H1 locs1 ht hvm hp hB hz hk hS => ?_)
  · have h9 := cp_behind hI hA (ht ▸ hB.2.1) hB.2.2.2 hk hS
    rw [hu] at h9
    exact kx E ce q9 H1 locs1 hB.1 h9 h1 h2 h3
  · exact kk r u1 H1 locs1 hp (cp_behind hI hA (ht ▸ hB.1) hB.2.2 hk hS)
end CPL
