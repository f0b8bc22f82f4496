/-! THE CLAIM OUT OF ONE WALK OF THE LAW'S BODY. Your part is whole_start (and what it stands on); all else here is the same for every law, but numbers. -/
def R_law : String := "CanticlePressLaw"
def lw_P (b : Addr) (xs : List Int32) (args : Array Value) (s : State) : Prop := args = #[.ref b] ∧ s.IntsAt b xs ∧ xs.length ≤ 2560 ∧ (Jvm.Cond.and given_1 narrow_1).before args s = true
def lw_Q (_ : Array Value) (s : State) (o : Outcome) (t : State) : Prop := o = .returned (some (.int 1)) ∧ Framed s o t [] 1058 9140
def lw_Z (below : List Frame) (a : Array Value) (s : State) : State → Prop := fun t => ∃ o, t.status = .running ∧ Ended t below o ∧ lw_Q a s o t
/-- the law's own end, with 1 on the stack, nothing written that was there before, its room as the claim has it -/
theorem lw_ret {p : Program} {l : Launch} {e : Env} {s : State} {m : MethodId} {below : List Frame} {meth : Method} {c : Code} {b : Nat} (hx : p.tables.exec = Jvm.exec) (hb : c.code = code) (hr : meth.sig.returnType = ret) (hlocks : meth.locks = false) {pc : Nat} {H : Heap} {ls : Array Slot} (hdg : decode code pc = .ok (.ireturn, 1)) : W p l e room_1 s m #[Value.ref b] below meth c H [] 1058 9140 (lw_Z below #[Value.ref b] s) (F0 m pc ls [.int 1]) := by
  intro T hT X
  obtain ⟨fs, hret, hrun, hended, hW, hframe⟩ := X.leave (v := some (.int 1)) (hlocks := hlocks) (fun h => by rw [hr] at h; cases h)
  have hmeth' : T.vm.method? m = some meth := X.method'
  refine ⟨T.setFrames fs, ?_, .returned (some (.int 1)), hrun, hended, rfl, ⟨_, rfl⟩, hW, hframe⟩
  jvm_step X.here [X.here.top, hx, hb, hdg, hmeth', hr, ret, narrow_b1]
  (try refine ⟨rfl, ?_⟩); (try refine ⟨rfl, ?_⟩)
  first | (intro acts; rw [hret _ acts rfl rfl rfl]) | rw [hret _ _ rfl rfl rfl]
  exact Steps.refl _
/-- what holds at the law's entry: the machine, the code, the tables' words (any of lw_tbl by 'hts w (by decide +kernel)'), the script of L ints xs at the cell b, what the Statement gives of the start (any of its parts by flat_of_before) -/
def lw_At (p : Program) (s : State) (m : MethodId) (meth : Method) (c : Code) (b L : Nat) (xs : Nat → Int32) : Prop :=
  p.tables.exec = Jvm.exec ∧ c.code = code ∧ meth.sig.returnType = ret ∧ c.maxLocals = 7 ∧ s.vm.findClass R_law = some m.cls ∧ (∀ w ∈ lw_tbl, w.before #[Value.ref b] s = true) ∧ va_X b L xs s s.heap ∧ b < s.heap.size ∧ meth.locks = false ∧ (Jvm.Cond.and given_1 narrow_1).before #[Value.ref b] s = true
/-! The law's world: the class's cells and the law's array, the reference's cells; calls over it. -/
theorem cp_sp (a b : va_W) {k : Nat} {q : Nat × va_E} (h : (b ++ a)[k]? = some q) : ∃ k2, (a ++ b)[k2]? = some q ∧ ((k < b.length ∧ k2 = a.length + k) ∨ (b.length ≤ k ∧ k2 + b.length = k ∧ k2 < a.length)) := by
  rcases Nat.lt_or_ge k b.length with c | c
  · rw [List.getElem?_append_left c] at h
    exact ⟨a.length + k, by rw [List.getElem?_append_right (by omega), Nat.add_sub_cancel_left]; exact h, Or.inl ⟨c, rfl⟩⟩
  · rw [List.getElem?_append_right c] at h
    have hl := (List.getElem?_eq_some_iff.mp h).1
    exact ⟨k - b.length, by rw [List.getElem?_append_left hl]; exact h, Or.inr ⟨c, by omega, hl⟩⟩
theorem cp_swap {D : va_G} {a b : va_W} {A : Nat → Prop} {H0 H : Heap} {locs : List Loc} (hI : cp_I D (a ++ b) A H0 H locs) : cp_I D (b ++ a) A H0 H locs := by
  obtain ⟨hP, hD, hS⟩ := hI
  refine ⟨fun k q hq => ?_, ⟨fun i j x y hi hj e => ?_, fun k q hq => ?_⟩, hS⟩
  · obtain ⟨k2, h, _⟩ := cp_sp a b hq
    exact hP k2 q h
  · obtain ⟨i2, hi2, ci⟩ := cp_sp a b hi
    obtain ⟨j2, hj2, cj⟩ := cp_sp a b hj
    have h9 := hD.1 i2 j2 x y hi2 hj2 e
    rcases ci with ⟨c1, c2⟩ | ⟨c1, c2, c3⟩ <;> rcases cj with ⟨d1, d2⟩ | ⟨d1, d2, d3⟩ <;> omega
  · obtain ⟨k2, h, _⟩ := cp_sp a b hq
    exact hD.2 k2 q h
section CPQ
variable {p : Program} {l : Launch} {e : Env} {R : Room} {s : State} {m : MethodId} {args : Array Value} {below : List Frame} {meth : Method} {c : Code} {H : Heap} {locs : List Loc} {cells slots : Nat} {Q : State → Prop}
variable {cc : ByteArray} {pc : Nat} {ls : Array Slot} {rest : List Value} {D : va_G} {A : Nat → Prop} {wr : va_W} {u : cp_M} {tc : List (ClassId × FieldType)} {cI cJ : ClassId} {h o : Nat} {a : Nat → Nat} {f9 : Nat → Int64}
variable {y : MethodName} {bytes : ByteArray} {maxL nL mc ms n index : Nat} {ret : Option FieldType} {wsy : List Cond} {rm : Room} {Ts : List Cond} {own : String} {As st0 : List Value} {hh : List (Nat × Nat × Nat × Nat)}
theorem cp_cLi {post : Int32 → cp_M × (Nat → Int64) → Prop} (S : CallFix p m c cc nL s args Ts own) (hM : ∀ sz, Met l y wsy rm (va_Pc As (cp_preZ D tc (cp_wX cI h a u ++ cp_wO cJ o f9) sz)) (va_Qi post (cp_B D tc cI cJ h a o (va_A (cp_wX cI h a u ++ cp_wO cJ o f9) sz)) (va_A (cp_wX cI h a u ++ cp_wO cJ o f9) sz)) mc ms (va_A (cp_wX cI h a u ++ cp_wO cJ o f9) sz)) (cw : vx_CSW R s args own index y bytes maxL ret hh wsy rm mc ms n) (hK : va_K D vwCl tc s) (hI : cp_I D ((cp_wX cI h a u ++ cp_wO cJ o f9) ++ wr) A s.heap H locs) (hA : ∀ q, s.heap.size ≤ q → A q) (hZ : cp_Z A s s.heap) (hn : As.length = n) (hsz : ls.size = nL) (hst : st0 = As.reverse ++ rest) (hr : (rest.map fun v => v.category).sum ≤ 8) (hdg : decode cc pc = .ok (.invokestatic index, 3)) (hf : cells + mc ≤ R.cells ∧ slots + ms ≤ R.slots)
    (kk : ∀ (k : Int32) (u1 : cp_M) (f1 : Nat → Int64) (H1 : Heap) (locs1 : List Loc), post k (u1, f1) → cp_I D ((cp_wX cI h a u1 ++ cp_wO cJ o f1) ++ wr) A s.heap H1 locs1 → W p l e R s m args below meth c H1 locs1 (cells + mc) (slots + ms) Q (F0 m (pc + 3) ls (.int k :: rest))) : W p l e R s m args below meth c H locs cells slots Q (F0 m pc ls st0) := by
  have hfr := cp_fr hI hA
  refine va_calli (vx_runSW (g := F0 m pc ls st0) (As := As) (rest := rest) S (hM H.size) cw ⟨cp_blindZ _ _ _ _ _, fun U hU hW => ⟨rfl, ⟨by rw [hU], by rw [hU]; exact (cp_callee hI).1, va_K.moved hW.alike hK, (cp_callee hI).2⟩, cp_Zkept hZ hI.2.2 hfr hU hW⟩⟩ rfl hn hsz hst (lv_room hr) hdg hf) hI.2.2 (fun q _ h => hfr q h) hfr (fun r u1 t H1 locs1 ht hvm hp hB hz hk hS => ?_)
  obtain ⟨u2, f2⟩ := u1
  exact kk r u2 f2 H1 locs1 hp (cp_behind hI hA (ht ▸ hB.1) hB.2.2 hk hS)
end CPQ
