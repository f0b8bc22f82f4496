/-! The law's world: the class's cells and the law's array, the reference's cells; calls over it. -/
theorem cp_sp (a b : va_W) {k : Nat} {q : Nat × va_E} (h : (b ++ a)[k]? = some q) : ∃ k2, (a ++ b)[k2]? = some q ∧ ((k < b.length ∧ k2 = a.length + k) ∨ (b.length ≤ k ∧ k2 + b.length = k ∧ k2 < a.length)) := by
  rcases Nat.lt_or_ge k b.length with c | c
  · rw [List.getElem?_append_left c] at h
    exact ⟨a.length + k, by rw [List.getElem?_append_right (by omega), Nat.add_sub_cancel_left]; exact h, Or.inl ⟨c, rfl⟩⟩
  · rw [List.getElem?_append_right c] at h
    have hl := (List.getElem?_eq_some_iff.mp h).1
    exact ⟨k - b.length, by rw [List.getElem?_append_left hl]; exact h, Or.inr ⟨c, by omega, hl⟩⟩
theorem cp_swap {D : va_G} {a b : va_W} {A : Nat → Prop} {H0 H : Heap} {locs : List Loc} (hI : cp_I D (a ++ b) A H0 H locs) : cp_I D (b ++ a) A H0 H locs := by
  obtain ⟨hP, hD, hS⟩ := hI
  refine ⟨fun k q hq => ?_, ⟨fun i j x y hi hj e => ?_, fun k q hq => ?_⟩, hS⟩
  · obtain ⟨k2, h, _⟩ := cp_sp a b hq
    exact hP k2 q h
  · obtain ⟨i2, hi2, ci⟩ := cp_sp a b hi
    obtain ⟨j2, hj2, cj⟩ := cp_sp a b hj
    have h9 := hD.1 i2 j2 x y hi2 hj2 e
    rcases ci with ⟨c1, c2⟩ | ⟨c1, c2, c3⟩ <;> rcases cj with ⟨d1, d2⟩ | ⟨d1, d2, d3⟩ <;> omega
  · obtain ⟨k2, h, _⟩ := cp_sp a b hq
    exact hD.2 k2 q h
section CPQ
variable {p : Program} {l : Launch} {e : Env} {R : Room} {s : State} {m : MethodId} {args : Array Value} {below : List Frame} {meth : Method} {c : Code} {H : Heap} {locs : List Loc} {cells slots : Nat} {Q : State → Prop}
variable {cc : ByteArray} {pc : Nat} {ls : Array Slot} {rest : List Value} {D : va_G} {A : Nat → Prop} {wr : va_W} {u : cp_M} {tc : List (ClassId × FieldType)} {cI cJ : ClassId} {h o : Nat} {a : Nat → Nat} {f9 : Nat → Int64}
variable {y : MethodName} {bytes : ByteArray} {maxL nL mc ms n index : Nat} {ret : Option FieldType} {wsy : List Cond} {rm : Room} {Ts : List Cond} {own : String} {As st0 : List Value}
theorem cp_cLi {post : Int32 → cp_M × (Nat → Int64) → Prop} (S : CallFix p m c cc nL s args Ts own) (hM : ∀ sz, Met l y wsy rm (va_Pc As (cp_preZ D tc (cp_wX cI h a u ++ cp_wO cJ o f9) sz)) (va_Qi post (cp_B D tc cI cJ h a o (va_A (cp_wX cI h a u ++ cp_wO cJ o f9) sz)) (va_A (cp_wX cI h a u ++ cp_wO cJ o f9) sz)) mc ms (va_A (cp_wX cI h a u ++ cp_wO cJ o f9) sz)) (cw : CallB R s args own index y bytes maxL ret wsy rm mc ms n ∧ (Cond.static y).before args s = true) (hK : va_K D vwCl tc s) (hI : cp_I D ((cp_wX cI h a u ++ cp_wO cJ o f9) ++ wr) A s.heap H locs) (hA : ∀ q, s.heap.size ≤ q → A q) (hZ : cp_Z A s s.heap) (hn : As.length = n) (hsz : ls.size = nL) (hst : st0 = As.reverse ++ rest) (hr : (rest.map fun v => v.category).sum ≤ 8) (hdg : decode cc pc = .ok (.invokestatic index, 3)) (hf : cells + mc ≤ R.cells ∧ slots + ms ≤ R.slots)
    (kk : ∀ (k : Int32) (u1 : cp_M) (f1 : Nat → Int64) (H1 : Heap) (locs1 : List Loc), post k (u1, f1) → cp_I D ((cp_wX cI h a u1 ++ cp_wO cJ o f1) ++ wr) A s.heap H1 locs1 → W p l e R s m args below meth c H1 locs1 (cells + mc) (slots + ms) Q (F0 m (pc + 3) ls (.int k :: rest))) : W p l e R s m args below meth c H locs cells slots Q (F0 m pc ls st0) := by
  have hfr := cp_fr hI hA
  refine va_calli (va_runS (g := F0 m pc ls st0) (As := As) (rest := rest) S (hM H.size) cw ⟨cp_blindZ _ _ _ _ _, fun U hU hW => ⟨rfl, ⟨by rw [hU], by rw [hU]; exact (cp_callee hI).1, va_K.moved hW.alike hK, (cp_callee hI).2⟩, cp_Zkept hZ hI.2.2 hfr hU hW⟩⟩ rfl hn hsz hst (lv_room hr) hdg hf) hI.2.2 (fun q _ h => hfr q h) hfr (fun r u1 t H1 locs1 ht hvm hp hB hz hk hS => ?_)
  obtain ⟨u2, f2⟩ := u1
  exact kk r u2 f2 H1 locs1 hp (cp_behind hI hA (ht ▸ hB.1) hB.2.2 hk hS)
end CPQ
