section
-- ===== PART A: goes FIRST, ahead of the names: the tables' words, and 'selects' of the private methods out of them =====
/-- a private method of a class that the tables say can be made, by its rows of tables_1 -/
def lw_okq (q : MethodName × Nat) : Prop := (q.1.cls ≠ "java/lang/invoke/MethodHandle" ∧ q.1.cls ≠ "java/lang/invoke/VarHandle") ∧ Cond.instantiable q.1.cls q.2 ∈ tables_1 ∧ Cond.privateMethod q.1 ∈ tables_1 ∧ Cond.instanceMethod q.1 ∈ tables_1
theorem lw_p0 : lw_okq (⟨"java/lang/Throwable", "fillInStackTrace", "(I)Ljava/lang/Throwable;"⟩, 6) := ⟨⟨by decide +kernel, by decide +kernel⟩, List.mem_of_getElem? (i := 139) (by decide +kernel), List.mem_of_getElem? (i := 137) (by decide +kernel), List.mem_of_getElem? (i := 138) (by decide +kernel)⟩
theorem lw_p1 : lw_okq (⟨"CanticlePress", "isHymn", "(I)Z"⟩, 18) := ⟨⟨by decide +kernel, by decide +kernel⟩, List.mem_of_getElem? (i := 13) (by decide +kernel), List.mem_of_getElem? (i := 216) (by decide +kernel), List.mem_of_getElem? (i := 217) (by decide +kernel)⟩
theorem lw_p2 : lw_okq (⟨"CanticlePress", "pageCount", "(I)I"⟩, 18) := ⟨⟨by decide +kernel, by decide +kernel⟩, List.mem_of_getElem? (i := 13) (by decide +kernel), List.mem_of_getElem? (i := 220) (by decide +kernel), List.mem_of_getElem? (i := 221) (by decide +kernel)⟩
theorem lw_p3 : lw_okq (⟨"CanticlePress", "silenceServicesWithoutRight", "()J"⟩, 18) := ⟨⟨by decide +kernel, by decide +kernel⟩, List.mem_of_getElem? (i := 13) (by decide +kernel), List.mem_of_getElem? (i := 264) (by decide +kernel), List.mem_of_getElem? (i := 265) (by decide +kernel)⟩
theorem lw_p4 : lw_okq (⟨"CanticlePress", "hasLostItsRight", "(I)Z"⟩, 18) := ⟨⟨by decide +kernel, by decide +kernel⟩, List.mem_of_getElem? (i := 13) (by decide +kernel), List.mem_of_getElem? (i := 268) (by decide +kernel), List.mem_of_getElem? (i := 269) (by decide +kernel)⟩
theorem lw_p5 : lw_okq (⟨"CanticlePress", "isAllowed", "(III)Z"⟩, 18) := ⟨⟨by decide +kernel, by decide +kernel⟩, List.mem_of_getElem? (i := 13) (by decide +kernel), List.mem_of_getElem? (i := 272) (by decide +kernel), List.mem_of_getElem? (i := 273) (by decide +kernel)⟩
theorem lw_p6 : lw_okq (⟨"CanticlePress", "planEach", "(J)V"⟩, 18) := ⟨⟨by decide +kernel, by decide +kernel⟩, List.mem_of_getElem? (i := 13) (by decide +kernel), List.mem_of_getElem? (i := 276) (by decide +kernel), List.mem_of_getElem? (i := 277) (by decide +kernel)⟩
theorem lw_p7 : lw_okq (⟨"CanticlePress", "planAnew", "(I)V"⟩, 18) := ⟨⟨by decide +kernel, by decide +kernel⟩, List.mem_of_getElem? (i := 13) (by decide +kernel), List.mem_of_getElem? (i := 280) (by decide +kernel), List.mem_of_getElem? (i := 281) (by decide +kernel)⟩
theorem lw_p8 : lw_okq (⟨"CanticlePress", "bestHymn", "(II)I"⟩, 18) := ⟨⟨by decide +kernel, by decide +kernel⟩, List.mem_of_getElem? (i := 13) (by decide +kernel), List.mem_of_getElem? (i := 284) (by decide +kernel), List.mem_of_getElem? (i := 285) (by decide +kernel)⟩
theorem lw_p9 : lw_okq (⟨"CanticlePress", "isSuitable", "(III)Z"⟩, 18) := ⟨⟨by decide +kernel, by decide +kernel⟩, List.mem_of_getElem? (i := 13) (by decide +kernel), List.mem_of_getElem? (i := 288) (by decide +kernel), List.mem_of_getElem? (i := 289) (by decide +kernel)⟩
theorem lw_p10 : lw_okq (⟨"CanticlePress", "isRested", "(III)Z"⟩, 18) := ⟨⟨by decide +kernel, by decide +kernel⟩, List.mem_of_getElem? (i := 13) (by decide +kernel), List.mem_of_getElem? (i := 295) (by decide +kernel), List.mem_of_getElem? (i := 296) (by decide +kernel)⟩
theorem lw_p11 : lw_okq (⟨"CanticlePress", "servicesWith", "(I)I"⟩, 18) := ⟨⟨by decide +kernel, by decide +kernel⟩, List.mem_of_getElem? (i := 13) (by decide +kernel), List.mem_of_getElem? (i := 302) (by decide +kernel), List.mem_of_getElem? (i := 303) (by decide +kernel)⟩
theorem lw_p12 : lw_okq (⟨"CanticlePress", "hasServiceOn", "(II)Z"⟩, 18) := ⟨⟨by decide +kernel, by decide +kernel⟩, List.mem_of_getElem? (i := 13) (by decide +kernel), List.mem_of_getElem? (i := 356) (by decide +kernel), List.mem_of_getElem? (i := 357) (by decide +kernel)⟩
theorem lw_p13 : lw_okq (⟨"CanticlePress", "isService", "(I)Z"⟩, 18) := ⟨⟨by decide +kernel, by decide +kernel⟩, List.mem_of_getElem? (i := 13) (by decide +kernel), List.mem_of_getElem? (i := 367) (by decide +kernel), List.mem_of_getElem? (i := 368) (by decide +kernel)⟩
theorem lw_p14 : lw_okq (⟨"CanticlePress", "isHeldIn", "(II)Z"⟩, 18) := ⟨⟨by decide +kernel, by decide +kernel⟩, List.mem_of_getElem? (i := 13) (by decide +kernel), List.mem_of_getElem? (i := 385) (by decide +kernel), List.mem_of_getElem? (i := 386) (by decide +kernel)⟩
theorem lw_p15 : lw_okq (⟨"CanticlePress", "timesSung", "(II)I"⟩, 18) := ⟨⟨by decide +kernel, by decide +kernel⟩, List.mem_of_getElem? (i := 13) (by decide +kernel), List.mem_of_getElem? (i := 396) (by decide +kernel), List.mem_of_getElem? (i := 397) (by decide +kernel)⟩
def lw_privs_1 : List (MethodName × Nat) := [(⟨"java/lang/Throwable", "fillInStackTrace", "(I)Ljava/lang/Throwable;"⟩, 6), (⟨"CanticlePress", "isHymn", "(I)Z"⟩, 18), (⟨"CanticlePress", "pageCount", "(I)I"⟩, 18), (⟨"CanticlePress", "silenceServicesWithoutRight", "()J"⟩, 18), (⟨"CanticlePress", "hasLostItsRight", "(I)Z"⟩, 18), (⟨"CanticlePress", "isAllowed", "(III)Z"⟩, 18), (⟨"CanticlePress", "planEach", "(J)V"⟩, 18), (⟨"CanticlePress", "planAnew", "(I)V"⟩, 18), (⟨"CanticlePress", "bestHymn", "(II)I"⟩, 18), (⟨"CanticlePress", "isSuitable", "(III)Z"⟩, 18), (⟨"CanticlePress", "isRested", "(III)Z"⟩, 18), (⟨"CanticlePress", "servicesWith", "(I)I"⟩, 18), (⟨"CanticlePress", "hasServiceOn", "(II)Z"⟩, 18), (⟨"CanticlePress", "isService", "(I)Z"⟩, 18), (⟨"CanticlePress", "isHeldIn", "(II)Z"⟩, 18), (⟨"CanticlePress", "timesSung", "(II)I"⟩, 18)]
theorem lw_r1 : ∀ q ∈ lw_privs_1, lw_okq q := List.forall_mem_cons.mpr ⟨lw_p0, List.forall_mem_cons.mpr ⟨lw_p1, List.forall_mem_cons.mpr ⟨lw_p2, List.forall_mem_cons.mpr ⟨lw_p3, List.forall_mem_cons.mpr ⟨lw_p4, List.forall_mem_cons.mpr ⟨lw_p5, List.forall_mem_cons.mpr ⟨lw_p6, List.forall_mem_cons.mpr ⟨lw_p7, List.forall_mem_cons.mpr ⟨lw_p8, List.forall_mem_cons.mpr ⟨lw_p9, List.forall_mem_cons.mpr ⟨lw_p10, List.forall_mem_cons.mpr ⟨lw_p11, List.forall_mem_cons.mpr ⟨lw_p12, List.forall_mem_cons.mpr ⟨lw_p13, List.forall_mem_cons.mpr ⟨lw_p14, List.forall_mem_cons.mpr ⟨lw_p15, fun _ h => absurd h List.not_mem_nil⟩⟩⟩⟩⟩⟩⟩⟩⟩⟩⟩⟩⟩⟩⟩⟩
theorem lw_p16 : lw_okq (⟨"CanticlePressModel", "isHymn", "(I)Z"⟩, 19) := ⟨⟨by decide +kernel, by decide +kernel⟩, List.mem_of_getElem? (i := 407) (by decide +kernel), List.mem_of_getElem? (i := 491) (by decide +kernel), List.mem_of_getElem? (i := 492) (by decide +kernel)⟩
theorem lw_p17 : lw_okq (⟨"CanticlePressModel", "pagesOf", "(I)I"⟩, 19) := ⟨⟨by decide +kernel, by decide +kernel⟩, List.mem_of_getElem? (i := 407) (by decide +kernel), List.mem_of_getElem? (i := 495) (by decide +kernel), List.mem_of_getElem? (i := 496) (by decide +kernel)⟩
theorem lw_p18 : lw_okq (⟨"CanticlePressModel", "nextPage", "(II)I"⟩, 19) := ⟨⟨by decide +kernel, by decide +kernel⟩, List.mem_of_getElem? (i := 407) (by decide +kernel), List.mem_of_getElem? (i := 499) (by decide +kernel), List.mem_of_getElem? (i := 500) (by decide +kernel)⟩
theorem lw_p19 : lw_okq (⟨"CanticlePressModel", "hasRest", "(II)Z"⟩, 19) := ⟨⟨by decide +kernel, by decide +kernel⟩, List.mem_of_getElem? (i := 407) (by decide +kernel), List.mem_of_getElem? (i := 503) (by decide +kernel), List.mem_of_getElem? (i := 504) (by decide +kernel)⟩
theorem lw_p20 : lw_okq (⟨"CanticlePressModel", "may", "(III)Z"⟩, 19) := ⟨⟨by decide +kernel, by decide +kernel⟩, List.mem_of_getElem? (i := 407) (by decide +kernel), List.mem_of_getElem? (i := 529) (by decide +kernel), List.mem_of_getElem? (i := 530) (by decide +kernel)⟩
theorem lw_p21 : lw_okq (⟨"CanticlePressModel", "plans", "(I)V"⟩, 19) := ⟨⟨by decide +kernel, by decide +kernel⟩, List.mem_of_getElem? (i := 407) (by decide +kernel), List.mem_of_getElem? (i := 533) (by decide +kernel), List.mem_of_getElem? (i := 534) (by decide +kernel)⟩
theorem lw_p22 : lw_okq (⟨"CanticlePressModel", "isRested", "(II)Z"⟩, 19) := ⟨⟨by decide +kernel, by decide +kernel⟩, List.mem_of_getElem? (i := 407) (by decide +kernel), List.mem_of_getElem? (i := 537) (by decide +kernel), List.mem_of_getElem? (i := 538) (by decide +kernel)⟩
theorem lw_p23 : lw_okq (⟨"CanticlePressModel", "servicesWith", "(I)I"⟩, 19) := ⟨⟨by decide +kernel, by decide +kernel⟩, List.mem_of_getElem? (i := 407) (by decide +kernel), List.mem_of_getElem? (i := 541) (by decide +kernel), List.mem_of_getElem? (i := 542) (by decide +kernel)⟩
theorem lw_p24 : lw_okq (⟨"CanticlePressModel", "isService", "(I)Z"⟩, 19) := ⟨⟨by decide +kernel, by decide +kernel⟩, List.mem_of_getElem? (i := 407) (by decide +kernel), List.mem_of_getElem? (i := 569) (by decide +kernel), List.mem_of_getElem? (i := 570) (by decide +kernel)⟩
theorem lw_p25 : lw_okq (⟨"CanticlePressModel", "sungOf", "(II)I"⟩, 19) := ⟨⟨by decide +kernel, by decide +kernel⟩, List.mem_of_getElem? (i := 407) (by decide +kernel), List.mem_of_getElem? (i := 585) (by decide +kernel), List.mem_of_getElem? (i := 586) (by decide +kernel)⟩
def lw_privs_2 : List (MethodName × Nat) := [(⟨"CanticlePressModel", "isHymn", "(I)Z"⟩, 19), (⟨"CanticlePressModel", "pagesOf", "(I)I"⟩, 19), (⟨"CanticlePressModel", "nextPage", "(II)I"⟩, 19), (⟨"CanticlePressModel", "hasRest", "(II)Z"⟩, 19), (⟨"CanticlePressModel", "may", "(III)Z"⟩, 19), (⟨"CanticlePressModel", "plans", "(I)V"⟩, 19), (⟨"CanticlePressModel", "isRested", "(II)Z"⟩, 19), (⟨"CanticlePressModel", "servicesWith", "(I)I"⟩, 19), (⟨"CanticlePressModel", "isService", "(I)Z"⟩, 19), (⟨"CanticlePressModel", "sungOf", "(II)I"⟩, 19)]
theorem lw_r2 : ∀ q ∈ lw_privs_2, lw_okq q := List.forall_mem_cons.mpr ⟨lw_p16, List.forall_mem_cons.mpr ⟨lw_p17, List.forall_mem_cons.mpr ⟨lw_p18, List.forall_mem_cons.mpr ⟨lw_p19, List.forall_mem_cons.mpr ⟨lw_p20, List.forall_mem_cons.mpr ⟨lw_p21, List.forall_mem_cons.mpr ⟨lw_p22, List.forall_mem_cons.mpr ⟨lw_p23, List.forall_mem_cons.mpr ⟨lw_p24, List.forall_mem_cons.mpr ⟨lw_p25, fun _ h => absurd h List.not_mem_nil⟩⟩⟩⟩⟩⟩⟩⟩⟩⟩
def lw_privs : List (MethodName × Nat) := lw_privs_1 ++ (lw_privs_2)
def lw_tbl : List Cond := k2_sels lw_privs ++ tables_1
theorem lw_privs_ok : ∀ q ∈ lw_privs, lw_okq q := by
  show ∀ q ∈ lw_privs_1 ++ (lw_privs_2), lw_okq q
  exact List.forall_mem_append.mpr ⟨lw_r1, lw_r2⟩
-- ===== end of PART A; then your names; then what follows =====
end
section
/-! ===== BEGIN words of one list among another's, by their places ===== -/
theorem goodIn_r {big : List Cond} (ws : List Cond) (ps : List Nat) (hp : ws = ps.filterMap (fun i => big[i]?)) (h : ws.all goodWord = true) : GoodIn big ws := by
  intro w hw
  have h1 := List.all_eq_true.mp h w hw
  rw [hp] at hw
  obtain ⟨i, -, hi⟩ := List.mem_filterMap.mp hw
  have hm : w ∈ big := by first | exact List.mem_of_getElem? hi | exact List.getElem?_mem hi
  exact ⟨hm, good_of_word h1⟩
theorem goodIn_app {big a b : List Cond} (ha : GoodIn big a) (hb : GoodIn big b) : GoodIn big (a ++ b) := fun w h => (List.mem_append.mp h).elim (ha w) (hb w)
theorem goodIn_ca {big a b : List Cond} {c : Cond} (ha : GoodIn big (c :: a)) (hb : GoodIn big b) : GoodIn big (c :: (a ++ b)) := fun w h => (List.mem_cons.mp h).elim (fun e => ha w (List.mem_cons.mpr (Or.inl e))) (fun h => (List.mem_append.mp h).elim (fun h => ha w (List.mem_cons.mpr (Or.inr h))) (hb w))
theorem goodIn_sub {big ws : List Cond} (hm : ∀ w ∈ ws, w ∈ big) (h : ws.all goodWord = true) : GoodIn big ws := fun w hw => ⟨hm w hw, good_of_word (List.all_eq_true.mp h w hw)⟩
/-! ===== END ===== -/

/-! ===== BEGIN exceptions that leave a method, and their catching by the caller (launches without stack traces) ===== -/
section VXA
/-! The laws vx_back, vx_callV, vx_callS, vx_callSW, vx_throw0, vx_throwS follow proofs of the library, with one case more: JvmDerived/Free/Laws.lean (Back.of_free), Shelf42/LK1.lean (callV, callS), Shelf/KitTraced.lean (throwNew0V, throwNewS). -/
/-- where a method has thrown q: the class by its name, the cell, what was written, the world -/
def vx_T (XC : String → State → State → Prop) (st : State) (q : Addr) (t : State) (mc ms : Nat) (free : Addr → Prop) : Prop :=
  ∃ (E : String) (ce : Cell) (L : List Loc), XC E st t ∧ t.heap[q]? = some ce ∧ ce.vm = .none ∧ st.vm.findClass E = some ce.cls ∧ st.WarmedH t.vm ∧ st.sameButNew ({ t with vm := st.vm } : State) L mc ms ∧ ∀ z ∈ L, free z.base
def vx_Q (Qc : Array Value → State → Outcome → State → Prop) (XC : String → State → State → Prop) (mc ms : Nat) (free : Addr → Prop) : Array Value → State → Outcome → State → Prop := fun a st o t =>
  (Qc a st o t ∧ ∃ L, FrameEnd st o t L mc ms ∧ ∀ q ∈ L, free q.base) ∨ ∃ q, o = .threw q ∧ vx_T XC st q t mc ms free
/-- a callee that returns or throws -/
def vx_Met (l : Launch) (y : MethodName) (ws : List Cond) (rm : Room) (Pc : Array Value → State → Prop) (Qc : Array Value → State → Outcome → State → Prop) (XC : String → State → State → Prop) (mc ms : Nat) (free : Addr → Prop) : Prop :=
  MetFree l y (headSpec ws rm) Pc (fun _ _ _ _ _ => True) (vx_Q Qc XC mc ms free)
def vx_Post (XC : String → State → State → Prop) (mc ms : Nat) (free : Addr → Prop) : Pt → Array Value → Addr → Pt → Prop := fun A a q B =>
  ∃ (g : JFrame) (mk : MethodId) (t : State) (L : List Loc) (E : String) (ce : Cell), B.U.heap = t.heap ∧ B.U.vm = t.vm ∧ XC E (A.U.calling g mk a) t ∧ t.heap[q]? = some ce ∧ ce.vm = .none ∧ A.U.vm.findClass E = some ce.cls ∧ B.locs = A.locs ++ L ∧ (∀ z ∈ L, free z.base) ∧ B.cells = A.cells + mc ∧ B.slots = A.slots + ms
def vx_Back (l : Launch) (R : Room) (p : Program) (e : Env) (below : List Frame) (s : State) (sargs : Array Value) (y : MethodName) (len W9 : Nat)
    (Pre : Pt → Array Value → Prop) (Post : Pt → Array Value → Option Value → Pt → Prop) (PostX : Pt → Array Value → Addr → Pt → Prop) : Prop :=
  ∀ (m : MethodId) (meth : Method) (c : Code) (A : Pt) (g : JFrame) (ig : Instr) (mk : MethodId) (a : Array Value),
    Stand p l e R s m sargs below meth c A.U A.locs A.cells A.slots → g.method = m → g.locals.size = c.maxLocals → decode c.code g.pc = .ok (ig, len) →
    2 * g.monitorRoom + (g.stack.map fun v => v.category).sum ≤ W9 → A.U.methodNamed? y = some mk → Pre A a →
    (∃ (v : Option Value) (B : Pt), Stand p l e R s m sargs below meth c B.U B.locs B.cells B.slots ∧ Post A a v B ∧
      Steps p.tables e below (doInvoke e (A.U.setTop g) [] mk a).1 (B.U.setTop { g with pc := g.pc + len, stack := v.toList ++ g.stack })) ∨
    (∃ (q : Addr) (B : Pt), Stand p l e R s m sargs below meth c B.U B.locs B.cells B.slots ∧ PostX A a q B ∧
      Steps p.tables e below (doInvoke e (A.U.setTop g) [] mk a).1 ((B.U.setTop g).pushFrame (.throwing q)))
section Payer
variable {l : Launch} {R : Room} {p : Program} {e : Env} {below : List Frame} {s : State} {sargs : Array Value} {y : MethodName} {len W9 : Nat}
theorem vx_back {ws : List Cond} {rm : Room} {Pc : Array Value → State → Prop} {Qc : Array Value → State → Outcome → State → Prop} {XC : String → State → State → Prop} {mc ms : Nat} {free : Addr → Prop} {bytes : ByteArray} {maxL : Nat} {ret : Option FieldType}
    (hM : vx_Met l y ws rm Pc Qc XC mc ms free) (hblind : FrameBlind Pc) (hrc : rm.cells = mc) (hrs : rm.slots = ms)
    (hframes : rm.frames + 1 ≤ R.frames) (hlocals : W9 + (maxL + 11) + rm.locals ≤ R.locals)
    (hws : ∀ w ∈ ws, ∀ a' U, s.WarmedH U.vm → w.before a' U = true) (hcode : Cond.code y bytes maxL ret ∈ ws) (hinit : ∀ a' U, s.WarmedH U.vm → (Cond.initialized y.cls).before a' U = true) :
    vx_Back l R p e below s sargs y len W9 (PreOf R mc ms Pc) (PostOf Qc mc ms free) (vx_Post XC mc ms free) := by
  intro m meth c A g ig mk a X hg hsize hdg hW hn hp
  have h1 : (headSpec ws rm).pre.before a A.U = true := atoms_intro fun w hw => hws w hw _ _ X.warmed
  have h2 : (Cond.code y bytes maxL ret).before a A.U = true := hws _ hcode _ _ X.warmed
  have h3 : (Cond.initialized y.cls).before a A.U = true := hinit _ _ X.warmed
  have h4 : A.cells + (headSpec ws rm).room.cells ≤ R.cells := by rw [show (headSpec ws rm).room.cells = mc from hrc]; exact hp.1
  have h5 : A.slots + (headSpec ws rm).room.slots ≤ R.slots := by rw [show (headSpec ws rm).room.slots = ms from hrs]; exact hp.2.1
  have hPc : Pc a (A.U.calling g mk a) := hblind _ _ _ _ hp.2.2
  obtain ⟨U, Ls, c0, s0⟩ := A
  dsimp only [Pt.U, Pt.locs, Pt.cells, Pt.slots] at h1 h2 h3 h4 h5 X hn hPc ⊢
  obtain ⟨methY, cY, hmY, hcY, -, hlY, -, -, -, -⟩ := Cond.code_spec hn h2
  obtain ⟨kY, hkY, -⟩ := className_of_methodNamed hn
  have hinitY : kY.init = .initialized := Cond.initialized_spec (findClass_of_methodNamed hn) hkY h3
  have h : At U g.method c below := by rw [hg]; exact X.here
  have hlocals9 : W9 + (maxL + 11) + (headSpec ws rm).room.locals ≤ R.locals := hlocals
  have happ : (headSpec ws rm).appliesLoose y e.platform (U.calling g mk a) = true :=
    Spec.appliesLoose_calling (g := g) h hdg hn hkY hinitY
      (X.room_calling (g := g) (R' := (headSpec ws rm).room) hsize hmY hcY hframes (by rw [hlY]; omega) h4 h5) h1
  obtain ⟨mid, hmid⟩ := h.above
  have hfr : (U.setTop g).frames = (.java g :: mid) ++ below := by rw [State.frames_setTop' g h.top, hmid]; rfl
  obtain ⟨o, s₂, hsteps, -, hend, hq⟩ := Steps.callFree hM p X.admits X.cas X.clock (acts := []) hfr happ hPc trivial
  have hq' : vx_Q Qc XC mc ms free a (U.calling g mk a) o s₂ := hq
  rw [State.frames_setTop' g h.top] at hend
  obtain ⟨g₀, hg0⟩ := Option.isSome_iff_exists.mp h.top
  obtain ⟨r, hr⟩ := State.topJava?_eq_some.mp hg0
  have hr' : (({ U with heap := s₂.heap, slotsUsed := s₂.slotsUsed } : State).setVm s₂.vm).frames = .java g₀ :: r := hr
  rcases hq' with ⟨hqc, L, hfe, hL⟩ | ⟨q, rfl, E, ce, L, hx, hce, hcv, hcl, hW₂, hsm, hL⟩
  · obtain ⟨⟨v, rfl⟩, hW₂, e2, q2, q3, q4, q5, q6⟩ := id hfe
    have e3 : s₂ = ({ (U.calling g mk a).setFrames s₂.frames with heap := s₂.heap, slotsUsed := s₂.slotsUsed } : State).setVm s₂.vm := by
      have : s₂ = ({ s₂ with vm := (U.calling g mk a).vm } : State).setVm s₂.vm := rfl
      rw [e2] at this
      exact this
    obtain ⟨c₂, i₂, len₂, hc₂, hd₂, hf₂⟩ := hend
    have hW' : U.WarmedH s₂.vm := hW₂
    have hcc : c₂ = c := by
      have h1 : s₂.code? g.method = U.code? g.method := by
        rw [State.code?_eq, State.code?_eq, hW'.alike.method?]
      exact Option.some.inj (hc₂.symm.trans (h1.trans h.code))
    subst hcc
    have hlen : len₂ = len := by rw [hdg] at hd₂; cases hd₂; rfl
    subst hlen
    have hs₂ : s₂ = (({ U with heap := s₂.heap, slotsUsed := s₂.slotsUsed } : State).setVm s₂.vm).setTop { g with pc := g.pc + len₂, stack := v.toList ++ g.stack } := by
      refine e3.trans ?_
      rw [hf₂, State.calling_eq h.top, State.setFrames_setFrames, State.setTop_of_frames _ hr', hr]
      rfl
    have hsame : U.sameButNew ({ U with heap := s₂.heap, slotsUsed := s₂.slotsUsed } : State) L mc ms := by
      refine ⟨?_, q2, q3, q4, q5, q6⟩
      obtain ⟨t, ht, -⟩ := State.frames_cons hr
      show ({ U with heap := s₂.heap, slotsUsed := s₂.slotsUsed } : State) = { U.setFrames U.frames with heap := s₂.heap, slotsUsed := s₂.slotsUsed }
      rw [State.setFrames_self ht]
    subst hg
    refine Or.inl ⟨v, ⟨(({ U with heap := s₂.heap, slotsUsed := s₂.slotsUsed } : State).setVm s₂.vm), Ls ++ L, c0 + mc, s0 + ms⟩,
      ⟨X.admits, X.cas, X.clock, X.frames, X.room, X.hears, X.method, X.code, (X.here.setHeapUsed s₂.heap s₂.slotsUsed).setVm hW'.alike, X.tail, State.WarmedH.trans X.warmed hW', X.limits, X.bytes, X.same.trans (hsame.setVm s.vm)⟩,
      ⟨g, mk, s₂, L, rfl, rfl, hqc, rfl, hL, rfl, rfl⟩, ?_⟩
    show Steps p.tables e below _ ((({ U with heap := s₂.heap, slotsUsed := s₂.slotsUsed } : State).setVm s₂.vm).setTop { g with pc := g.pc + len₂, stack := v.toList ++ g.stack })
    rw [← hs₂]
    exact hsteps
  · obtain ⟨e2, q2, q3, q4, q5, q6⟩ := id hsm
    have e3 : s₂ = ({ (U.calling g mk a).setFrames s₂.frames with heap := s₂.heap, slotsUsed := s₂.slotsUsed } : State).setVm s₂.vm := by
      have : s₂ = ({ s₂ with vm := (U.calling g mk a).vm } : State).setVm s₂.vm := rfl
      rw [e2] at this
      exact this
    have hf₂ : s₂.frames = .throwing q :: .java g :: U.frames.tail := hend
    have hW' : U.WarmedH s₂.vm := hW₂
    have hs₂ : s₂ = ((({ U with heap := s₂.heap, slotsUsed := s₂.slotsUsed } : State).setVm s₂.vm).setTop g).pushFrame (.throwing q) := by
      refine e3.trans ?_
      rw [hf₂, State.calling_eq h.top, State.setFrames_setFrames, State.pushFrame, State.frames_setTop _ hr', State.setTop_of_frames _ hr', State.setFrames_setFrames, hr]
      rfl
    have hsame : U.sameButNew ({ U with heap := s₂.heap, slotsUsed := s₂.slotsUsed } : State) L mc ms := by
      refine ⟨?_, q2, q3, q4, q5, q6⟩
      obtain ⟨t, ht, -⟩ := State.frames_cons hr
      show ({ U with heap := s₂.heap, slotsUsed := s₂.slotsUsed } : State) = { U.setFrames U.frames with heap := s₂.heap, slotsUsed := s₂.slotsUsed }
      rw [State.setFrames_self ht]
    subst hg
    refine Or.inr ⟨q, ⟨(({ U with heap := s₂.heap, slotsUsed := s₂.slotsUsed } : State).setVm s₂.vm), Ls ++ L, c0 + mc, s0 + ms⟩,
      ⟨X.admits, X.cas, X.clock, X.frames, X.room, X.hears, X.method, X.code, (X.here.setHeapUsed s₂.heap s₂.slotsUsed).setVm hW'.alike, X.tail, State.WarmedH.trans X.warmed hW', X.limits, X.bytes, X.same.trans (hsame.setVm s.vm)⟩,
      ⟨g, mk, s₂, L, E, ce, rfl, rfl, hx, hce, hcv, hcl, rfl, hL, rfl, rfl⟩, ?_⟩
    show Steps p.tables e below _ (((({ U with heap := s₂.heap, slotsUsed := s₂.slotsUsed } : State).setVm s₂.vm).setTop g).pushFrame (.throwing q))
    rw [← hs₂]
    exact hsteps
end Payer
section Calls
variable {p : Program} {l : Launch} {e : Env} {R : Room} {s : State} {m : MethodId} {args : Array Value} {below : List Frame} {meth : Method} {c : Code} {T : State} {locs : List Loc} {cells slots : Nat}
theorem vx_callV (X : Stand p l e R s m args below meth c T locs cells slots) (hexec : p.tables.exec = Jvm.exec) {own C : String} {index : Nat} {y : MethodName} {bytes : ByteArray} {maxL : Nat} {ret : Option FieldType}
    (hown : s.vm.findClass own = some m.cls) (hlink : (Cond.methodLink own index y).before args s = true) (hinst : (Cond.instanceMethod y).before args s = true) (hsel : (Cond.selects C y y).before args s = true)
    (hcode : (Cond.code y bytes maxL ret).before args s = true) (hy : y.cls ≠ "java/lang/invoke/MethodHandle" ∧ y.cls ≠ "java/lang/invoke/VarHandle")
    {W9 : Nat} {Pre : Pt → Array Value → Prop} {Post : Pt → Array Value → Option Value → Pt → Prop} {PostX : Pt → Array Value → Addr → Pt → Prop} (hK : vx_Back l R p e below s args y 3 W9 Pre Post PostX)
    {b : Addr} {cellB : Cell} (hcell : T.heap[b]? = some cellB) (hobj : cellB.vm.isStatics = false) (hcls : s.vm.findClass C = some cellB.cls)
    {g : JFrame} (hg : g.method = m) (hsize : g.locals.size = c.maxLocals) {argsL rest : List Value} (hlen : ∀ sig, parseMethodDescriptor y.desc = some sig → argsL.length = sig.parameters.length)
    (hstack : g.stack = argsL.reverse ++ .ref b :: rest) (hW : 2 * g.monitorRoom + (rest.map fun v => v.category).sum ≤ W9) (hdg : decode c.code g.pc = .ok (.invokevirtual index, 3))
    (hpre : ∀ vm₁, s.WarmedH vm₁ → Pre ⟨T.setVm vm₁, locs, cells, slots⟩ (Value.ref b :: argsL).toArray) :
    (∃ (v : Option Value) (vm₁ : Vm) (B : Pt), s.WarmedH vm₁ ∧ Stand p l e R s m args below meth c B.U B.locs B.cells B.slots ∧ Post ⟨T.setVm vm₁, locs, cells, slots⟩ (Value.ref b :: argsL).toArray v B ∧
      ∀ target, Steps p.tables e below (B.U.setTop { g with pc := g.pc + 3, stack := v.toList ++ rest }) target → Steps p.tables e below (T.setTop g) target) ∨
    (∃ (q : Addr) (vm₁ : Vm) (B : Pt), s.WarmedH vm₁ ∧ Stand p l e R s m args below meth c B.U B.locs B.cells B.slots ∧ PostX ⟨T.setVm vm₁, locs, cells, slots⟩ (Value.ref b :: argsL).toArray q B ∧
      Steps p.tables e below (T.setTop g) ((B.U.setTop { g with stack := rest }).pushFrame (.throwing q))) := by
  obtain ⟨mk, methM, hnamed, hmethM, hstM, habM⟩ := Cond.instanceMethod_spec hinst
  obtain ⟨methM', cM, hmethM', -, -, -, -, -, -, hsigM⟩ := Cond.code_spec hnamed hcode
  cases hmethM.symm.trans hmethM'
  obtain ⟨c2, r2, m2, q1, q2, q3, q4, kP, hkP, hkPi⟩ := Cond.selects_spec hsel
  cases hcls.symm.trans q1
  cases (State.methodFound?_of_named hnamed hy).symm.trans q2
  cases hnamed.symm.trans q3
  have hselP : selectMethod e.platform s.vm cellB.cls mk = .method mk := by rw [Launch.admits_selectMethod X.admits]; exact q4
  obtain ⟨vm₁, X₁, hstep₁⟩ := X.invokevirtual hexec hown hlink hnamed hmethM hstM hkP hkPi hy (a := b) (cell := cellB) hcell
    (fun z h => by rw [h] at hobj; cases hobj) hselP hmethM habM hkP hkPi (g := g) hg (argsL := argsL) (rest := rest) (hlen _ hsigM) hstack hdg
  rcases hK m meth c ⟨T.setVm vm₁, locs, cells, slots⟩ { g with stack := rest } (.invokevirtual index) mk (Value.ref b :: argsL).toArray X₁ hg hsize hdg hW (X₁.named hnamed) (hpre vm₁ X₁.warmed) with ⟨v, B, X', hpost, hsteps⟩ | ⟨q, B, X', hpost, hsteps⟩
  · exact Or.inl ⟨v, vm₁, B, X₁.warmed, X', hpost, fun target h => hstep₁ _ fun acts => by rw [doInvoke_state]; exact hsteps.trans h⟩
  · exact Or.inr ⟨q, vm₁, B, X₁.warmed, X', hpost, hstep₁ _ fun acts => by rw [doInvoke_state]; exact hsteps⟩
theorem vx_callS (X : Stand p l e R s m args below meth c T locs cells slots) (hexec : p.tables.exec = Jvm.exec) {own : String} {index : Nat} {y : MethodName} {bytes : ByteArray} {maxL : Nat} {ret : Option FieldType}
    (hown : s.vm.findClass own = some m.cls) (hlink : (Cond.methodLink own index y).before args s = true) (hstat : (Cond.static y).before args s = true) (hinit : (Cond.initialized y.cls).before args s = true)
    (hcode : (Cond.code y bytes maxL ret).before args s = true) (hy : y.cls ≠ "java/lang/invoke/MethodHandle" ∧ y.cls ≠ "java/lang/invoke/VarHandle")
    {W9 : Nat} {Pre : Pt → Array Value → Prop} {Post : Pt → Array Value → Option Value → Pt → Prop} {PostX : Pt → Array Value → Addr → Pt → Prop} (hK : vx_Back l R p e below s args y 3 W9 Pre Post PostX)
    {g : JFrame} (hg : g.method = m) (hsize : g.locals.size = c.maxLocals) {argsL rest : List Value} (hlen : ∀ sig, parseMethodDescriptor y.desc = some sig → argsL.length = sig.parameters.length)
    (hstack : g.stack = argsL.reverse ++ rest) (hW : 2 * g.monitorRoom + (rest.map fun v => v.category).sum ≤ W9) (hdg : decode c.code g.pc = .ok (.invokestatic index, 3))
    (hpre : ∀ vm₁, s.WarmedH vm₁ → Pre ⟨T.setVm vm₁, locs, cells, slots⟩ argsL.toArray) :
    (∃ (v : Option Value) (vm₁ : Vm) (B : Pt), s.WarmedH vm₁ ∧ Stand p l e R s m args below meth c B.U B.locs B.cells B.slots ∧ Post ⟨T.setVm vm₁, locs, cells, slots⟩ argsL.toArray v B ∧
      ∀ target, Steps p.tables e below (B.U.setTop { g with pc := g.pc + 3, stack := v.toList ++ rest }) target → Steps p.tables e below (T.setTop g) target) ∨
    (∃ (q : Addr) (vm₁ : Vm) (B : Pt), s.WarmedH vm₁ ∧ Stand p l e R s m args below meth c B.U B.locs B.cells B.slots ∧ PostX ⟨T.setVm vm₁, locs, cells, slots⟩ argsL.toArray q B ∧
      Steps p.tables e below (T.setTop g) ((B.U.setTop { g with stack := rest }).pushFrame (.throwing q))) := by
  obtain ⟨mk, hnamed⟩ := Cond.code_named hcode
  obtain ⟨methM, cM, hmethM, -, -, -, -, -, -, hsigM⟩ := Cond.code_spec hnamed hcode
  have hstatic : methM.isStatic = true := Cond.static_spec hnamed hmethM hstat
  obtain ⟨kP, hkP, -⟩ := className_of_methodNamed hnamed
  have hinitP : kP.init = .initialized := Cond.initialized_spec (findClass_of_methodNamed hnamed) hkP hinit
  obtain ⟨vm₁, X₁, hstep₁⟩ := X.invokestatic hexec hown hlink hnamed hmethM hstatic hkP hinitP hy (g := g) hg (argsL := argsL) (rest := rest) (hlen _ hsigM) hstack hdg
  rcases hK m meth c ⟨T.setVm vm₁, locs, cells, slots⟩ { g with stack := rest } (.invokestatic index) mk argsL.toArray X₁ hg hsize hdg hW (X₁.named hnamed) (hpre vm₁ X₁.warmed) with ⟨v, B, X', hpost, hsteps⟩ | ⟨q, B, X', hpost, hsteps⟩
  · exact Or.inl ⟨v, vm₁, B, X₁.warmed, X', hpost, fun target h => hstep₁ _ fun acts => by rw [doInvoke_state]; exact hsteps.trans h⟩
  · exact Or.inr ⟨q, vm₁, B, X₁.warmed, X', hpost, hstep₁ _ fun acts => by rw [doInvoke_state]; exact hsteps⟩
end Calls
theorem vx_cls {s : State} {T : State} {vm₁ : Vm} {E : String} {k : ClassId} (hW : s.WarmedH vm₁) (h : (T.setVm vm₁).vm.findClass E = some k) : s.vm.findClass E = some k := by
  have h1 : vm₁.findClass E = some k := h
  rw [hW.alike.findClass] at h1
  exact h1
/-- the method's frame g, with q thrown over it -/
def vx_W (p : Program) (l : Launch) (e : Env) (R : Room) (s : State) (m : MethodId) (args : Array Value) (below : List Frame) (meth : Method) (c : Code) (H : Heap) (locs : List Loc) (cells slots : Nat) (Q : State → Prop) (g : JFrame) (q : Addr) : Prop :=
  ∀ T : State, T.heap = H → Stand p l e R s m args below meth c T locs cells slots → ∃ t, Steps p.tables e below ((T.setTop g).pushFrame (.throwing q)) t ∧ Q t
def vx_Run (p : Program) (l : Launch) (e : Env) (R : Room) (s : State) (m : MethodId) (args : Array Value) (below : List Frame) (meth : Method) (c : Code) (H : Heap) (locs : List Loc) (cells slots mc ms : Nat) (g : JFrame) (rest : List Value) (Qa : State → Outcome → State → Prop) (XC : String → State → State → Prop) (free : Addr → Prop) : Prop :=
  ∀ T : State, T.heap = H → Stand p l e R s m args below meth c T locs cells slots →
    (∃ (v : Option Value) (st₀ t T' : State) (L : List Loc), st₀.heap = H ∧ Stand p l e R s m args below meth c T' (locs ++ L) (cells + mc) (slots + ms) ∧ (∀ q ∈ L, free q.base) ∧ T'.heap = t.heap ∧ T'.vm = t.vm ∧ Qa st₀ (.returned v) t ∧
      Goes p e below T g T' { g with pc := g.pc + 3, stack := v.toList ++ rest }) ∨
    (∃ (q : Addr) (st₀ t T' : State) (L : List Loc) (E : String) (ce : Cell), st₀.heap = H ∧ Stand p l e R s m args below meth c T' (locs ++ L) (cells + mc) (slots + ms) ∧ (∀ z ∈ L, free z.base) ∧ T'.heap = t.heap ∧ T'.vm = t.vm ∧ XC E st₀ t ∧ t.heap[q]? = some ce ∧ ce.vm = .none ∧ s.vm.findClass E = some ce.cls ∧
      Steps p.tables e below (T.setTop g) ((T'.setTop { g with stack := rest }).pushFrame (.throwing q)))
def vx_X {S : Type} (px : S → Prop) (B : String → S → State → Prop) (A : Nat → Prop) : String → State → State → Prop := fun E st t => ∃ u : S, px u ∧ B E u t ∧ va_F A st t
section Runs
variable {p : Program} {l : Launch} {e : Env} {R : Room} {s : State} {m : MethodId} {args : Array Value} {below : List Frame} {meth : Method} {c : Code} {H : Heap} {locs : List Loc} {cells slots : Nat}
variable {y : MethodName} {bytes cc : ByteArray} {maxL nL mc ms n index : Nat} {ret : Option FieldType} {ws : List Cond} {rm : Room} {Pc : Array Value → State → Prop} {Qc : Array Value → State → Outcome → State → Prop} {XC : String → State → State → Prop} {free : Addr → Prop} {Ts : List Cond} {own C : String} {b : Addr} {As rest : List Value} {g : JFrame}
theorem vx_callBack (cb : CallB R s args own index y bytes maxL ret ws rm mc ms n) (hM : vx_Met l y ws rm Pc Qc XC mc ms free) (hbl : FrameBlind Pc) : vx_Back l R p e below s args y 3 8 (PreOf R mc ms Pc) (PostOf Qc mc ms free) (vx_Post XC mc ms free) := by
  obtain ⟨hrc, hrs, hfr, hlo, hws, hcw, -, hini, -⟩ := cb
  exact vx_back (bytes := bytes) (maxL := maxL) (ret := ret) hM hbl hrc hrs hfr hlo hws hcw (fun a' U hW => word_at hW (Or.inl (by first | rfl | simp [Cond.onTables, Cond.keeps, Cond.steady])) hini)
theorem vx_runV (S : CallFix p m c cc nL s args Ts own) (hM : vx_Met l y ws rm Pc Qc XC mc ms free) (cw : CallW R s args own C index y bytes maxL ret ws rm mc ms n) (hp : PreV s H C b Pc As)
    (hg : g.method = m) (hn : As.length = n) (hsize : g.locals.size = nL) (hstack : g.stack = As.reverse ++ .ref b :: rest) (hW : 2 * g.monitorRoom + (rest.map fun v => v.category).sum ≤ 8) (hdg : decode cc g.pc = .ok (.invokevirtual index, 3)) (hf : cells + mc ≤ R.cells ∧ slots + ms ≤ R.slots) :
    vx_Run p l e R s m args below meth c H locs cells slots mc ms g rest (Qc (Value.ref b :: As).toArray) XC free := by
  have hK : vx_Back l R p e below s args y 3 8 (PreOf R mc ms Pc) (PostOf Qc mc ms free) (vx_Post XC mc ms free) := vx_callBack cw.1 hM hp.1
  obtain ⟨⟨-, -, -, -, -, -, hcode, -, hy, hlen, hl⟩, hin, hse⟩ := cw
  obtain ⟨hx, hb, hml, ho, -⟩ := S
  obtain ⟨-, ⟨cellB, hcB, hoB, hclB⟩, hPc⟩ := hp
  intro T hT X
  rcases vx_callV X hx (C := C) (bytes := bytes) (maxL := maxL) (ret := ret) ho hl hin hse hcode hy hK (by rw [hT]; exact hcB) hoB hclB hg (hsize.trans hml.symm) (argsL := As) (rest := rest) (fun sig h => hn.trans (hlen sig h)) hstack hW (by rw [hb]; exact hdg)
    (fun vm₁ hW₁ => ⟨hf.1, hf.2, hPc (T.setVm vm₁) hT hW₁⟩) with ⟨v, vm₁, ⟨U', l2, c2, s2⟩, hW₁, X', ⟨g', mk, t, L, e1, e2, hq, h1, hL, h2, h3⟩, st⟩ | ⟨q, vm₁, ⟨U', l2, c2, s2⟩, hW₁, X', ⟨g', mk, t, L, E, ce, e1, e2, hq, hce, hcv, hcl, h1, hL, h2, h3⟩, st⟩
  · dsimp only [Pt.U, Pt.locs, Pt.cells, Pt.slots] at X' e1 e2 h1 h2 h3 st
    subst h1; subst h2; subst h3
    exact Or.inl ⟨v, (T.setVm vm₁).calling g' mk (Value.ref b :: As).toArray, t, U', L, hT, X', hL, e1, e2, hq, st⟩
  · dsimp only [Pt.U, Pt.locs, Pt.cells, Pt.slots] at X' e1 e2 h1 h2 h3 st hcl
    subst h1; subst h2; subst h3
    exact Or.inr ⟨q, (T.setVm vm₁).calling g' mk (Value.ref b :: As).toArray, t, U', L, E, ce, hT, X', hL, e1, e2, hq, hce, hcv, vx_cls hW₁ hcl, st⟩
theorem vx_runS (S : CallFix p m c cc nL s args Ts own) (hM : vx_Met l y ws rm Pc Qc XC mc ms free) (cw : CallB R s args own index y bytes maxL ret ws rm mc ms n ∧ (Cond.static y).before args s = true) (hp : PreS s H Pc As)
    (hg : g.method = m) (hn : As.length = n) (hsize : g.locals.size = nL) (hstack : g.stack = As.reverse ++ rest) (hW : 2 * g.monitorRoom + (rest.map fun v => v.category).sum ≤ 8) (hdg : decode cc g.pc = .ok (.invokestatic index, 3)) (hf : cells + mc ≤ R.cells ∧ slots + ms ≤ R.slots) :
    vx_Run p l e R s m args below meth c H locs cells slots mc ms g rest (Qc As.toArray) XC free := by
  have hK : vx_Back l R p e below s args y 3 8 (PreOf R mc ms Pc) (PostOf Qc mc ms free) (vx_Post XC mc ms free) := vx_callBack cw.1 hM hp.1
  obtain ⟨⟨-, -, -, -, -, -, hcode, hini, hy, hlen, hl⟩, hstt⟩ := cw
  obtain ⟨hx, hb, hml, ho, -⟩ := S
  intro T hT X
  rcases vx_callS X hx (bytes := bytes) (maxL := maxL) (ret := ret) ho hl hstt hini hcode hy hK hg (hsize.trans hml.symm) (argsL := As) (rest := rest) (fun sig h => hn.trans (hlen sig h)) hstack hW (by rw [hb]; exact hdg)
    (fun vm₁ hW₁ => ⟨hf.1, hf.2, hp.2 (T.setVm vm₁) hT hW₁⟩) with ⟨v, vm₁, ⟨U', l2, c2, s2⟩, hW₁, X', ⟨g', mk, t, L, e1, e2, hq, h1, hL, h2, h3⟩, st⟩ | ⟨q, vm₁, ⟨U', l2, c2, s2⟩, hW₁, X', ⟨g', mk, t, L, E, ce, e1, e2, hq, hce, hcv, hcl, h1, hL, h2, h3⟩, st⟩
  · dsimp only [Pt.U, Pt.locs, Pt.cells, Pt.slots] at X' e1 e2 h1 h2 h3 st
    subst h1; subst h2; subst h3
    exact Or.inl ⟨v, (T.setVm vm₁).calling g' mk As.toArray, t, U', L, hT, X', hL, e1, e2, hq, st⟩
  · dsimp only [Pt.U, Pt.locs, Pt.cells, Pt.slots] at X' e1 e2 h1 h2 h3 st hcl
    subst h1; subst h2; subst h3
    exact Or.inr ⟨q, (T.setVm vm₁).calling g' mk As.toArray, t, U', L, E, ce, hT, X', hL, e1, e2, hq, hce, hcv, vx_cls hW₁ hcl, st⟩
end Runs
section Rows
variable {p : Program} {l : Launch} {e : Env} {R : Room} {s : State} {m : MethodId} {args : Array Value} {below : List Frame} {meth : Method} {c : Code} {H : Heap} {locs : List Loc} {cells slots : Nat} {Q : State → Prop}
variable {mc ms : Nat} {free : Addr → Prop} {A0 A1 : Nat → Prop} {H0 : Heap} {a : Array Value} {pc : Nat} {ls : Array Slot} {st0 rest : List Value}
theorem vx_keep {st₀ t T' : State} {L : List Loc} (h0 : st₀.heap = H) (e1 : T'.heap = t.heap) (hS : va_S A0 H0 H locs) (hA : ∀ q, q < H.size → A1 q → A0 q) (hf : ∀ q, free q → A0 q) (hL : ∀ q ∈ L, free q.base) (hF : va_F A1 st₀ t) :
    H.size ≤ T'.heap.size ∧ (∀ q : Nat, q < H.size → ¬ A1 q → T'.heap[q]? = H[q]?) ∧ va_S A0 H0 T'.heap (locs ++ L) := by
  obtain ⟨hz, hk⟩ := hF
  rw [h0] at hz hk
  exact ⟨by rw [e1]; exact hz, fun q h1 h2 => by rw [e1]; exact hk q h1 h2,
    ⟨Nat.le_trans hS.1 (by rw [e1]; exact hz), fun q h1 h2 => by rw [e1, hk q (Nat.lt_of_lt_of_le h1 hS.1) (fun z => h2 (hA q (Nat.lt_of_lt_of_le h1 hS.1) z))]; exact hS.2.1 q h1 h2, fun q hq => by
      rcases List.mem_append.mp hq with h | h
      · exact hS.2.2 q h
      · exact hf _ (hL q h)⟩⟩
theorem vx_calli {S SX : Type} {post : Int32 → S → Prop} {px : SX → Prop} {B : S → State → Prop} {BX : String → SX → State → Prop} {AX : Nat → Prop} (hr : vx_Run p l e R s m args below meth c H locs cells slots mc ms (F0 m pc ls st0) rest (va_Qi post B A1 a) (vx_X px BX AX) free) (hS : va_S A0 H0 H locs) (hA : ∀ q, q < H.size → A1 q → A0 q) (hf : ∀ q, free q → A0 q) (hAX : ∀ q, q < H.size → AX q → A0 q)
    (kx : ∀ (E : String) (ce : Cell) (q9 : Addr) (u : SX) (t : State) (H1 : Heap) (locs1 : List Loc), t.heap = H1 → s.vm.Alike t.vm → px u → BX E u t → H.size ≤ H1.size → (∀ q : Nat, q < H.size → ¬ AX q → H1[q]? = H[q]?) → va_S A0 H0 H1 locs1 → H1[q9]? = some ce → ce.vm = .none → s.vm.findClass E = some ce.cls → vx_W p l e R s m args below meth c H1 locs1 (cells + mc) (slots + ms) Q (F0 m pc ls rest) q9)
    (kk : ∀ (r : Int32) (u : S) (t : State) (H1 : Heap) (locs1 : List Loc), t.heap = H1 → s.vm.Alike t.vm → post r u → B u t → H.size ≤ H1.size → (∀ q : Nat, q < H.size → ¬ A1 q → H1[q]? = H[q]?) → va_S A0 H0 H1 locs1 → W p l e R s m args below meth c H1 locs1 (cells + mc) (slots + ms) Q (F0 m (pc + 3) ls (.int r :: rest))) : W p l e R s m args below meth c H locs cells slots Q (F0 m pc ls st0) := by
  intro T hT X
  rcases hr T hT X with ⟨v, st₀, t, T', L, h0, X', hL, e1, e2, ⟨⟨r, u, hv, hp, hb⟩, hF⟩, st⟩ | ⟨q, st₀, t, T', L, E, ce, h0, X', hL, e1, e2, ⟨u, hp, hb, hF⟩, hce, hcv, hcl, st⟩
  · cases hv
    obtain ⟨k1, k2, k3⟩ := vx_keep h0 e1 hS hA hf hL hF
    obtain ⟨t2, a1, b1⟩ := kk r u t T'.heap (locs ++ L) e1.symm (by rw [← e2]; exact X'.warmed.alike) hp hb k1 k2 k3 T' rfl X'
    exact ⟨t2, st t2 a1, b1⟩
  · obtain ⟨k1, k2, k3⟩ := vx_keep h0 e1 hS hAX hf hL hF
    obtain ⟨t2, a1, b1⟩ := kx E ce q u t T'.heap (locs ++ L) e1.symm (by rw [← e2]; exact X'.warmed.alike) hp hb k1 k2 k3 (by rw [e1]; exact hce) hcv hcl T' rfl X'
    exact ⟨t2, st.trans a1, b1⟩
theorem vx_calll {S SX : Type} {post : Int64 → S → Prop} {px : SX → Prop} {B : S → State → Prop} {BX : String → SX → State → Prop} {AX : Nat → Prop} (hr : vx_Run p l e R s m args below meth c H locs cells slots mc ms (F0 m pc ls st0) rest (va_Ql post B A1 a) (vx_X px BX AX) free) (hS : va_S A0 H0 H locs) (hA : ∀ q, q < H.size → A1 q → A0 q) (hf : ∀ q, free q → A0 q) (hAX : ∀ q, q < H.size → AX q → A0 q)
    (kx : ∀ (E : String) (ce : Cell) (q9 : Addr) (u : SX) (t : State) (H1 : Heap) (locs1 : List Loc), t.heap = H1 → s.vm.Alike t.vm → px u → BX E u t → H.size ≤ H1.size → (∀ q : Nat, q < H.size → ¬ AX q → H1[q]? = H[q]?) → va_S A0 H0 H1 locs1 → H1[q9]? = some ce → ce.vm = .none → s.vm.findClass E = some ce.cls → vx_W p l e R s m args below meth c H1 locs1 (cells + mc) (slots + ms) Q (F0 m pc ls rest) q9)
    (kk : ∀ (r : Int64) (u : S) (t : State) (H1 : Heap) (locs1 : List Loc), t.heap = H1 → s.vm.Alike t.vm → post r u → B u t → H.size ≤ H1.size → (∀ q : Nat, q < H.size → ¬ A1 q → H1[q]? = H[q]?) → va_S A0 H0 H1 locs1 → W p l e R s m args below meth c H1 locs1 (cells + mc) (slots + ms) Q (F0 m (pc + 3) ls (.long r :: rest))) : W p l e R s m args below meth c H locs cells slots Q (F0 m pc ls st0) := by
  intro T hT X
  rcases hr T hT X with ⟨v, st₀, t, T', L, h0, X', hL, e1, e2, ⟨⟨r, u, hv, hp, hb⟩, hF⟩, st⟩ | ⟨q, st₀, t, T', L, E, ce, h0, X', hL, e1, e2, ⟨u, hp, hb, hF⟩, hce, hcv, hcl, st⟩
  · cases hv
    obtain ⟨k1, k2, k3⟩ := vx_keep h0 e1 hS hA hf hL hF
    obtain ⟨t2, a1, b1⟩ := kk r u t T'.heap (locs ++ L) e1.symm (by rw [← e2]; exact X'.warmed.alike) hp hb k1 k2 k3 T' rfl X'
    exact ⟨t2, st t2 a1, b1⟩
  · obtain ⟨k1, k2, k3⟩ := vx_keep h0 e1 hS hAX hf hL hF
    obtain ⟨t2, a1, b1⟩ := kx E ce q u t T'.heap (locs ++ L) e1.symm (by rw [← e2]; exact X'.warmed.alike) hp hb k1 k2 k3 (by rw [e1]; exact hce) hcv hcl T' rfl X'
    exact ⟨t2, st.trans a1, b1⟩
theorem vx_callf {S SX : Type} {post : UInt32 → S → Prop} {px : SX → Prop} {B : S → State → Prop} {BX : String → SX → State → Prop} {AX : Nat → Prop} (hr : vx_Run p l e R s m args below meth c H locs cells slots mc ms (F0 m pc ls st0) rest (va_Qf post B A1 a) (vx_X px BX AX) free) (hS : va_S A0 H0 H locs) (hA : ∀ q, q < H.size → A1 q → A0 q) (hf : ∀ q, free q → A0 q) (hAX : ∀ q, q < H.size → AX q → A0 q)
    (kx : ∀ (E : String) (ce : Cell) (q9 : Addr) (u : SX) (t : State) (H1 : Heap) (locs1 : List Loc), t.heap = H1 → s.vm.Alike t.vm → px u → BX E u t → H.size ≤ H1.size → (∀ q : Nat, q < H.size → ¬ AX q → H1[q]? = H[q]?) → va_S A0 H0 H1 locs1 → H1[q9]? = some ce → ce.vm = .none → s.vm.findClass E = some ce.cls → vx_W p l e R s m args below meth c H1 locs1 (cells + mc) (slots + ms) Q (F0 m pc ls rest) q9)
    (kk : ∀ (r : UInt32) (u : S) (t : State) (H1 : Heap) (locs1 : List Loc), t.heap = H1 → s.vm.Alike t.vm → post r u → B u t → H.size ≤ H1.size → (∀ q : Nat, q < H.size → ¬ A1 q → H1[q]? = H[q]?) → va_S A0 H0 H1 locs1 → W p l e R s m args below meth c H1 locs1 (cells + mc) (slots + ms) Q (F0 m (pc + 3) ls (.float r :: rest))) : W p l e R s m args below meth c H locs cells slots Q (F0 m pc ls st0) := by
  intro T hT X
  rcases hr T hT X with ⟨v, st₀, t, T', L, h0, X', hL, e1, e2, ⟨⟨r, u, hv, hp, hb⟩, hF⟩, st⟩ | ⟨q, st₀, t, T', L, E, ce, h0, X', hL, e1, e2, ⟨u, hp, hb, hF⟩, hce, hcv, hcl, st⟩
  · cases hv
    obtain ⟨k1, k2, k3⟩ := vx_keep h0 e1 hS hA hf hL hF
    obtain ⟨t2, a1, b1⟩ := kk r u t T'.heap (locs ++ L) e1.symm (by rw [← e2]; exact X'.warmed.alike) hp hb k1 k2 k3 T' rfl X'
    exact ⟨t2, st t2 a1, b1⟩
  · obtain ⟨k1, k2, k3⟩ := vx_keep h0 e1 hS hAX hf hL hF
    obtain ⟨t2, a1, b1⟩ := kx E ce q u t T'.heap (locs ++ L) e1.symm (by rw [← e2]; exact X'.warmed.alike) hp hb k1 k2 k3 (by rw [e1]; exact hce) hcv hcl T' rfl X'
    exact ⟨t2, st.trans a1, b1⟩
theorem vx_calld {S SX : Type} {post : UInt64 → S → Prop} {px : SX → Prop} {B : S → State → Prop} {BX : String → SX → State → Prop} {AX : Nat → Prop} (hr : vx_Run p l e R s m args below meth c H locs cells slots mc ms (F0 m pc ls st0) rest (va_Qd post B A1 a) (vx_X px BX AX) free) (hS : va_S A0 H0 H locs) (hA : ∀ q, q < H.size → A1 q → A0 q) (hf : ∀ q, free q → A0 q) (hAX : ∀ q, q < H.size → AX q → A0 q)
    (kx : ∀ (E : String) (ce : Cell) (q9 : Addr) (u : SX) (t : State) (H1 : Heap) (locs1 : List Loc), t.heap = H1 → s.vm.Alike t.vm → px u → BX E u t → H.size ≤ H1.size → (∀ q : Nat, q < H.size → ¬ AX q → H1[q]? = H[q]?) → va_S A0 H0 H1 locs1 → H1[q9]? = some ce → ce.vm = .none → s.vm.findClass E = some ce.cls → vx_W p l e R s m args below meth c H1 locs1 (cells + mc) (slots + ms) Q (F0 m pc ls rest) q9)
    (kk : ∀ (r : UInt64) (u : S) (t : State) (H1 : Heap) (locs1 : List Loc), t.heap = H1 → s.vm.Alike t.vm → post r u → B u t → H.size ≤ H1.size → (∀ q : Nat, q < H.size → ¬ A1 q → H1[q]? = H[q]?) → va_S A0 H0 H1 locs1 → W p l e R s m args below meth c H1 locs1 (cells + mc) (slots + ms) Q (F0 m (pc + 3) ls (.double r :: rest))) : W p l e R s m args below meth c H locs cells slots Q (F0 m pc ls st0) := by
  intro T hT X
  rcases hr T hT X with ⟨v, st₀, t, T', L, h0, X', hL, e1, e2, ⟨⟨r, u, hv, hp, hb⟩, hF⟩, st⟩ | ⟨q, st₀, t, T', L, E, ce, h0, X', hL, e1, e2, ⟨u, hp, hb, hF⟩, hce, hcv, hcl, st⟩
  · cases hv
    obtain ⟨k1, k2, k3⟩ := vx_keep h0 e1 hS hA hf hL hF
    obtain ⟨t2, a1, b1⟩ := kk r u t T'.heap (locs ++ L) e1.symm (by rw [← e2]; exact X'.warmed.alike) hp hb k1 k2 k3 T' rfl X'
    exact ⟨t2, st t2 a1, b1⟩
  · obtain ⟨k1, k2, k3⟩ := vx_keep h0 e1 hS hAX hf hL hF
    obtain ⟨t2, a1, b1⟩ := kx E ce q u t T'.heap (locs ++ L) e1.symm (by rw [← e2]; exact X'.warmed.alike) hp hb k1 k2 k3 (by rw [e1]; exact hce) hcv hcl T' rfl X'
    exact ⟨t2, st.trans a1, b1⟩
theorem vx_callv {S SX : Type} {post : S → Prop} {px : SX → Prop} {B : S → State → Prop} {BX : String → SX → State → Prop} {AX : Nat → Prop} (hr : vx_Run p l e R s m args below meth c H locs cells slots mc ms (F0 m pc ls st0) rest (va_Qv post B A1 a) (vx_X px BX AX) free) (hS : va_S A0 H0 H locs) (hA : ∀ q, q < H.size → A1 q → A0 q) (hf : ∀ q, free q → A0 q) (hAX : ∀ q, q < H.size → AX q → A0 q)
    (kx : ∀ (E : String) (ce : Cell) (q9 : Addr) (u : SX) (t : State) (H1 : Heap) (locs1 : List Loc), t.heap = H1 → s.vm.Alike t.vm → px u → BX E u t → H.size ≤ H1.size → (∀ q : Nat, q < H.size → ¬ AX q → H1[q]? = H[q]?) → va_S A0 H0 H1 locs1 → H1[q9]? = some ce → ce.vm = .none → s.vm.findClass E = some ce.cls → vx_W p l e R s m args below meth c H1 locs1 (cells + mc) (slots + ms) Q (F0 m pc ls rest) q9)
    (kk : ∀ (u : S) (t : State) (H1 : Heap) (locs1 : List Loc), t.heap = H1 → s.vm.Alike t.vm → post u → B u t → H.size ≤ H1.size → (∀ q : Nat, q < H.size → ¬ A1 q → H1[q]? = H[q]?) → va_S A0 H0 H1 locs1 → W p l e R s m args below meth c H1 locs1 (cells + mc) (slots + ms) Q (F0 m (pc + 3) ls (rest))) : W p l e R s m args below meth c H locs cells slots Q (F0 m pc ls st0) := by
  intro T hT X
  rcases hr T hT X with ⟨v, st₀, t, T', L, h0, X', hL, e1, e2, ⟨⟨u, hv, hp, hb⟩, hF⟩, st⟩ | ⟨q, st₀, t, T', L, E, ce, h0, X', hL, e1, e2, ⟨u, hp, hb, hF⟩, hce, hcv, hcl, st⟩
  · cases hv
    obtain ⟨k1, k2, k3⟩ := vx_keep h0 e1 hS hA hf hL hF
    obtain ⟨t2, a1, b1⟩ := kk u t T'.heap (locs ++ L) e1.symm (by rw [← e2]; exact X'.warmed.alike) hp hb k1 k2 k3 T' rfl X'
    exact ⟨t2, st t2 a1, b1⟩
  · obtain ⟨k1, k2, k3⟩ := vx_keep h0 e1 hS hAX hf hL hF
    obtain ⟨t2, a1, b1⟩ := kx E ce q u t T'.heap (locs ++ L) e1.symm (by rw [← e2]; exact X'.warmed.alike) hp hb k1 k2 k3 (by rw [e1]; exact hce) hcv hcl T' rfl X'
    exact ⟨t2, st.trans a1, b1⟩
/-- caught by the row x of this method's table; the rows ahead don't take it -/
theorem vx_catch {own name : String} {E : String} {ce : Cell} {q : Addr} (hown : s.vm.findClass own = some m.cls) (pre : List ExceptionTableEntry) (x : ExceptionTableEntry) (suf : List ExceptionTableEntry) (hsplit : c.exceptionTable.toList = pre ++ x :: suf)
    (hpass : ∀ z ∈ pre, covers z pc = false ∨ (z.catchType ≠ 0 ∧ ∃ nm : String, (Cond.classLink own z.catchType nm).before args s = true ∧ va_Nc E nm s)) (hx : covers x pc = true) (h0 : x.catchType ≠ 0)
    (hlink : (Cond.classLink own x.catchType name).before args s = true) (hcast : (Cond.castable E name).before args s = true) (hcell : H[q]? = some ce) (hv : ce.vm = .none) (hcl : s.vm.findClass E = some ce.cls)
    (kk : W p l e R s m args below meth c H locs cells slots Q (F0 m x.handlerPc ls [.ref q])) : vx_W p l e R s m args below meth c H locs cells slots Q (F0 m pc ls rest) q := by
  intro T hT X
  have hpl : e.platform.magicAccessors = ({} : Platform).magicAccessors := by rw [X.admits.platform]
  obtain ⟨c3, c4, hc3, hc4, hasg⟩ := Cond.castable_spec hcast
  cases Option.some.inj (hc3.symm.trans hcl)
  obtain ⟨c5, hc5, hcl5⟩ := Cond.classLink_spec hown hlink e.platform hpl
  cases Option.some.inj (hc4.symm.trans hc5)
  obtain ⟨vm', X', st⟩ := X.thenCaughtThrough q (g := F0 m pc ls rest) rfl (Steps.refl _) (by rw [hT]; exact hcell) (by rw [hv]; rfl) (by obtain ⟨k9, h9, -⟩ := Vm.findClass_spec hcl; exact ⟨k9, h9⟩) pre x suf hsplit
    (fun z hz => by
      rcases hpass z hz with h | ⟨hz0, nm, hl1, hn1⟩
      · exact Or.inl h
      · obtain ⟨c6, hc6, hcl6⟩ := Cond.classLink_spec hown hl1 e.platform hpl
        obtain ⟨a8, b8, h1, h2, h3⟩ := hn1
        cases Option.some.inj (h1.symm.trans hcl)
        cases Option.some.inj (h2.symm.trans hc6)
        exact Or.inr ⟨hz0, _, hcl6, h3⟩) hx (Or.inr ⟨h0, c4, hcl5, hasg⟩)
  obtain ⟨t, a1, b1⟩ := kk (T.setVm vm') hT X'
  exact ⟨t, st.trans a1, b1⟩
end Rows
section Ends
variable {p : Program} {l : Launch} {e : Env} {R : Room} {s : State} {m : MethodId} {args : Array Value} {below : List Frame} {meth : Method} {c : Code} {H : Heap} {locs : List Loc} {cells slots : Nat} {Q : State → Prop}
variable {mc ms : Nat} {free : Addr → Prop} {A0 A1 : Nat → Prop} {H0 : Heap} {a : Array Value} {ls : Array Slot} {st0 rest : List Value}
variable {Qc : Array Value → State → Outcome → State → Prop} {XC : String → State → State → Prop}
/-- what a body that may throw owes at its end -/
def vx_MQ (below : List Frame) (Qc : Array Value → State → Outcome → State → Prop) (XC : String → State → State → Prop) (a : Array Value) (s : State) (mc ms : Nat) (free : Addr → Prop) : State → Prop := fun t =>
  ∃ o, t.status = .running ∧ Ended t below o ∧ vx_Q Qc XC mc ms free a s o t
theorem vx_ret {g : JFrame} {mc ms : Nat} (k : W p l e R s m args below meth c H locs cells slots (MQ below Qc args s mc ms free) g) : W p l e R s m args below meth c H locs cells slots (vx_MQ below Qc XC args s mc ms free) g := by
  intro T hT X
  obtain ⟨t, a1, o, b1, b2, b3, b4⟩ := k T hT X
  exact ⟨t, a1, o, b1, b2, Or.inl ⟨b3, b4⟩⟩
/-- not caught here: it goes on to the caller -/
theorem vx_widen {g : JFrame} {q : Addr} {k n : Nat} (h1 : cells ≤ k) (h2 : slots ≤ n) (kk : vx_W p l e R s m args below meth c H locs k n Q g q) : vx_W p l e R s m args below meth c H locs cells slots Q g q := fun T hT X => kk T hT (stand_widen X h1 h2)
theorem vx_out {pc : Nat} {E : String} {ce : Cell} {q : Addr} {mc ms : Nat} (hout : ∀ x ∈ c.exceptionTable.toList, covers x pc = false) (hlocks : meth.locks = false) (hcell : H[q]? = some ce) (hv : ce.vm = .none) (hcl : s.vm.findClass E = some ce.cls)
    (hx : ∀ t : State, t.heap = H → s.vm.Alike t.vm → XC E s t) (hf : ∀ z ∈ locs, free z.base) (hc : cells ≤ mc) (hs : slots ≤ ms) :
    vx_W p l e R s m args below meth c H locs cells slots (vx_MQ below Qc XC args s mc ms free) (F0 m pc ls rest) q := by
  intro T hT X
  obtain ⟨st1, hrun, hend, hW, hsm⟩ := X.leaveThrown q (g := F0 m pc ls rest) rfl rfl rfl hout hlocks
  have hcell9 : (T.setFrames (.throwing q :: below)).heap[q]? = some ce := by
    show T.heap[q]? = some ce
    rw [hT]; exact hcell
  exact ⟨_, st1, .threw q, hrun, hend, Or.inr ⟨q, rfl, E, ce, locs, hx _ hT hW.alike, hcell9, hv, hcl, hW, hsm.mono hc hs, hf⟩⟩
theorem vx_frame {U : State} {k n : Nat} (h : s.sameButNew ({ U with vm := s.vm } : State) locs k n) : s.heap.size ≤ U.heap.size ∧ ∀ q : Nat, q < s.heap.size → (∀ z ∈ locs, z.base ≠ q) → U.heap[q]? = s.heap[q]? := by
  obtain ⟨-, h2, -, -, -, h6⟩ := h
  refine ⟨h2, fun q hq hz => ?_⟩
  obtain ⟨c9, e1, e2, e3, e4⟩ := h6 q _ (Array.getElem?_eq_getElem hq)
  have hs : c9.slots = (s.heap[q]).slots := Array.ext_getElem? fun i => e4 i fun hm => hz _ hm rfl
  have h9 : c9 = s.heap[q] := by
    rw [hs] at e2
    exact e2
  have e5 : U.heap[q]? = some c9 := e1
  rw [e5, h9, Array.getElem?_eq_getElem hq]
/-- the words of a throw but the four that speak of the heap -/
def vx_no (w : Cond) : Bool := decide (w ≠ .isRef (.static Bundle.tN "UNASSIGNED_STACK" Bundle.steD)) && decide (w ≠ .isRef (.static Bundle.tN "SUPPRESSED_SENTINEL" Bundle.listD)) && decide (w ≠ .laysStatic Bundle.tN "UNASSIGNED_STACK" Bundle.steD) && decide (w ≠ .laysStatic Bundle.tN "SUPPRESSED_SENTINEL" Bundle.listD)
def vx_at0 (own : String) (ic : Nat) (X : String) (names : List String) : List Cond := (Bundle.ownAtoms0 own ic X names).filter vx_no
def vx_atS (own : String) (ic : Nat) (X : String) (names : List String) : List Cond := (Bundle.ownAtoms own ic X names).filter vx_no
/-- a word that the tables alone decide, or a good one -/
def vx_ot (w : Cond) : Bool := w.onTables || goodWord w
theorem vx_ot_at {args a' : Array Value} {s U : State} {w : Cond} (hW : s.WarmedH U.vm) (hvm : s.vm = U.vm) (hg : vx_ot w = true) (h : w.before args s = true) : w.before a' U = true := by
  simp only [vx_ot, Bool.or_eq_true] at hg
  rcases hg with hg | hg
  · exact va_tabs hg hvm h
  · exact word_at hW (good_of_word hg) h
/-- a list's words: the good ones out of the method's own list, the others by premises of their own -/
theorem vx_hat {args : Array Value} {s : State} {L B : List Cond} (h1 : ∀ w ∈ L.filter goodWord, w.before args s = true) (h2 : ∀ w ∈ L.filter (fun w => !goodWord w), w ∈ B) (h3 : ∀ w ∈ B, w.before args s = true) : ∀ w ∈ L, w.before args s = true := by
  intro w hw
  by_cases g : goodWord w = true
  · exact h1 w (List.mem_filter.mpr ⟨hw, g⟩)
  · refine h3 w (h2 w (List.mem_filter.mpr ⟨hw, ?_⟩))
    show (!goodWord w) = true
    cases hgw : goodWord w
    · rfl
    · exact absurd hgw g
theorem vx_c {args : Array Value} {s : State} {w : Cond} {B : List Cond} (h : w.before args s = true) (t : ∀ w ∈ B, w.before args s = true) : ∀ w' ∈ w :: B, w'.before args s = true := fun w' h' => (List.mem_cons.mp h').elim (fun e => by rw [e]; exact h) (t w')
theorem vx_n {args : Array Value} {s : State} : ∀ w ∈ ([] : List Cond), w.before args s = true := fun _ h => nomatch h
theorem vx_own {args : Array Value} {s : State} {L : List Cond} (h1 : ∀ w ∈ L.filter vx_no, w.before args s = true)
    (hU : (Cond.isRef (.static Bundle.tN "UNASSIGNED_STACK" Bundle.steD)).before args s = true) (hN : (Cond.isRef (.static Bundle.tN "SUPPRESSED_SENTINEL" Bundle.listD)).before args s = true)
    (lU : (Cond.laysStatic Bundle.tN "UNASSIGNED_STACK" Bundle.steD).before args s = true) (lN : (Cond.laysStatic Bundle.tN "SUPPRESSED_SENTINEL" Bundle.listD).before args s = true) : ∀ w ∈ L, w.before args s = true := by
  intro w hw
  by_cases e1 : w = .isRef (.static Bundle.tN "UNASSIGNED_STACK" Bundle.steD)
  · rw [e1]; exact hU
  · by_cases e2 : w = .isRef (.static Bundle.tN "SUPPRESSED_SENTINEL" Bundle.listD)
    · rw [e2]; exact hN
    · by_cases e3 : w = .laysStatic Bundle.tN "UNASSIGNED_STACK" Bundle.steD
      · rw [e3]; exact lU
      · by_cases e4 : w = .laysStatic Bundle.tN "SUPPRESSED_SENTINEL" Bundle.listD
        · rw [e4]; exact lN
        · exact h1 w (List.mem_filter.mpr ⟨hw, by unfold vx_no; rw [decide_eq_true e1, decide_eq_true e2, decide_eq_true e3, decide_eq_true e4]; rfl⟩)
/-- where a static field lies, its class's statics cell in H -/
def vx_L (C n d : String) (A : Nat → Prop) (U : State) (H : Heap) : Prop := ∃ (c : ClassId) (k : Class) (i : Nat) (f : Field) (a : Nat) (cell : Cell), U.vm.findClass C = some c ∧ U.fieldFound? C n d = some (c, k, i, f) ∧ f.isStatic = true ∧ k.statics = some a ∧ H[a]? = some cell ∧ cell.vm.isStatics = true ∧ cell.cls = c ∧ f.slot < cell.slots.size ∧ k.staticTypes[f.slot]? = some f.type ∧ ¬ A a
theorem vx_L.moved {C n d : String} {A : Nat → Prop} {u U : State} {H : Heap} (hvm : u.vm.Alike U.vm) (h : vx_L C n d A u H) : vx_L C n d A U H := by
  obtain ⟨c, k, i, f, a, cell, h1, h2, h3, h4, h5, h6, h7, h8, h9, h10⟩ := h
  obtain ⟨k', hi', he⟩ := State.fieldFound?_setVm hvm h2
  exact ⟨c, k', i, f, a, cell, by rw [hvm.findClass]; exact h1, hi', h3, by rw [he]; exact h4, h5, h6, h7, h8, by rw [he]; exact h9, h10⟩
theorem vx_L.kept {C n d : String} {A : Nat → Prop} {U : State} {H H1 : Heap} (h : vx_L C n d A U H) (hq : ∀ a : Nat, a < H.size → ¬ A a → H1[a]? = H[a]?) : vx_L C n d A U H1 := by
  obtain ⟨c, k, i, f, a, cell, h1, h2, h3, h4, h5, h6, h7, h8, h9, h10⟩ := h
  exact ⟨c, k, i, f, a, cell, h1, h2, h3, h4, by rw [hq a (Array.getElem?_eq_some_iff.mp h5).1 h10]; exact h5, h6, h7, h8, h9, h10⟩
theorem vx_L.narrow {C n d : String} {A B : Nat → Prop} {U : State} {H : Heap} (h : vx_L C n d A U H) (hAB : ∀ q, B q → A q) : vx_L C n d B U H := by
  obtain ⟨c, k, i, f, a, cell, h1, h2, h3, h4, h5, h6, h7, h8, h9, h10⟩ := h
  exact ⟨c, k, i, f, a, cell, h1, h2, h3, h4, h5, h6, h7, h8, h9, fun z => h10 (hAB _ z)⟩
theorem vx_L.word {C n d : String} {A : Nat → Prop} {s : State} {args : Array Value} (h : vx_L C n d A s s.heap) : (Cond.laysStatic C n d).before args s = true := by
  obtain ⟨c, k, i, f, a, cell, h1, h2, h3, h4, h5, h6, h7, h8, h9, -⟩ := h
  show (Cond.laysStatic C n d).holds args s none s [] = true
  exact Cond.laysStatic_of h1 h2 h3 h4 h5 h6 h7 h8 h9
/-- .. and what it holds: null or some reference -/
def vx_Zq (C n d : String) (A : Nat → Prop) (U : State) (H : Heap) : Prop := va_Zq C n d A U H ∧ vx_L C n d A U H
theorem vx_Zq.moved {C n d : String} {A : Nat → Prop} {u U : State} {H : Heap} (hvm : u.vm.Alike U.vm) (h : vx_Zq C n d A u H) : vx_Zq C n d A U H := ⟨va_Zq.moved hvm h.1, vx_L.moved hvm h.2⟩
theorem vx_Zq.kept {C n d : String} {A : Nat → Prop} {U : State} {H H1 : Heap} (h : vx_Zq C n d A U H) (hq : ∀ a : Nat, a < H.size → ¬ A a → H1[a]? = H[a]?) : vx_Zq C n d A U H1 := ⟨va_Zq.kept h.1 hq, vx_L.kept h.2 hq⟩
theorem vx_Zq.narrow {C n d : String} {A B : Nat → Prop} {U : State} {H : Heap} (h : vx_Zq C n d A U H) (hAB : ∀ q, B q → A q) : vx_Zq C n d B U H := ⟨va_Zq.narrow h.1 hAB, vx_L.narrow h.2 hAB⟩
theorem vx_Zqof {args : Array Value} {s : State} {C n d : String} {A : Nat → Prop} (hl : (Cond.laysStatic C n d).before args s = true) (hini : (Cond.initialized C).before args s = true) (h : (Cond.isRef (.static C n d)).before args s = true) (hA : ∀ a : Nat, a < s.heap.size → ¬ A a) : vx_Zq C n d A s s.heap := by
  refine ⟨va_Zqof hl hini h hA, ?_⟩
  obtain ⟨c, k, i, f, a, cell, h1, h2, h3, h4, h5, h6, h7, h8, h9⟩ := Cond.laysStatic_spec hl
  exact ⟨c, k, i, f, a, cell, h1, h2, h3, h4, h5, h6, h7, h8, h9, hA a (Array.getElem?_eq_some_iff.mp h5).1⟩
theorem vx_isRef {C n d : String} {v : Value} {A : Nat → Prop} {s : State} {args : Array Value} (h : va_Z C n d v A s s.heap) (hv : v.isRef = true) : (Cond.isRef (.static C n d)).before args s = true := by
  obtain ⟨cf, kf, fi, f, a, cell, h1, h2, h3, h4, h5, h6, h7, -⟩ := h
  have he : (Term.static C n d).eval args s none [] s = some v := by
    simp [Term.eval, State.fieldNamed?, h1, h2, h4, h5, h6, h7]
  simp only [Cond.before, Cond.holds, Cond.value, he]
  cases v <;> simp_all [Value.isRef]
theorem vx_isRefq {C n d : String} {A : Nat → Prop} {s : State} {args : Array Value} (h : va_Zq C n d A s s.heap) : (Cond.isRef (.static C n d)).before args s = true := by
  rcases h with h | ⟨t, h⟩
  · exact vx_isRef h rfl
  · exact vx_isRef h rfl
/-- the same frame, seen from here: as if the method were called anew in this heap -/
theorem vx_rebase {T : State} (X : Stand p l e R s m args below meth c T locs cells slots) {R' : Room} (hf : R'.frames ≤ R.frames) (hl : R'.locals ≤ R.locals) (hc : cells + R'.cells ≤ R.cells) (hs : slots + R'.slots ≤ R.slots) :
    Stand p l e R' ((T.setVm s.vm).setFrames (.invoking m args :: below)) m args below meth c T [] 0 0 := by
  have htop : (T.setVm s.vm).topJava?.isSome := X.here.top
  have hF : ((T.setVm s.vm).setFrames (.invoking m args :: below)).frames = .invoking m args :: below := State.frames_setFrames _ (State.cur_lt_of_top htop)
  obtain ⟨g₀, hg0⟩ := Option.isSome_iff_exists.mp htop
  obtain ⟨r, hr⟩ := State.topJava?_eq_some.mp hg0
  have hl9 : e.platform.stackLimits (T.setVm s.vm).me = e.platform.stackLimits s.me := X.limits
  have hb9 : (T.setVm s.vm).me.stackBytes = s.me.stackBytes := X.bytes
  refine ⟨X.admits, X.cas, X.clock, hF, ?_, X.hears, X.method, X.code, X.here, X.tail, X.warmed, ?_, ?_, ?_⟩
  · have h := X.room
    have hU : ((T.setVm s.vm).setFrames (.invoking m args :: below)).localsInUse = s.localsInUse := by
      rw [State.localsInUse_invoking hF (meth := meth) (c := c) X.method X.code, State.localsInUse_invoking X.frames X.method X.code]
    simp only [State.hasRoom, Bool.and_eq_true, decide_eq_true_eq] at h ⊢
    obtain ⟨⟨⟨⟨h1, h2, h3, h4, h5, h6⟩, h7⟩, h8⟩, h9⟩ := h
    rw [X.frames, List.length_cons] at h2 h3
    have q1 := X.heapSize
    have q2 := X.used
    simp only [hF, hU, List.length_cons, State.stackLimits_setFrames, State.stackBytes_setFrames, hl9, hb9]
    refine ⟨⟨⟨⟨by omega, by omega, by omega, by omega, by omega, h6⟩, ?_⟩, ?_⟩, X.book⟩
    · show T.heap.size + R'.cells ≤ e.platform.maxCells
      omega
    · show T.slotsUsed + R'.slots ≤ e.platform.maxSlots
      omega
  · rw [State.stackLimits_setFrames]; rfl
  · rw [State.stackBytes_setFrames]; rfl
  · refine ⟨?_, Nat.le_refl _, Nat.le_refl _, ?_, ?_, fun a c9 h9 => ⟨c9, h9, rfl, rfl, fun _ _ => rfl⟩⟩
    · obtain ⟨t, ht, -⟩ := State.frames_cons hr
      show T.setVm s.vm = { ((T.setVm s.vm).setFrames (.invoking m args :: below)).setFrames (T.setVm s.vm).frames with heap := T.heap, slotsUsed := T.slotsUsed }
      rw [State.setFrames_setFrames, State.setFrames_self ht]
      rfl
    · show T.slotsUsed = T.slotsUsed + ((T.heap.toList.drop T.heap.size).map (·.slots.size)).sum
      rw [List.drop_eq_nil_of_le (Nat.le_of_eq Array.length_toList)]
      rfl
    · show ((T.heap.toList.drop T.heap.size).map (·.slots.size)).sum ≤ 0
      rw [List.drop_eq_nil_of_le (Nat.le_of_eq Array.length_toList)]
      exact Nat.le_refl _
/-- 'throw new E()': new; dup; invokespecial; athrow -/
theorem vx_throw0 {cc : ByteArray} {pc : Nat} (hexec : p.tables.exec = Jvm.exec) (hb : c.code = cc) (hl : l.stackTraces = false) {own cls : String} {names : List String} {ik ic mc ms : Nat} {A : Nat → Prop}
    (hown : s.vm.findClass own = some m.cls) (hcls : Bundle.fit cls = true) (hnames : ∀ n ∈ names, Bundle.fit n = true)
    (hk : (Cond.classLink own ik cls).before args s = true) (hini : (Cond.initialized cls).before args s = true) (hat : ∀ w ∈ vx_at0 own ic cls names, w.before args s = true)
    (hgood : ∀ w ∈ Cond.classLink own ik cls :: Cond.initialized cls :: vx_at0 own ic cls names, vx_ot w = true)
    (hU : vx_Zq Bundle.tN "UNASSIGNED_STACK" Bundle.steD A s s.heap) (hN : vx_Zq Bundle.tN "SUPPRESSED_SENTINEL" Bundle.listD A s s.heap) (hS : va_S A s.heap H locs) (hsize : ls.size = c.maxLocals)
    (d0 : decode cc pc = .ok (.new ik, 3)) (d3 : decode cc (pc + 3) = .ok (.dup, 1)) (d4 : decode cc (pc + 4) = .ok (.invokespecial ic, 3)) (d7 : decode cc (pc + 7) = .ok (.athrow, 1))
    (hout : ∀ x ∈ c.exceptionTable.toList, covers x (pc + 7) = false)
    (hRframes : names.length + 3 < R.frames) (hRlocals : (rest.map fun v => v.category).sum + (13 * (names.length + 1) + 42) ≤ R.locals) (hRcells : cells + 1 ≤ R.cells) (hRslots : slots + 6 ≤ R.slots) (hlocks : meth.locks = false)
    (hx : ∀ t : State, s.vm.Alike t.vm → H.size ≤ t.heap.size → (∀ q : Nat, q < H.size → t.heap[q]? = H[q]?) → XC cls s t)
    (hf : ∀ z ∈ locs, free z.base) (hc : cells + 1 ≤ mc) (hs : slots + 6 ≤ ms) :
    W p l e R s m args below meth c H locs cells slots (vx_MQ below Qc XC args s mc ms free) (F0 m pc ls rest) := by
  intro T hT X
  have htr : e.platform.stackTraces = false := (show e.platform.stackTraces = l.stackTraces by rw [X.admits.platform]).trans hl
  have Y := vx_rebase X (R' := { frames := R.frames, locals := R.locals, cells := 1, slots := 6 }) (Nat.le_refl _) (Nat.le_refl _) hRcells hRslots
  obtain ⟨s', hA⟩ : ∃ z, z = (T.setVm s.vm).setFrames (.invoking m args :: below) := ⟨_, rfl⟩
  rw [← hA] at Y
  have hvm : s'.vm = s.vm := by rw [hA]; rfl
  have hhp : s'.heap = H := by rw [hA]; exact hT
  have hW0 : s.WarmedH s'.vm := by rw [hvm]; exact State.WarmedH.refl s
  have hat' : ∀ w ∈ vx_at0 own ic cls names, w.before args s' = true := fun w hw => vx_ot_at hW0 hvm.symm (hgood w (List.mem_cons_of_mem _ (List.mem_cons_of_mem _ hw))) (hat w hw)
  have hk' : (Cond.classLink own ik cls).before args s' = true := vx_ot_at hW0 hvm.symm (hgood _ List.mem_cons_self) hk
  have hini' : (Cond.initialized cls).before args s' = true := vx_ot_at hW0 hvm.symm (hgood _ (List.mem_cons_of_mem _ List.mem_cons_self)) hini
  have hU' : vx_Zq Bundle.tN "UNASSIGNED_STACK" Bundle.steD A s' s'.heap := by rw [hhp]; exact vx_Zq.moved hW0.alike (hU.kept hS.2.1)
  have hN' : vx_Zq Bundle.tN "SUPPRESSED_SENTINEL" Bundle.listD A s' s'.heap := by rw [hhp]; exact vx_Zq.moved hW0.alike (hN.kept hS.2.1)
  have h : ∀ w ∈ Bundle.ownAtoms0 own ic cls names, w.before args s' = true := vx_own hat' (vx_isRefq hU'.1) (vx_isRefq hN'.1) hU'.2.word hN'.2.word
  have hown' : s'.vm.findClass own = some m.cls := by rw [hvm]; exact hown
  have hins : (Cond.instantiable cls 6).before args s' = true := h _ (by simp [Bundle.ownAtoms0])
  obtain ⟨vm₁, cX, kX, hfX, hkX, -, -, X₁, st1⟩ := Y.newCold hexec (own := own) (C := cls) (index := ik) (n := 6) hown' hk' hins hini'
    (g := F0 m pc ls rest) rfl (by rw [hb]; exact d0) (Nat.le_refl _) (Nat.le_refl _)
  generalize hT1 : (T.setVm vm₁).pushCell { cls := cX, slots := kX.instanceTypes.map defaultValue, vm := .none } = T1 at X₁ st1
  have hcat : (Value.ref T.heap.size).category = 1 := rfl
  have hcellA : T1.heap[T.heap.size]? = some (freshCell cX kX) := by rw [← hT1]; exact State.heap_pushCell_size _ _
  have d3' : decode c.code (pc + 3) = .ok (.dup, 1) := by rw [hb]; exact d3
  obtain ⟨U, hsteps, hrun, hend, hW, hsame, ce, hce, hO⟩ := X₁.ctorThrow0 hexec htr (own := own) (cls := cls) (names := names) (ic := ic) hown' hcls hnames h (fun x hx => nomatch hx) hfX hkX hcellA (by rw [hhp, hT]; exact Nat.le_refl _)
    (g := { method := m, pc := pc + 4, locals := ls, stack := .ref T.heap.size :: .ref T.heap.size :: rest, locked := none }) rfl hsize rfl rfl (rest := rest) rfl
    (by rw [hb]; exact d4) (by rw [hb]; exact d7) hout hRframes (by simp only [List.map_cons, List.sum_cons, hcat]; omega) hlocks
  obtain ⟨f1, f2⟩ := vx_frame hsame
  rw [hhp] at f1 f2
  have hWs : s.WarmedH U.vm := State.WarmedH.trans hW0 hW
  have hcl : s.vm.findClass cls = some ce.cls := by
    have h9 := hO.cls
    rw [hvm] at h9
    exact h9
  have hall : s.sameButNew ({ U with vm := s.vm } : State) locs mc ms := by
    subst hA
    obtain ⟨e1, e2⟩ := hsame
    rw [State.setFrames_setFrames] at e1
    have h2 : (T.setVm s.vm).sameButNew ({ U with vm := s.vm } : State) [] (0 + 1) (0 + 6) := ⟨e1, e2⟩
    have h3 := X.same.trans h2
    rw [List.append_nil] at h3
    exact h3.mono hc hs
  refine ⟨U, ?_, .threw T.heap.size, hrun, hend, Or.inr ⟨T.heap.size, rfl, cls, ce, locs, hx U hWs.alike f1 (fun q hq => f2 q hq (fun z hz => nomatch hz)), hce, hO.vm, hcl, hWs, hall, hf⟩⟩
  refine st1 _ ?_
  show Steps p.tables e below (T1.setTop { method := m, pc := pc + 3, locals := ls, stack := .ref T.heap.size :: rest, locked := none }) _
  jvm_step X₁.here [X₁.here.top, hexec, d3', Value.category]
  exact hsteps
/-- 'throw new E("text")': new; dup; ldc; invokespecial; athrow -/
theorem vx_throwS {cc : ByteArray} {pc : Nat} (hexec : p.tables.exec = Jvm.exec) (hb : c.code = cc) (hl : l.stackTraces = false) {own cls text : String} {names : List String} {ik is ic mc ms sa : Nat} {A : Nat → Prop}
    (hown : s.vm.findClass own = some m.cls) (hcls : Bundle.fit cls = true) (hnames : ∀ n ∈ names, Bundle.fit n = true)
    (hk : (Cond.classLink own ik cls).before args s = true) (hini : (Cond.initialized cls).before args s = true) (hstr : vk_R own is text sa s) (hat : ∀ w ∈ vx_atS own ic cls names, w.before args s = true)
    (hgood : ∀ w ∈ Cond.classLink own ik cls :: Cond.initialized cls :: vx_atS own ic cls names, vx_ot w = true)
    (hU : vx_Zq Bundle.tN "UNASSIGNED_STACK" Bundle.steD A s s.heap) (hN : vx_Zq Bundle.tN "SUPPRESSED_SENTINEL" Bundle.listD A s s.heap) (hS : va_S A s.heap H locs) (hsize : ls.size = c.maxLocals)
    (d0 : decode cc pc = .ok (.new ik, 3)) (d3 : decode cc (pc + 3) = .ok (.dup, 1)) (d4 : decode cc (pc + 4) = .ok (.ldc is, 2)) (d6 : decode cc (pc + 6) = .ok (.invokespecial ic, 3)) (d9 : decode cc (pc + 9) = .ok (.athrow, 1))
    (hout : ∀ x ∈ c.exceptionTable.toList, covers x (pc + 9) = false)
    (hRframes : names.length + 3 < R.frames) (hRlocals : (rest.map fun v => v.category).sum + (13 * (names.length + 1) + 43) ≤ R.locals) (hRcells : cells + 1 ≤ R.cells) (hRslots : slots + 6 ≤ R.slots) (hlocks : meth.locks = false)
    (hx : ∀ t : State, s.vm.Alike t.vm → H.size ≤ t.heap.size → (∀ q : Nat, q < H.size → t.heap[q]? = H[q]?) → XC cls s t)
    (hf : ∀ z ∈ locs, free z.base) (hc : cells + 1 ≤ mc) (hs : slots + 6 ≤ ms) :
    W p l e R s m args below meth c H locs cells slots (vx_MQ below Qc XC args s mc ms free) (F0 m pc ls rest) := by
  intro T hT X
  have htr : e.platform.stackTraces = false := (show e.platform.stackTraces = l.stackTraces by rw [X.admits.platform]).trans hl
  have Y := vx_rebase X (R' := { frames := R.frames, locals := R.locals, cells := 1, slots := 6 }) (Nat.le_refl _) (Nat.le_refl _) hRcells hRslots
  obtain ⟨s', hA⟩ : ∃ z, z = (T.setVm s.vm).setFrames (.invoking m args :: below) := ⟨_, rfl⟩
  rw [← hA] at Y
  have hvm : s'.vm = s.vm := by rw [hA]; rfl
  have hhp : s'.heap = H := by rw [hA]; exact hT
  have hW0 : s.WarmedH s'.vm := by rw [hvm]; exact State.WarmedH.refl s
  have hat' : ∀ w ∈ vx_atS own ic cls names, w.before args s' = true := fun w hw => vx_ot_at hW0 hvm.symm (hgood w (List.mem_cons_of_mem _ (List.mem_cons_of_mem _ hw))) (hat w hw)
  have hk' : (Cond.classLink own ik cls).before args s' = true := vx_ot_at hW0 hvm.symm (hgood _ List.mem_cons_self) hk
  have hini' : (Cond.initialized cls).before args s' = true := vx_ot_at hW0 hvm.symm (hgood _ (List.mem_cons_of_mem _ List.mem_cons_self)) hini
  have hU' : vx_Zq Bundle.tN "UNASSIGNED_STACK" Bundle.steD A s' s'.heap := by rw [hhp]; exact vx_Zq.moved hW0.alike (hU.kept hS.2.1)
  have hN' : vx_Zq Bundle.tN "SUPPRESSED_SENTINEL" Bundle.listD A s' s'.heap := by rw [hhp]; exact vx_Zq.moved hW0.alike (hN.kept hS.2.1)
  have h : ∀ w ∈ Bundle.ownAtoms own ic cls names, w.before args s' = true := vx_own hat' (vx_isRefq hU'.1) (vx_isRefq hN'.1) hU'.2.word hN'.2.word
  have hown' : s'.vm.findClass own = some m.cls := by rw [hvm]; exact hown
  have hins : (Cond.instantiable cls 6).before args s' = true := h _ (by simp [Bundle.ownAtoms])
  obtain ⟨vm₁, cX, kX, hfX, hkX, -, -, X₁, st1⟩ := Y.newCold hexec (own := own) (C := cls) (index := ik) (n := 6) hown' hk' hins hini'
    (g := F0 m pc ls rest) rfl (by rw [hb]; exact d0) (Nat.le_refl _) (Nat.le_refl _)
  generalize hT1 : (T.setVm vm₁).pushCell { cls := cX, slots := kX.instanceTypes.map defaultValue, vm := .none } = T1 at X₁ st1
  have hcat : (Value.ref T.heap.size).category = 1 := rfl
  have hcellA : T1.heap[T.heap.size]? = some (freshCell cX kX) := by rw [← hT1]; exact State.heap_pushCell_size _ _
  have d3' : decode c.code (pc + 3) = .ok (.dup, 1) := by rw [hb]; exact d3
  have d4' : decode c.code (pc + 4) = .ok (.ldc is, 2) := by rw [hb]; exact d4
  have hstr' : vk_R own is text sa s' := vk_R.warm hW0 hstr
  obtain ⟨U, hsteps, hrun, hend, hW, hsame, ce, hce, hO⟩ := X₁.ctorThrowS hexec htr (own := own) (cls := cls) (names := names) (ic := ic) hown' hcls hnames h (fun x hx => nomatch hx) hfX hkX hcellA (by rw [hhp, hT]; exact Nat.le_refl _) (msg := .ref sa) rfl
    (g := { method := m, pc := pc + 6, locals := ls, stack := .ref sa :: .ref T.heap.size :: .ref T.heap.size :: rest, locked := none }) rfl hsize rfl rfl (rest := rest) rfl
    (by rw [hb]; exact d6) (by rw [hb]; exact d9) hout hRframes (by simp only [List.map_cons, List.sum_cons, hcat]; omega) hlocks
  obtain ⟨f1, f2⟩ := vx_frame hsame
  rw [hhp] at f1 f2
  have hWs : s.WarmedH U.vm := State.WarmedH.trans hW0 hW
  have hcl : s.vm.findClass cls = some ce.cls := by
    have h9 := hO.cls
    rw [hvm] at h9
    exact h9
  have hall : s.sameButNew ({ U with vm := s.vm } : State) locs mc ms := by
    subst hA
    obtain ⟨e1, e2⟩ := hsame
    rw [State.setFrames_setFrames] at e1
    have h2 : (T.setVm s.vm).sameButNew ({ U with vm := s.vm } : State) [] (0 + 1) (0 + 6) := ⟨e1, e2⟩
    have h3 := X.same.trans h2
    rw [List.append_nil] at h3
    exact h3.mono hc hs
  refine ⟨U, ?_, .threw T.heap.size, hrun, hend, Or.inr ⟨T.heap.size, rfl, cls, ce, locs, hx U hWs.alike f1 (fun q hq => f2 q hq (fun z hz => nomatch hz)), hce, hO.vm, hcl, hWs, hall, hf⟩⟩
  refine st1 _ ?_
  show Steps p.tables e below (T1.setTop { method := m, pc := pc + 3, locals := ls, stack := .ref T.heap.size :: rest, locked := none }) _
  jvm_step X₁.here [X₁.here.top, hexec, d3', Value.category]
  exact X₁.ldcString hexec (own := own) (text := text) (index := is) (a := sa) hown' hstr'.1 hstr'.2
    (g := { method := m, pc := pc + 4, locals := ls, stack := .ref T.heap.size :: .ref T.heap.size :: rest, locked := none }) rfl d4' _ hsteps
/-- 'throw new E("text")', the text by a wide index -/
theorem vx_throwSW {cc : ByteArray} {pc : Nat} (hexec : p.tables.exec = Jvm.exec) (hb : c.code = cc) (hl : l.stackTraces = false) {own cls text : String} {names : List String} {ik is ic mc ms sa : Nat} {A : Nat → Prop}
    (hown : s.vm.findClass own = some m.cls) (hcls : Bundle.fit cls = true) (hnames : ∀ n ∈ names, Bundle.fit n = true)
    (hk : (Cond.classLink own ik cls).before args s = true) (hini : (Cond.initialized cls).before args s = true) (hstr : vk_R own is text sa s) (hat : ∀ w ∈ vx_atS own ic cls names, w.before args s = true)
    (hgood : ∀ w ∈ Cond.classLink own ik cls :: Cond.initialized cls :: vx_atS own ic cls names, vx_ot w = true)
    (hU : vx_Zq Bundle.tN "UNASSIGNED_STACK" Bundle.steD A s s.heap) (hN : vx_Zq Bundle.tN "SUPPRESSED_SENTINEL" Bundle.listD A s s.heap) (hS : va_S A s.heap H locs) (hsize : ls.size = c.maxLocals)
    (d0 : decode cc pc = .ok (.new ik, 3)) (d3 : decode cc (pc + 3) = .ok (.dup, 1)) (d4 : decode cc (pc + 4) = .ok (.ldc_w is, 3)) (d7 : decode cc (pc + 7) = .ok (.invokespecial ic, 3)) (d10 : decode cc (pc + 10) = .ok (.athrow, 1))
    (hout : ∀ x ∈ c.exceptionTable.toList, covers x (pc + 10) = false)
    (hRframes : names.length + 3 < R.frames) (hRlocals : (rest.map fun v => v.category).sum + (13 * (names.length + 1) + 43) ≤ R.locals) (hRcells : cells + 1 ≤ R.cells) (hRslots : slots + 6 ≤ R.slots) (hlocks : meth.locks = false)
    (hx : ∀ t : State, s.vm.Alike t.vm → H.size ≤ t.heap.size → (∀ q : Nat, q < H.size → t.heap[q]? = H[q]?) → XC cls s t)
    (hf : ∀ z ∈ locs, free z.base) (hc : cells + 1 ≤ mc) (hs : slots + 6 ≤ ms) :
    W p l e R s m args below meth c H locs cells slots (vx_MQ below Qc XC args s mc ms free) (F0 m pc ls rest) := by
  intro T hT X
  have htr : e.platform.stackTraces = false := (show e.platform.stackTraces = l.stackTraces by rw [X.admits.platform]).trans hl
  have Y := vx_rebase X (R' := { frames := R.frames, locals := R.locals, cells := 1, slots := 6 }) (Nat.le_refl _) (Nat.le_refl _) hRcells hRslots
  obtain ⟨s', hA⟩ : ∃ z, z = (T.setVm s.vm).setFrames (.invoking m args :: below) := ⟨_, rfl⟩
  rw [← hA] at Y
  have hvm : s'.vm = s.vm := by rw [hA]; rfl
  have hhp : s'.heap = H := by rw [hA]; exact hT
  have hW0 : s.WarmedH s'.vm := by rw [hvm]; exact State.WarmedH.refl s
  have hat' : ∀ w ∈ vx_atS own ic cls names, w.before args s' = true := fun w hw => vx_ot_at hW0 hvm.symm (hgood w (List.mem_cons_of_mem _ (List.mem_cons_of_mem _ hw))) (hat w hw)
  have hk' : (Cond.classLink own ik cls).before args s' = true := vx_ot_at hW0 hvm.symm (hgood _ List.mem_cons_self) hk
  have hini' : (Cond.initialized cls).before args s' = true := vx_ot_at hW0 hvm.symm (hgood _ (List.mem_cons_of_mem _ List.mem_cons_self)) hini
  have hU' : vx_Zq Bundle.tN "UNASSIGNED_STACK" Bundle.steD A s' s'.heap := by rw [hhp]; exact vx_Zq.moved hW0.alike (hU.kept hS.2.1)
  have hN' : vx_Zq Bundle.tN "SUPPRESSED_SENTINEL" Bundle.listD A s' s'.heap := by rw [hhp]; exact vx_Zq.moved hW0.alike (hN.kept hS.2.1)
  have h : ∀ w ∈ Bundle.ownAtoms own ic cls names, w.before args s' = true := vx_own hat' (vx_isRefq hU'.1) (vx_isRefq hN'.1) hU'.2.word hN'.2.word
  have hown' : s'.vm.findClass own = some m.cls := by rw [hvm]; exact hown
  have hins : (Cond.instantiable cls 6).before args s' = true := h _ (by simp [Bundle.ownAtoms])
  obtain ⟨vm₁, cX, kX, hfX, hkX, -, -, X₁, st1⟩ := Y.newCold hexec (own := own) (C := cls) (index := ik) (n := 6) hown' hk' hins hini'
    (g := F0 m pc ls rest) rfl (by rw [hb]; exact d0) (Nat.le_refl _) (Nat.le_refl _)
  generalize hT1 : (T.setVm vm₁).pushCell { cls := cX, slots := kX.instanceTypes.map defaultValue, vm := .none } = T1 at X₁ st1
  have hcat : (Value.ref T.heap.size).category = 1 := rfl
  have hcellA : T1.heap[T.heap.size]? = some (freshCell cX kX) := by rw [← hT1]; exact State.heap_pushCell_size _ _
  have d3' : decode c.code (pc + 3) = .ok (.dup, 1) := by rw [hb]; exact d3
  have d4' : decode c.code (pc + 4) = .ok (.ldc_w is, 3) := by rw [hb]; exact d4
  have hstr' : vk_R own is text sa s' := vk_R.warm hW0 hstr
  obtain ⟨U, hsteps, hrun, hend, hW, hsame, ce, hce, hO⟩ := X₁.ctorThrowS hexec htr (own := own) (cls := cls) (names := names) (ic := ic) hown' hcls hnames h (fun x hx => nomatch hx) hfX hkX hcellA (by rw [hhp, hT]; exact Nat.le_refl _) (msg := .ref sa) rfl
    (g := { method := m, pc := pc + 7, locals := ls, stack := .ref sa :: .ref T.heap.size :: .ref T.heap.size :: rest, locked := none }) rfl hsize rfl rfl (rest := rest) rfl
    (by rw [hb]; exact d7) (by rw [hb]; exact d10) hout hRframes (by simp only [List.map_cons, List.sum_cons, hcat]; omega) hlocks
  obtain ⟨f1, f2⟩ := vx_frame hsame
  rw [hhp] at f1 f2
  have hWs : s.WarmedH U.vm := State.WarmedH.trans hW0 hW
  have hcl : s.vm.findClass cls = some ce.cls := by
    have h9 := hO.cls
    rw [hvm] at h9
    exact h9
  have hall : s.sameButNew ({ U with vm := s.vm } : State) locs mc ms := by
    subst hA
    obtain ⟨e1, e2⟩ := hsame
    rw [State.setFrames_setFrames] at e1
    have h2 : (T.setVm s.vm).sameButNew ({ U with vm := s.vm } : State) [] (0 + 1) (0 + 6) := ⟨e1, e2⟩
    have h3 := X.same.trans h2
    rw [List.append_nil] at h3
    exact h3.mono hc hs
  refine ⟨U, ?_, .threw T.heap.size, hrun, hend, Or.inr ⟨T.heap.size, rfl, cls, ce, locs, hx U hWs.alike f1 (fun q hq => f2 q hq (fun z hz => nomatch hz)), hce, hO.vm, hcl, hWs, hall, hf⟩⟩
  refine st1 _ ?_
  show Steps p.tables e below (T1.setTop { method := m, pc := pc + 3, locals := ls, stack := .ref T.heap.size :: rest, locked := none }) _
  jvm_step X₁.here [X₁.here.top, hexec, d3', Value.category]
  exact X₁.ldcStringW hexec (own := own) (text := text) (index := is) (a := sa) hown' hstr'.1 hstr'.2
    (g := { method := m, pc := pc + 4, locals := ls, stack := .ref T.heap.size :: .ref T.heap.size :: rest, locked := none }) rfl d4' _ hsteps
end Ends
section Bodies
variable {l : Launch}
theorem vx_ofW {y : MethodName} {ws ws' : List Cond} {rm : Room} {Pc : Array Value → State → Prop} {Qc : Array Value → State → Outcome → State → Prop} {XC : String → State → State → Prop} {mc ms : Nat} {free : Addr → Prop} {cc : ByteArray} {maxL : Nat} {ret : Option FieldType}
    (hy : plainName y.cls = true) (hw : ws = Cond.code y cc maxL ret :: ws')
    (body : ∀ p e s m args below meth c s₁, BodyLoose p l y (headSpec ws rm) cc maxL ret e s m args below meth c s₁ → c.maxLocals = maxL → (∀ x ∈ c.exceptionTable.toList, False) → Pc args s →
      W p l e (headSpec ws rm).room s m args below meth c s.heap [] 0 0 (vx_MQ below Qc XC args s mc ms free) (entryFrame m args maxL)) : vx_Met l y ws rm Pc Qc XC mc ms free := by
  refine MetFree.of_bodyS (code := cc) (maxLocals := maxL) (ret := ret) hy ?_ ?_
  · intro args s m h hn
    obtain ⟨meth, c, h1, h2, h3, h4, h5, h6, -, -⟩ := Cond.code_spec hn (atoms_spec (ws := ws) h _ (by rw [hw]; exact List.mem_cons_self))
    exact ⟨meth, c, h1, h2, h3, h4, h5, h6⟩
  · intro p e s m args below meth c s₁ B hml hP _
    have hh0 : s₁.heap = s.heap := by rw [B.state]; rfl
    have ht : ∀ x ∈ c.exceptionTable.toList, False := by
      obtain ⟨meth9, c9, h1, h2, -, -, -, -, h7, -⟩ := Cond.code_spec B.named (atoms_spec (ws := ws) B.pre _ (by rw [hw]; exact List.mem_cons_self))
      cases Option.some.inj (h1.symm.trans B.method)
      cases Option.some.inj (h2.symm.trans (Stand.of_body B).code)
      intro x hx
      rw [Array.isEmpty_iff.mp h7] at hx
      cases hx
    obtain ⟨t, a1, o, b1, b2, b3⟩ := body p e s m args below meth c s₁ B hml ht hP s₁ hh0 (Stand.of_body B)
    exact ⟨t, o, a1, b1, b2, b3⟩
/-- the table of a body with handlers -/
theorem vx_table {p : Program} {x y : MethodName} {S : Spec} {cc bytes : ByteArray} {maxL maxL' : Nat} {ret ret' : Option FieldType} {e : Env} {s s₁ : State} {m : MethodId} {args : Array Value} {below : List Frame} {meth : Method} {c : Code} {hh : List (Nat × Nat × Nat × Nat)}
    (B : BodyLoose p l y S cc maxL ret e s m args below meth c s₁) (h : (Cond.codeWith y bytes maxL' ret' hh).before args s = true) : c.exceptionTable.toList = tableOf hh := by
  obtain ⟨m9, meth9, c9, hn9, h1, h2, -, -, h6, -⟩ := Cond.codeWith_spec h
  cases Option.some.inj (hn9.symm.trans B.named)
  cases Option.some.inj (h1.symm.trans B.method)
  cases Option.some.inj (h2.symm.trans (Stand.of_body B).code)
  rw [← h6, table_eq]
end Bodies
end VXA
/-! ===== END ===== -/
/-! ===== BEGIN a static call of a method with an exception table ===== -/
section VXS
variable {p : Program} {l : Launch} {e : Env} {R : Room} {s : State} {m : MethodId} {args : Array Value} {below : List Frame} {meth : Method} {c : Code} {T : State} {H : Heap} {locs : List Loc} {cells slots : Nat}
abbrev vx_CSW (R : Room) (s : State) (args : Array Value) (own : String) (index : Nat) (y : MethodName) (bytes : ByteArray) (maxL : Nat) (ret : Option FieldType) (hh : List (Nat × Nat × Nat × Nat)) (ws : List Cond) (rm : Room) (mc ms n : Nat) : Prop :=
  (rm.cells = mc ∧ rm.slots = ms ∧ rm.frames + 1 ≤ R.frames ∧ 8 + (maxL + 11) + rm.locals ≤ R.locals ∧ (∀ w ∈ ws, ∀ (a' : Array Value) (U : State), s.WarmedH U.vm → w.before a' U = true) ∧ Cond.codeWith y bytes maxL ret hh ∈ ws) ∧
  (Cond.codeWith y bytes maxL ret hh).before args s = true ∧ (Cond.initialized y.cls).before args s = true ∧ (y.cls ≠ "java/lang/invoke/MethodHandle" ∧ y.cls ≠ "java/lang/invoke/VarHandle") ∧
  (∀ sig, parseMethodDescriptor y.desc = some sig → n = sig.parameters.length) ∧ (Cond.methodLink own index y).before args s = true ∧ (Cond.static y).before args s = true
theorem vx_cwSW {own : String} {index maxL mc ms : Nat} {y : MethodName} {bytes : ByteArray} {ret : Option FieldType} {hh : List (Nat × Nat × Nat × Nat)} {Ts ws ws' : List Cond} {rm : Room} (n : Nat) (ht : ∀ w ∈ Ts, w.before args s = true) (hT : GoodIn Ts (va_wsS own index y ws)) (hw : ws = Cond.codeWith y bytes maxL ret hh :: ws') (hrc : rm.cells = mc) (hrs : rm.slots = ms)
    (hd : y.cls ≠ "java/lang/invoke/MethodHandle" ∧ y.cls ≠ "java/lang/invoke/VarHandle" ∧ (parseMethodDescriptor y.desc).map (fun d => d.parameters.length) = some n) (hR : rm.frames + 1 ≤ R.frames ∧ 8 + (maxL + 11) + rm.locals ≤ R.locals) :
    vx_CSW R s args own index y bytes maxL ret hh ws rm mc ms n := by
  have ok : ∀ w ∈ va_wsS own index y ws, w.before args s = true := fun w h => ht w (hT w h).1
  have hG : GoodIn Ts ws := fun w h => hT w (by unfold va_wsS; exact List.mem_append_right _ h)
  have hc : Cond.codeWith y bytes maxL ret hh ∈ ws := by rw [hw]; exact List.mem_cons_self
  refine ⟨⟨hrc, hrs, hR.1, hR.2, pay_in ht hG, hc⟩, ht _ (hG _ hc).1, ok _ (by simp [va_wsS]), ⟨hd.1, hd.2.1⟩, fun sig h => ?_, ok _ (by simp [va_wsS]), ok _ (by simp [va_wsS])⟩
  have h2 := hd.2.2
  rw [h] at h2
  exact (Option.some.inj h2).symm
theorem vx_callSW (X : Stand p l e R s m args below meth c T locs cells slots) (hexec : p.tables.exec = Jvm.exec) {own : String} {index : Nat} {y : MethodName} {bytes : ByteArray} {maxL : Nat} {ret : Option FieldType} {hh : List (Nat × Nat × Nat × Nat)}
    (hown : s.vm.findClass own = some m.cls) (hlink : (Cond.methodLink own index y).before args s = true) (hstat : (Cond.static y).before args s = true) (hinit : (Cond.initialized y.cls).before args s = true)
    (hcode : (Cond.codeWith y bytes maxL ret hh).before args s = true) (hy : y.cls ≠ "java/lang/invoke/MethodHandle" ∧ y.cls ≠ "java/lang/invoke/VarHandle")
    {W9 : Nat} {Pre : Pt → Array Value → Prop} {Post : Pt → Array Value → Option Value → Pt → Prop} (hK : Back l R p e below s args y 3 W9 Pre Post)
    {g : JFrame} (hg : g.method = m) (hsize : g.locals.size = c.maxLocals) {argsL rest : List Value} (hlen : ∀ sig, parseMethodDescriptor y.desc = some sig → argsL.length = sig.parameters.length)
    (hstack : g.stack = argsL.reverse ++ rest) (hW : 2 * g.monitorRoom + (rest.map fun v => v.category).sum ≤ W9) (hdg : decode c.code g.pc = .ok (.invokestatic index, 3))
    (hpre : ∀ vm₁, s.WarmedH vm₁ → Pre ⟨T.setVm vm₁, locs, cells, slots⟩ argsL.toArray) :
    ∃ (v : Option Value) (vm₁ : Vm) (B : Pt), s.WarmedH vm₁ ∧ Stand p l e R s m args below meth c B.U B.locs B.cells B.slots ∧ Post ⟨T.setVm vm₁, locs, cells, slots⟩ argsL.toArray v B ∧
      ∀ target, Steps p.tables e below (B.U.setTop { g with pc := g.pc + 3, stack := v.toList ++ rest }) target → Steps p.tables e below (T.setTop g) target := by
  obtain ⟨mk, methM, cM, hnamed, hmethM, -, -, -, -, -, -, hsigM⟩ := Cond.codeWith_spec hcode
  have hstatic : methM.isStatic = true := Cond.static_spec hnamed hmethM hstat
  obtain ⟨kP, hkP, -⟩ := className_of_methodNamed hnamed
  have hinitP : kP.init = .initialized := Cond.initialized_spec (findClass_of_methodNamed hnamed) hkP hinit
  obtain ⟨vm₁, X₁, hstep₁⟩ := X.invokestatic hexec hown hlink hnamed hmethM hstatic hkP hinitP hy (g := g) hg (argsL := argsL) (rest := rest) (hlen _ hsigM) hstack hdg
  obtain ⟨v, B, X', hpost, hsteps⟩ := hK m meth c ⟨T.setVm vm₁, locs, cells, slots⟩ { g with stack := rest } (.invokestatic index) mk argsL.toArray X₁ hg hsize hdg hW (X₁.named hnamed) (hpre vm₁ X₁.warmed)
  exact ⟨v, vm₁, B, X₁.warmed, X', hpost, fun target h => hstep₁ _ fun acts => by rw [doInvoke_state]; exact hsteps.trans h⟩
theorem vx_runSW {y : MethodName} {bytes cc : ByteArray} {maxL nL mc ms n index : Nat} {ret : Option FieldType} {hh : List (Nat × Nat × Nat × Nat)} {ws : List Cond} {rm : Room} {Pc : Array Value → State → Prop} {Qc : Array Value → State → Outcome → State → Prop} {free : Addr → Prop} {Ts : List Cond} {own : String} {As rest : List Value} {g : JFrame}
    (S : CallFix p m c cc nL s args Ts own) (hM : Met l y ws rm Pc Qc mc ms free) (cw : vx_CSW R s args own index y bytes maxL ret hh ws rm mc ms n) (hp : PreS s H Pc As)
    (hg : g.method = m) (hn : As.length = n) (hsize : g.locals.size = nL) (hstack : g.stack = As.reverse ++ rest) (hW : 2 * g.monitorRoom + (rest.map fun v => v.category).sum ≤ 8) (hdg : decode cc g.pc = .ok (.invokestatic index, 3)) (hf : cells + mc ≤ R.cells ∧ slots + ms ≤ R.slots) :
    va_Run p l e R s m args below meth c H locs cells slots mc ms g rest (Qc As.toArray) (free) := by
  obtain ⟨⟨hrc, hrs, hfr, hlo, hws, hcw⟩, hcode, hini, hy, hlen, hl, hstt⟩ := cw
  have hK : Back l R p e below s args y 3 8 (PreOf R mc ms Pc) (PostOf Qc mc ms free) := va_backW (hh := hh) (bytes := bytes) (maxL := maxL) (ret := ret) hM hp.1 hrc hrs hfr hlo hws hcw (fun a' U hW => word_at hW (Or.inl (by first | rfl | simp [Cond.onTables, Cond.keeps, Cond.steady])) hini)
  obtain ⟨hx, hb, hml, ho, -⟩ := S
  intro T hT X
  obtain ⟨v, vm₁, ⟨U', l2, c2, s2⟩, hW₁, X', ⟨g', mk, t, L, e1, e2, hq, h1, hL, h2, h3⟩, st⟩ := vx_callSW X hx (hh := hh) (bytes := bytes) (maxL := maxL) (ret := ret) ho hl hstt hini hcode hy hK hg (hsize.trans hml.symm) (argsL := As) (rest := rest) (fun sig h => hn.trans (hlen sig h)) hstack hW (by rw [hb]; exact hdg)
    (fun vm₁ hW₁ => ⟨hf.1, hf.2, hp.2 (T.setVm vm₁) hT hW₁⟩)
  dsimp only [Pt.U, Pt.locs, Pt.cells, Pt.slots] at X' e1 e2 h1 h2 h3 st
  subst h1; subst h2; subst h3
  exact ⟨v, (T.setVm vm₁).calling g' mk As.toArray, t, U', L, hT, X', hL, e1, e2, hq, st⟩
/-- not caught here, past rows that name other classes: it goes on to the caller -/
theorem vx_outP {p : Program} {l : Launch} {e : Env} {R : Room} {s : State} {m : MethodId} {args : Array Value} {below : List Frame} {meth : Method} {c : Code} {H : Heap} {locs : List Loc} {cells slots : Nat} {free : Addr → Prop} {ls : Array Slot} {rest : List Value} {Qc : Array Value → State → Outcome → State → Prop} {XC : String → State → State → Prop}
    {pc : Nat} {own E : String} {ce : Cell} {q : Addr} {mc ms : Nat} (hown : s.vm.findClass own = some m.cls) (hlocks : meth.locks = false)
    (hpass : ∀ z ∈ c.exceptionTable.toList, covers z pc = false ∨ (z.catchType ≠ 0 ∧ ∃ nm : String, (Cond.classLink own z.catchType nm).before args s = true ∧ va_Nc E nm s)) (hcell : H[q]? = some ce) (hv : ce.vm = .none) (hcl : s.vm.findClass E = some ce.cls)
    (hx : ∀ t : State, t.heap = H → s.vm.Alike t.vm → XC E s t) (hf : ∀ z ∈ locs, free z.base) (hc : cells ≤ mc) (hs : slots ≤ ms) :
    vx_W p l e R s m args below meth c H locs cells slots (vx_MQ below Qc XC args s mc ms free) (F0 m pc ls rest) q := by
  intro T hT X
  have hpl : e.platform.magicAccessors = ({} : Platform).magicAccessors := by rw [X.admits.platform]
  obtain ⟨vm', hW', X', st⟩ := X.outThrough hlocks q (g := F0 m pc ls rest) rfl rfl rfl (cell := ce) (by rw [hT]; exact hcell) (by rw [hv]; rfl)
    (by obtain ⟨k9, h9, -⟩ := Vm.findClass_spec hcl; exact ⟨k9, h9⟩) (fun z hz => by
      rcases hpass z hz with h | ⟨hz0, nm, hl1, hn1⟩
      · exact Or.inl h
      · obtain ⟨c6, hc6, hcl6⟩ := Cond.classLink_spec hown hl1 e.platform hpl
        obtain ⟨a8, b8, h1, h2, h3⟩ := hn1
        cases Option.some.inj (h1.symm.trans hcl)
        cases Option.some.inj (h2.symm.trans hc6)
        exact Or.inr ⟨hz0, _, hcl6, h3⟩)
  obtain ⟨g₀, hfr⟩ := X'.frames_eq
  have hcell9 : ((T.setVm vm').setFrames (.throwing q :: below)).heap[q]? = some ce := by
    show T.heap[q]? = some ce
    rw [hT]; exact hcell
  have hend : Ended ((T.setVm vm').setFrames (.throwing q :: below)) below (.threw q) := State.frames_setFrames _ (State.cur_lt_of_frames hfr)
  refine ⟨(T.setVm vm').setFrames (.throwing q :: below), ?_, .threw q, X'.here.running, hend, Or.inr ⟨q, rfl, E, ce, locs, hx _ hT (X'.ends _).1.alike, hcell9, hv, hcl, (X'.ends _).1, (X'.ends _).2.mono hc hs, hf⟩⟩
  rw [X.pushThrowing_eq]
  exact st
/-- a thing of a world lies in the heap -/
theorem vx_lt {D : va_G} {cl : List vw_C} {ws : va_W} {H1 : Heap} (h : va_P D cl ws H1) {k : Nat} {q : Nat × va_E} (hk : ws[k]? = some q) : q.1 < H1.size := (h k q hk).lt
end VXS
/-! ===== END ===== -/
/-! ===== BEGIN methods with a table of their own: called by a name, returning or throwing ===== -/
section VXH
/-! vx_backW, vx_callVX, vx_callSX, vx_callVW, vx_runVW, vx_runVX, vx_runSX, vx_ofWH follow the same proofs as their sisters above (Free/Laws.lean, Shelf42/LK1.lean); vx_outP calls Shelf42/NT130.lean (outThrough). -/
section
variable {l : Launch} {R : Room} {p : Program} {e : Env} {below : List Frame} {s : State} {sargs : Array Value} {y : MethodName} {len W9 : Nat}
theorem vx_backW {ws : List Cond} {rm : Room} {Pc : Array Value → State → Prop} {Qc : Array Value → State → Outcome → State → Prop} {XC : String → State → State → Prop} {mc ms : Nat} {free : Addr → Prop} {bytes : ByteArray} {maxL : Nat} {ret : Option FieldType} {hh : List (Nat × Nat × Nat × Nat)}
    (hM : vx_Met l y ws rm Pc Qc XC mc ms free) (hblind : FrameBlind Pc) (hrc : rm.cells = mc) (hrs : rm.slots = ms)
    (hframes : rm.frames + 1 ≤ R.frames) (hlocals : W9 + (maxL + 11) + rm.locals ≤ R.locals)
    (hws : ∀ w ∈ ws, ∀ a' U, s.WarmedH U.vm → w.before a' U = true) (hcode : Cond.codeWith y bytes maxL ret hh ∈ ws) (hinit : ∀ a' U, s.WarmedH U.vm → (Cond.initialized y.cls).before a' U = true) :
    vx_Back l R p e below s sargs y len W9 (PreOf R mc ms Pc) (PostOf Qc mc ms free) (vx_Post XC mc ms free) := by
  intro m meth c A g ig mk a X hg hsize hdg hW hn hp
  have h1 : (headSpec ws rm).pre.before a A.U = true := atoms_intro fun w hw => hws w hw _ _ X.warmed
  have h2 : (Cond.codeWith y bytes maxL ret hh).before a A.U = true := hws _ hcode _ _ X.warmed
  have h3 : (Cond.initialized y.cls).before a A.U = true := hinit _ _ X.warmed
  have h4 : A.cells + (headSpec ws rm).room.cells ≤ R.cells := by rw [show (headSpec ws rm).room.cells = mc from hrc]; exact hp.1
  have h5 : A.slots + (headSpec ws rm).room.slots ≤ R.slots := by rw [show (headSpec ws rm).room.slots = ms from hrs]; exact hp.2.1
  have hPc : Pc a (A.U.calling g mk a) := hblind _ _ _ _ hp.2.2
  obtain ⟨U, Ls, c0, s0⟩ := A
  dsimp only [Pt.U, Pt.locs, Pt.cells, Pt.slots] at h1 h2 h3 h4 h5 X hn hPc ⊢
  obtain ⟨m9, methY, cY, hn9, hmY, hcY, -, hlY, -⟩ := Cond.codeWith_spec h2
  cases Option.some.inj (hn9.symm.trans hn)
  obtain ⟨kY, hkY, -⟩ := className_of_methodNamed hn
  have hinitY : kY.init = .initialized := Cond.initialized_spec (findClass_of_methodNamed hn) hkY h3
  have h : At U g.method c below := by rw [hg]; exact X.here
  have hlocals9 : W9 + (maxL + 11) + (headSpec ws rm).room.locals ≤ R.locals := hlocals
  have happ : (headSpec ws rm).appliesLoose y e.platform (U.calling g mk a) = true :=
    Spec.appliesLoose_calling (g := g) h hdg hn hkY hinitY
      (X.room_calling (g := g) (R' := (headSpec ws rm).room) hsize hmY hcY hframes (by rw [hlY]; omega) h4 h5) h1
  obtain ⟨mid, hmid⟩ := h.above
  have hfr : (U.setTop g).frames = (.java g :: mid) ++ below := by rw [State.frames_setTop' g h.top, hmid]; rfl
  obtain ⟨o, s₂, hsteps, -, hend, hq⟩ := Steps.callFree hM p X.admits X.cas X.clock (acts := []) hfr happ hPc trivial
  have hq' : vx_Q Qc XC mc ms free a (U.calling g mk a) o s₂ := hq
  rw [State.frames_setTop' g h.top] at hend
  obtain ⟨g₀, hg0⟩ := Option.isSome_iff_exists.mp h.top
  obtain ⟨r, hr⟩ := State.topJava?_eq_some.mp hg0
  have hr' : (({ U with heap := s₂.heap, slotsUsed := s₂.slotsUsed } : State).setVm s₂.vm).frames = .java g₀ :: r := hr
  rcases hq' with ⟨hqc, L, hfe, hL⟩ | ⟨q, rfl, E, ce, L, hx, hce, hcv, hcl, hW₂, hsm, hL⟩
  · obtain ⟨⟨v, rfl⟩, hW₂, e2, q2, q3, q4, q5, q6⟩ := id hfe
    have e3 : s₂ = ({ (U.calling g mk a).setFrames s₂.frames with heap := s₂.heap, slotsUsed := s₂.slotsUsed } : State).setVm s₂.vm := by
      have : s₂ = ({ s₂ with vm := (U.calling g mk a).vm } : State).setVm s₂.vm := rfl
      rw [e2] at this
      exact this
    obtain ⟨c₂, i₂, len₂, hc₂, hd₂, hf₂⟩ := hend
    have hW' : U.WarmedH s₂.vm := hW₂
    have hcc : c₂ = c := by
      have h1 : s₂.code? g.method = U.code? g.method := by
        rw [State.code?_eq, State.code?_eq, hW'.alike.method?]
      exact Option.some.inj (hc₂.symm.trans (h1.trans h.code))
    subst hcc
    have hlen : len₂ = len := by rw [hdg] at hd₂; cases hd₂; rfl
    subst hlen
    have hs₂ : s₂ = (({ U with heap := s₂.heap, slotsUsed := s₂.slotsUsed } : State).setVm s₂.vm).setTop { g with pc := g.pc + len₂, stack := v.toList ++ g.stack } := by
      refine e3.trans ?_
      rw [hf₂, State.calling_eq h.top, State.setFrames_setFrames, State.setTop_of_frames _ hr', hr]
      rfl
    have hsame : U.sameButNew ({ U with heap := s₂.heap, slotsUsed := s₂.slotsUsed } : State) L mc ms := by
      refine ⟨?_, q2, q3, q4, q5, q6⟩
      obtain ⟨t, ht, -⟩ := State.frames_cons hr
      show ({ U with heap := s₂.heap, slotsUsed := s₂.slotsUsed } : State) = { U.setFrames U.frames with heap := s₂.heap, slotsUsed := s₂.slotsUsed }
      rw [State.setFrames_self ht]
    subst hg
    refine Or.inl ⟨v, ⟨(({ U with heap := s₂.heap, slotsUsed := s₂.slotsUsed } : State).setVm s₂.vm), Ls ++ L, c0 + mc, s0 + ms⟩,
      ⟨X.admits, X.cas, X.clock, X.frames, X.room, X.hears, X.method, X.code, (X.here.setHeapUsed s₂.heap s₂.slotsUsed).setVm hW'.alike, X.tail, State.WarmedH.trans X.warmed hW', X.limits, X.bytes, X.same.trans (hsame.setVm s.vm)⟩,
      ⟨g, mk, s₂, L, rfl, rfl, hqc, rfl, hL, rfl, rfl⟩, ?_⟩
    show Steps p.tables e below _ ((({ U with heap := s₂.heap, slotsUsed := s₂.slotsUsed } : State).setVm s₂.vm).setTop { g with pc := g.pc + len₂, stack := v.toList ++ g.stack })
    rw [← hs₂]
    exact hsteps
  · obtain ⟨e2, q2, q3, q4, q5, q6⟩ := id hsm
    have e3 : s₂ = ({ (U.calling g mk a).setFrames s₂.frames with heap := s₂.heap, slotsUsed := s₂.slotsUsed } : State).setVm s₂.vm := by
      have : s₂ = ({ s₂ with vm := (U.calling g mk a).vm } : State).setVm s₂.vm := rfl
      rw [e2] at this
      exact this
    have hf₂ : s₂.frames = .throwing q :: .java g :: U.frames.tail := hend
    have hW' : U.WarmedH s₂.vm := hW₂
    have hs₂ : s₂ = ((({ U with heap := s₂.heap, slotsUsed := s₂.slotsUsed } : State).setVm s₂.vm).setTop g).pushFrame (.throwing q) := by
      refine e3.trans ?_
      rw [hf₂, State.calling_eq h.top, State.setFrames_setFrames, State.pushFrame, State.frames_setTop _ hr', State.setTop_of_frames _ hr', State.setFrames_setFrames, hr]
      rfl
    have hsame : U.sameButNew ({ U with heap := s₂.heap, slotsUsed := s₂.slotsUsed } : State) L mc ms := by
      refine ⟨?_, q2, q3, q4, q5, q6⟩
      obtain ⟨t, ht, -⟩ := State.frames_cons hr
      show ({ U with heap := s₂.heap, slotsUsed := s₂.slotsUsed } : State) = { U.setFrames U.frames with heap := s₂.heap, slotsUsed := s₂.slotsUsed }
      rw [State.setFrames_self ht]
    subst hg
    refine Or.inr ⟨q, ⟨(({ U with heap := s₂.heap, slotsUsed := s₂.slotsUsed } : State).setVm s₂.vm), Ls ++ L, c0 + mc, s0 + ms⟩,
      ⟨X.admits, X.cas, X.clock, X.frames, X.room, X.hears, X.method, X.code, (X.here.setHeapUsed s₂.heap s₂.slotsUsed).setVm hW'.alike, X.tail, State.WarmedH.trans X.warmed hW', X.limits, X.bytes, X.same.trans (hsame.setVm s.vm)⟩,
      ⟨g, mk, s₂, L, E, ce, rfl, rfl, hx, hce, hcv, hcl, rfl, hL, rfl, rfl⟩, ?_⟩
    show Steps p.tables e below _ (((({ U with heap := s₂.heap, slotsUsed := s₂.slotsUsed } : State).setVm s₂.vm).setTop g).pushFrame (.throwing q))
    rw [← hs₂]
    exact hsteps
end
variable {p : Program} {l : Launch} {e : Env} {R : Room} {s : State} {m : MethodId} {args : Array Value} {below : List Frame} {meth : Method} {c : Code} {T : State} {H : Heap} {locs : List Loc} {cells slots : Nat}
theorem vx_callVX (X : Stand p l e R s m args below meth c T locs cells slots) (hexec : p.tables.exec = Jvm.exec) {own C : String} {index : Nat} {y : MethodName} {bytes : ByteArray} {maxL : Nat} {ret : Option FieldType} {hh : List (Nat × Nat × Nat × Nat)}
    (hown : s.vm.findClass own = some m.cls) (hlink : (Cond.methodLink own index y).before args s = true) (hinst : (Cond.instanceMethod y).before args s = true) (hsel : (Cond.selects C y y).before args s = true)
    (hcode : (Cond.codeWith y bytes maxL ret hh).before args s = true) (hy : y.cls ≠ "java/lang/invoke/MethodHandle" ∧ y.cls ≠ "java/lang/invoke/VarHandle")
    {W9 : Nat} {Pre : Pt → Array Value → Prop} {Post : Pt → Array Value → Option Value → Pt → Prop} {PostX : Pt → Array Value → Addr → Pt → Prop} (hK : vx_Back l R p e below s args y 3 W9 Pre Post PostX)
    {b : Addr} {cellB : Cell} (hcell : T.heap[b]? = some cellB) (hobj : cellB.vm.isStatics = false) (hcls : s.vm.findClass C = some cellB.cls)
    {g : JFrame} (hg : g.method = m) (hsize : g.locals.size = c.maxLocals) {argsL rest : List Value} (hlen : ∀ sig, parseMethodDescriptor y.desc = some sig → argsL.length = sig.parameters.length)
    (hstack : g.stack = argsL.reverse ++ .ref b :: rest) (hW : 2 * g.monitorRoom + (rest.map fun v => v.category).sum ≤ W9) (hdg : decode c.code g.pc = .ok (.invokevirtual index, 3))
    (hpre : ∀ vm₁, s.WarmedH vm₁ → Pre ⟨T.setVm vm₁, locs, cells, slots⟩ (Value.ref b :: argsL).toArray) :
    (∃ (v : Option Value) (vm₁ : Vm) (B : Pt), s.WarmedH vm₁ ∧ Stand p l e R s m args below meth c B.U B.locs B.cells B.slots ∧ Post ⟨T.setVm vm₁, locs, cells, slots⟩ (Value.ref b :: argsL).toArray v B ∧
      ∀ target, Steps p.tables e below (B.U.setTop { g with pc := g.pc + 3, stack := v.toList ++ rest }) target → Steps p.tables e below (T.setTop g) target) ∨
    (∃ (q : Addr) (vm₁ : Vm) (B : Pt), s.WarmedH vm₁ ∧ Stand p l e R s m args below meth c B.U B.locs B.cells B.slots ∧ PostX ⟨T.setVm vm₁, locs, cells, slots⟩ (Value.ref b :: argsL).toArray q B ∧
      Steps p.tables e below (T.setTop g) ((B.U.setTop { g with stack := rest }).pushFrame (.throwing q))) := by
  obtain ⟨mk, methM, hnamed, hmethM, hstM, habM⟩ := Cond.instanceMethod_spec hinst
  obtain ⟨m8, methM', cM, hn8, hmethM', -, -, -, -, -, -, hsigM⟩ := Cond.codeWith_spec hcode
  cases Option.some.inj (hn8.symm.trans hnamed)
  cases hmethM.symm.trans hmethM'
  obtain ⟨c2, r2, m2, q1, q2, q3, q4, kP, hkP, hkPi⟩ := Cond.selects_spec hsel
  cases hcls.symm.trans q1
  cases (State.methodFound?_of_named hnamed hy).symm.trans q2
  cases hnamed.symm.trans q3
  have hselP : selectMethod e.platform s.vm cellB.cls mk = .method mk := by rw [Launch.admits_selectMethod X.admits]; exact q4
  obtain ⟨vm₁, X₁, hstep₁⟩ := X.invokevirtual hexec hown hlink hnamed hmethM hstM hkP hkPi hy (a := b) (cell := cellB) hcell
    (fun z h => by rw [h] at hobj; cases hobj) hselP hmethM habM hkP hkPi (g := g) hg (argsL := argsL) (rest := rest) (hlen _ hsigM) hstack hdg
  rcases hK m meth c ⟨T.setVm vm₁, locs, cells, slots⟩ { g with stack := rest } (.invokevirtual index) mk (Value.ref b :: argsL).toArray X₁ hg hsize hdg hW (X₁.named hnamed) (hpre vm₁ X₁.warmed) with ⟨v, B, X', hpost, hsteps⟩ | ⟨q, B, X', hpost, hsteps⟩
  · exact Or.inl ⟨v, vm₁, B, X₁.warmed, X', hpost, fun target h => hstep₁ _ fun acts => by rw [doInvoke_state]; exact hsteps.trans h⟩
  · exact Or.inr ⟨q, vm₁, B, X₁.warmed, X', hpost, hstep₁ _ fun acts => by rw [doInvoke_state]; exact hsteps⟩
theorem vx_callSX (X : Stand p l e R s m args below meth c T locs cells slots) (hexec : p.tables.exec = Jvm.exec) {own : String} {index : Nat} {y : MethodName} {bytes : ByteArray} {maxL : Nat} {ret : Option FieldType} {hh : List (Nat × Nat × Nat × Nat)}
    (hown : s.vm.findClass own = some m.cls) (hlink : (Cond.methodLink own index y).before args s = true) (hstat : (Cond.static y).before args s = true) (hinit : (Cond.initialized y.cls).before args s = true)
    (hcode : (Cond.codeWith y bytes maxL ret hh).before args s = true) (hy : y.cls ≠ "java/lang/invoke/MethodHandle" ∧ y.cls ≠ "java/lang/invoke/VarHandle")
    {W9 : Nat} {Pre : Pt → Array Value → Prop} {Post : Pt → Array Value → Option Value → Pt → Prop} {PostX : Pt → Array Value → Addr → Pt → Prop} (hK : vx_Back l R p e below s args y 3 W9 Pre Post PostX)
    {g : JFrame} (hg : g.method = m) (hsize : g.locals.size = c.maxLocals) {argsL rest : List Value} (hlen : ∀ sig, parseMethodDescriptor y.desc = some sig → argsL.length = sig.parameters.length)
    (hstack : g.stack = argsL.reverse ++ rest) (hW : 2 * g.monitorRoom + (rest.map fun v => v.category).sum ≤ W9) (hdg : decode c.code g.pc = .ok (.invokestatic index, 3))
    (hpre : ∀ vm₁, s.WarmedH vm₁ → Pre ⟨T.setVm vm₁, locs, cells, slots⟩ argsL.toArray) :
    (∃ (v : Option Value) (vm₁ : Vm) (B : Pt), s.WarmedH vm₁ ∧ Stand p l e R s m args below meth c B.U B.locs B.cells B.slots ∧ Post ⟨T.setVm vm₁, locs, cells, slots⟩ argsL.toArray v B ∧
      ∀ target, Steps p.tables e below (B.U.setTop { g with pc := g.pc + 3, stack := v.toList ++ rest }) target → Steps p.tables e below (T.setTop g) target) ∨
    (∃ (q : Addr) (vm₁ : Vm) (B : Pt), s.WarmedH vm₁ ∧ Stand p l e R s m args below meth c B.U B.locs B.cells B.slots ∧ PostX ⟨T.setVm vm₁, locs, cells, slots⟩ argsL.toArray q B ∧
      Steps p.tables e below (T.setTop g) ((B.U.setTop { g with stack := rest }).pushFrame (.throwing q))) := by
  obtain ⟨mk, methM, cM, hnamed, hmethM, -, -, -, -, -, -, hsigM⟩ := Cond.codeWith_spec hcode
  have hstatic : methM.isStatic = true := Cond.static_spec hnamed hmethM hstat
  obtain ⟨kP, hkP, -⟩ := className_of_methodNamed hnamed
  have hinitP : kP.init = .initialized := Cond.initialized_spec (findClass_of_methodNamed hnamed) hkP hinit
  obtain ⟨vm₁, X₁, hstep₁⟩ := X.invokestatic hexec hown hlink hnamed hmethM hstatic hkP hinitP hy (g := g) hg (argsL := argsL) (rest := rest) (hlen _ hsigM) hstack hdg
  rcases hK m meth c ⟨T.setVm vm₁, locs, cells, slots⟩ { g with stack := rest } (.invokestatic index) mk argsL.toArray X₁ hg hsize hdg hW (X₁.named hnamed) (hpre vm₁ X₁.warmed) with ⟨v, B, X', hpost, hsteps⟩ | ⟨q, B, X', hpost, hsteps⟩
  · exact Or.inl ⟨v, vm₁, B, X₁.warmed, X', hpost, fun target h => hstep₁ _ fun acts => by rw [doInvoke_state]; exact hsteps.trans h⟩
  · exact Or.inr ⟨q, vm₁, B, X₁.warmed, X', hpost, hstep₁ _ fun acts => by rw [doInvoke_state]; exact hsteps⟩
theorem vx_callVW (X : Stand p l e R s m args below meth c T locs cells slots) (hexec : p.tables.exec = Jvm.exec) {own C : String} {index : Nat} {y : MethodName} {bytes : ByteArray} {maxL : Nat} {ret : Option FieldType} {hh : List (Nat × Nat × Nat × Nat)}
    (hown : s.vm.findClass own = some m.cls) (hlink : (Cond.methodLink own index y).before args s = true) (hinst : (Cond.instanceMethod y).before args s = true) (hsel : (Cond.selects C y y).before args s = true)
    (hcode : (Cond.codeWith y bytes maxL ret hh).before args s = true) (hy : y.cls ≠ "java/lang/invoke/MethodHandle" ∧ y.cls ≠ "java/lang/invoke/VarHandle")
    {W9 : Nat} {Pre : Pt → Array Value → Prop} {Post : Pt → Array Value → Option Value → Pt → Prop} (hK : Back l R p e below s args y 3 W9 Pre Post)
    {b : Addr} {cellB : Cell} (hcell : T.heap[b]? = some cellB) (hobj : cellB.vm.isStatics = false) (hcls : s.vm.findClass C = some cellB.cls)
    {g : JFrame} (hg : g.method = m) (hsize : g.locals.size = c.maxLocals) {argsL rest : List Value} (hlen : ∀ sig, parseMethodDescriptor y.desc = some sig → argsL.length = sig.parameters.length)
    (hstack : g.stack = argsL.reverse ++ .ref b :: rest) (hW : 2 * g.monitorRoom + (rest.map fun v => v.category).sum ≤ W9) (hdg : decode c.code g.pc = .ok (.invokevirtual index, 3))
    (hpre : ∀ vm₁, s.WarmedH vm₁ → Pre ⟨T.setVm vm₁, locs, cells, slots⟩ (Value.ref b :: argsL).toArray) :
    ∃ (v : Option Value) (vm₁ : Vm) (B : Pt), s.WarmedH vm₁ ∧ Stand p l e R s m args below meth c B.U B.locs B.cells B.slots ∧ Post ⟨T.setVm vm₁, locs, cells, slots⟩ (Value.ref b :: argsL).toArray v B ∧
      ∀ target, Steps p.tables e below (B.U.setTop { g with pc := g.pc + 3, stack := v.toList ++ rest }) target → Steps p.tables e below (T.setTop g) target := by
  obtain ⟨mk, methM, hnamed, hmethM, hstM, habM⟩ := Cond.instanceMethod_spec hinst
  obtain ⟨m8, methM', cM, hn8, hmethM', -, -, -, -, -, -, hsigM⟩ := Cond.codeWith_spec hcode
  cases Option.some.inj (hn8.symm.trans hnamed)
  cases hmethM.symm.trans hmethM'
  obtain ⟨c2, r2, m2, q1, q2, q3, q4, kP, hkP, hkPi⟩ := Cond.selects_spec hsel
  cases hcls.symm.trans q1
  cases (State.methodFound?_of_named hnamed hy).symm.trans q2
  cases hnamed.symm.trans q3
  have hselP : selectMethod e.platform s.vm cellB.cls mk = .method mk := by rw [Launch.admits_selectMethod X.admits]; exact q4
  obtain ⟨vm₁, X₁, hstep₁⟩ := X.invokevirtual hexec hown hlink hnamed hmethM hstM hkP hkPi hy (a := b) (cell := cellB) hcell
    (fun z h => by rw [h] at hobj; cases hobj) hselP hmethM habM hkP hkPi (g := g) hg (argsL := argsL) (rest := rest) (hlen _ hsigM) hstack hdg
  obtain ⟨v, B, X', hpost, hsteps⟩ := hK m meth c ⟨T.setVm vm₁, locs, cells, slots⟩ { g with stack := rest } (.invokevirtual index) mk (Value.ref b :: argsL).toArray X₁ hg hsize hdg hW (X₁.named hnamed) (hpre vm₁ X₁.warmed)
  exact ⟨v, vm₁, B, X₁.warmed, X', hpost, fun target h => hstep₁ _ fun acts => by rw [doInvoke_state]; exact hsteps.trans h⟩
abbrev vx_CVW (R : Room) (s : State) (args : Array Value) (own C : String) (index : Nat) (y : MethodName) (bytes : ByteArray) (maxL : Nat) (ret : Option FieldType) (hh : List (Nat × Nat × Nat × Nat)) (ws : List Cond) (rm : Room) (mc ms n : Nat) : Prop :=
  (rm.cells = mc ∧ rm.slots = ms ∧ rm.frames + 1 ≤ R.frames ∧ 8 + (maxL + 11) + rm.locals ≤ R.locals ∧ (∀ w ∈ ws, ∀ (a' : Array Value) (U : State), s.WarmedH U.vm → w.before a' U = true) ∧ Cond.codeWith y bytes maxL ret hh ∈ ws) ∧
  (Cond.codeWith y bytes maxL ret hh).before args s = true ∧ (Cond.initialized y.cls).before args s = true ∧ (y.cls ≠ "java/lang/invoke/MethodHandle" ∧ y.cls ≠ "java/lang/invoke/VarHandle") ∧
  (∀ sig, parseMethodDescriptor y.desc = some sig → n = sig.parameters.length) ∧ (Cond.methodLink own index y).before args s = true ∧ (Cond.instanceMethod y).before args s = true ∧ (Cond.selects C y y).before args s = true
theorem vx_cwVW {own C : String} {index maxL mc ms : Nat} {y : MethodName} {bytes : ByteArray} {ret : Option FieldType} {hh : List (Nat × Nat × Nat × Nat)} {Ts ws ws' : List Cond} {rm : Room} (n : Nat) (ht : ∀ w ∈ Ts, w.before args s = true) (hT : GoodIn Ts (wsV own index C y ws)) (hw : ws = Cond.codeWith y bytes maxL ret hh :: ws') (hrc : rm.cells = mc) (hrs : rm.slots = ms)
    (hd : y.cls = C ∧ y.cls ≠ "java/lang/invoke/MethodHandle" ∧ y.cls ≠ "java/lang/invoke/VarHandle" ∧ (parseMethodDescriptor y.desc).map (fun d => d.parameters.length) = some n) (hR : rm.frames + 1 ≤ R.frames ∧ 8 + (maxL + 11) + rm.locals ≤ R.locals) :
    vx_CVW R s args own C index y bytes maxL ret hh ws rm mc ms n := by
  obtain ⟨hC, hd⟩ := hd
  subst hC
  have ok : ∀ w ∈ wsV own index y.cls y ws, w.before args s = true := fun w h => ht w (hT w h).1
  have hG : GoodIn Ts ws := fun w h => hT w (by unfold wsV; exact List.mem_append_right _ h)
  have hc : Cond.codeWith y bytes maxL ret hh ∈ ws := by rw [hw]; exact List.mem_cons_self
  refine ⟨⟨hrc, hrs, hR.1, hR.2, pay_in ht hG, hc⟩, ht _ (hG _ hc).1, ok _ (by simp [wsV]), ⟨hd.1, hd.2.1⟩, fun sig h => ?_, ok _ (by simp [wsV]), ok _ (by simp [wsV]), ok _ (by simp [wsV])⟩
  have h2 := hd.2.2
  rw [h] at h2
  exact (Option.some.inj h2).symm
theorem vx_runVW {y : MethodName} {bytes cc : ByteArray} {maxL nL mc ms n index : Nat} {ret : Option FieldType} {hh : List (Nat × Nat × Nat × Nat)} {ws : List Cond} {rm : Room} {Pc : Array Value → State → Prop} {Qc : Array Value → State → Outcome → State → Prop} {free : Addr → Prop} {Ts : List Cond} {own C : String} {b : Addr} {As rest : List Value} {g : JFrame}
    (S : CallFix p m c cc nL s args Ts own) (hM : Met l y ws rm Pc Qc mc ms free) (cw : vx_CVW R s args own C index y bytes maxL ret hh ws rm mc ms n) (hp : PreV s H C b Pc As)
    (hg : g.method = m) (hn : As.length = n) (hsize : g.locals.size = nL) (hstack : g.stack = As.reverse ++ .ref b :: rest) (hW : 2 * g.monitorRoom + (rest.map fun v => v.category).sum ≤ 8) (hdg : decode cc g.pc = .ok (.invokevirtual index, 3)) (hf : cells + mc ≤ R.cells ∧ slots + ms ≤ R.slots) :
    va_Run p l e R s m args below meth c H locs cells slots mc ms g rest (Qc (Value.ref b :: As).toArray) free := by
  obtain ⟨⟨hrc, hrs, hfr, hlo, hws, hcw⟩, hcode, hini, hy, hlen, hl, hin, hse⟩ := cw
  have hK : Back l R p e below s args y 3 8 (PreOf R mc ms Pc) (PostOf Qc mc ms free) := va_backW (hh := hh) (bytes := bytes) (maxL := maxL) (ret := ret) hM hp.1 hrc hrs hfr hlo hws hcw (fun a' U hW => word_at hW (Or.inl (by first | rfl | simp [Cond.onTables, Cond.keeps, Cond.steady])) hini)
  obtain ⟨hx, hb, hml, ho, -⟩ := S
  obtain ⟨-, ⟨cellB, hcB, hoB, hclB⟩, hPc⟩ := hp
  intro T hT X
  obtain ⟨v, vm₁, ⟨U', l2, c2, s2⟩, hW₁, X', ⟨g', mk, t, L, e1, e2, hq, h1, hL, h2, h3⟩, st⟩ := vx_callVW X hx (C := C) (hh := hh) (bytes := bytes) (maxL := maxL) (ret := ret) ho hl hin hse hcode hy hK (by rw [hT]; exact hcB) hoB hclB hg (hsize.trans hml.symm) (argsL := As) (rest := rest) (fun sig h => hn.trans (hlen sig h)) hstack hW (by rw [hb]; exact hdg)
    (fun vm₁ hW₁ => ⟨hf.1, hf.2, hPc (T.setVm vm₁) hT hW₁⟩)
  dsimp only [Pt.U, Pt.locs, Pt.cells, Pt.slots] at X' e1 e2 h1 h2 h3 st
  subst h1; subst h2; subst h3
  exact ⟨v, (T.setVm vm₁).calling g' mk (Value.ref b :: As).toArray, t, U', L, hT, X', hL, e1, e2, hq, st⟩
section
variable {y : MethodName} {bytes cc : ByteArray} {maxL nL mc ms n index : Nat} {ret : Option FieldType} {ws : List Cond} {rm : Room} {Pc : Array Value → State → Prop} {Qc : Array Value → State → Outcome → State → Prop} {XC : String → State → State → Prop} {free : Addr → Prop} {Ts : List Cond} {own C : String} {b : Addr} {As rest : List Value} {g : JFrame}
theorem vx_runVX {hh : List (Nat × Nat × Nat × Nat)} (S : CallFix p m c cc nL s args Ts own) (hM : vx_Met l y ws rm Pc Qc XC mc ms free) (cw : vx_CVW R s args own C index y bytes maxL ret hh ws rm mc ms n) (hp : PreV s H C b Pc As)
    (hg : g.method = m) (hn : As.length = n) (hsize : g.locals.size = nL) (hstack : g.stack = As.reverse ++ .ref b :: rest) (hW : 2 * g.monitorRoom + (rest.map fun v => v.category).sum ≤ 8) (hdg : decode cc g.pc = .ok (.invokevirtual index, 3)) (hf : cells + mc ≤ R.cells ∧ slots + ms ≤ R.slots) :
    vx_Run p l e R s m args below meth c H locs cells slots mc ms g rest (Qc (Value.ref b :: As).toArray) XC free := by
  obtain ⟨⟨hrc, hrs, hfr, hlo, hws, hcw⟩, hcode, hini, hy, hlen, hl, hin, hse⟩ := cw
  have hK : vx_Back l R p e below s args y 3 8 (PreOf R mc ms Pc) (PostOf Qc mc ms free) (vx_Post XC mc ms free) := vx_backW (hh := hh) (bytes := bytes) (maxL := maxL) (ret := ret) hM hp.1 hrc hrs hfr hlo hws hcw (fun a' U hW => word_at hW (Or.inl (by first | rfl | simp [Cond.onTables, Cond.keeps, Cond.steady])) hini)
  obtain ⟨hx, hb, hml, ho, -⟩ := S
  obtain ⟨-, ⟨cellB, hcB, hoB, hclB⟩, hPc⟩ := hp
  intro T hT X
  rcases vx_callVX X hx (C := C) (hh := hh) (bytes := bytes) (maxL := maxL) (ret := ret) ho hl hin hse hcode hy hK (by rw [hT]; exact hcB) hoB hclB hg (hsize.trans hml.symm) (argsL := As) (rest := rest) (fun sig h => hn.trans (hlen sig h)) hstack hW (by rw [hb]; exact hdg)
    (fun vm₁ hW₁ => ⟨hf.1, hf.2, hPc (T.setVm vm₁) hT hW₁⟩) with ⟨v, vm₁, ⟨U', l2, c2, s2⟩, hW₁, X', ⟨g', mk, t, L, e1, e2, hq, h1, hL, h2, h3⟩, st⟩ | ⟨q, vm₁, ⟨U', l2, c2, s2⟩, hW₁, X', ⟨g', mk, t, L, E, ce, e1, e2, hq, hce, hcv, hcl, h1, hL, h2, h3⟩, st⟩
  · dsimp only [Pt.U, Pt.locs, Pt.cells, Pt.slots] at X' e1 e2 h1 h2 h3 st
    subst h1; subst h2; subst h3
    exact Or.inl ⟨v, (T.setVm vm₁).calling g' mk (Value.ref b :: As).toArray, t, U', L, hT, X', hL, e1, e2, hq, st⟩
  · dsimp only [Pt.U, Pt.locs, Pt.cells, Pt.slots] at X' e1 e2 h1 h2 h3 st hcl
    subst h1; subst h2; subst h3
    exact Or.inr ⟨q, (T.setVm vm₁).calling g' mk (Value.ref b :: As).toArray, t, U', L, E, ce, hT, X', hL, e1, e2, hq, hce, hcv, vx_cls hW₁ hcl, st⟩
theorem vx_runSX {hh : List (Nat × Nat × Nat × Nat)} (S : CallFix p m c cc nL s args Ts own) (hM : vx_Met l y ws rm Pc Qc XC mc ms free) (cw : vx_CSW R s args own index y bytes maxL ret hh ws rm mc ms n) (hp : PreS s H Pc As)
    (hg : g.method = m) (hn : As.length = n) (hsize : g.locals.size = nL) (hstack : g.stack = As.reverse ++ rest) (hW : 2 * g.monitorRoom + (rest.map fun v => v.category).sum ≤ 8) (hdg : decode cc g.pc = .ok (.invokestatic index, 3)) (hf : cells + mc ≤ R.cells ∧ slots + ms ≤ R.slots) :
    vx_Run p l e R s m args below meth c H locs cells slots mc ms g rest (Qc As.toArray) XC free := by
  obtain ⟨⟨hrc, hrs, hfr, hlo, hws, hcw⟩, hcode, hini, hy, hlen, hl, hstt⟩ := cw
  have hK : vx_Back l R p e below s args y 3 8 (PreOf R mc ms Pc) (PostOf Qc mc ms free) (vx_Post XC mc ms free) := vx_backW (hh := hh) (bytes := bytes) (maxL := maxL) (ret := ret) hM hp.1 hrc hrs hfr hlo hws hcw (fun a' U hW => word_at hW (Or.inl (by first | rfl | simp [Cond.onTables, Cond.keeps, Cond.steady])) hini)
  obtain ⟨hx, hb, hml, ho, -⟩ := S
  intro T hT X
  rcases vx_callSX X hx (hh := hh) (bytes := bytes) (maxL := maxL) (ret := ret) ho hl hstt hini hcode hy hK hg (hsize.trans hml.symm) (argsL := As) (rest := rest) (fun sig h => hn.trans (hlen sig h)) hstack hW (by rw [hb]; exact hdg)
    (fun vm₁ hW₁ => ⟨hf.1, hf.2, hp.2 (T.setVm vm₁) hT hW₁⟩) with ⟨v, vm₁, ⟨U', l2, c2, s2⟩, hW₁, X', ⟨g', mk, t, L, e1, e2, hq, h1, hL, h2, h3⟩, st⟩ | ⟨q, vm₁, ⟨U', l2, c2, s2⟩, hW₁, X', ⟨g', mk, t, L, E, ce, e1, e2, hq, hce, hcv, hcl, h1, hL, h2, h3⟩, st⟩
  · dsimp only [Pt.U, Pt.locs, Pt.cells, Pt.slots] at X' e1 e2 h1 h2 h3 st
    subst h1; subst h2; subst h3
    exact Or.inl ⟨v, (T.setVm vm₁).calling g' mk As.toArray, t, U', L, hT, X', hL, e1, e2, hq, st⟩
  · dsimp only [Pt.U, Pt.locs, Pt.cells, Pt.slots] at X' e1 e2 h1 h2 h3 st hcl
    subst h1; subst h2; subst h3
    exact Or.inr ⟨q, (T.setVm vm₁).calling g' mk As.toArray, t, U', L, E, ce, hT, X', hL, e1, e2, hq, hce, hcv, vx_cls hW₁ hcl, st⟩
end
end VXH
theorem vx_ofWH {l : Launch} {y : MethodName} {ws ws' : List Cond} {rm : Room} {Pc : Array Value → State → Prop} {Qc : Array Value → State → Outcome → State → Prop} {XC : String → State → State → Prop} {mc ms : Nat} {free : Addr → Prop} {cc : ByteArray} {maxL : Nat} {ret : Option FieldType} {hh : List (Nat × Nat × Nat × Nat)}
    (hy : plainName y.cls = true) (hw : ws = Cond.codeWith y cc maxL ret hh :: ws')
    (body : ∀ p e s m args below meth c s₁, BodyLoose p l y (headSpec ws rm) cc maxL ret e s m args below meth c s₁ → c.maxLocals = maxL → Pc args s →
      W p l e (headSpec ws rm).room s m args below meth c s.heap [] 0 0 (vx_MQ below Qc XC args s mc ms free) (entryFrame m args maxL)) : vx_Met l y ws rm Pc Qc XC mc ms free := by
  refine MetFree.of_bodyS (code := cc) (maxLocals := maxL) (ret := ret) hy ?_ ?_
  · intro args s m h hn
    obtain ⟨m9, meth, c, hn9, h1, h2, h3, h4, -, h5, h6, -⟩ := Cond.codeWith_spec (atoms_spec (ws := ws) h _ (by rw [hw]; exact List.mem_cons_self))
    cases hn.symm.trans hn9
    exact ⟨meth, c, h1, h2, h3, h4, h5, h6⟩
  · intro p e s m args below meth c s₁ B hml hP _
    have hh0 : s₁.heap = s.heap := by rw [B.state]; rfl
    obtain ⟨t, a1, o, b1, b2, b3⟩ := body p e s m args below meth c s₁ B hml hP s₁ hh0 (Stand.of_body B)
    exact ⟨t, o, a1, b1, b2, b3⟩
/-! ===== END ===== -/
end
section
/-! ===== BEGIN printed: names, fields, word lists, decode rows ===== -/
def RX0 : String := "CanticlePress"
def TX0 : u_T := fun k => match k with
  | 0 => ("CanticlePress", "today", "I", false)
  | 1 => ("CanticlePress", "hymnCount", "I", false)
  | 2 => ("CanticlePress", "ownerOfHymn", "[I", true)
  | 3 => ("CanticlePress", "seasonsOfHymn", "[I", true)
  | 4 => ("CanticlePress", "linesOfHymn", "[I", true)
  | 5 => ("CanticlePress", "restsOfHymn", "[I", true)
  | 6 => ("CanticlePress", "turnsOfHymn", "[I", true)
  | 7 => ("CanticlePress", "choirsOfHymn", "[I", true)
  | 8 => ("CanticlePress", "copiesOfHymnInYear", "[I", true)
  | 9 => ("CanticlePress", "rightCount", "I", false)
  | 10 => ("CanticlePress", "hymnOfRight", "[I", true)
  | 11 => ("CanticlePress", "useOfRight", "[I", true)
  | 12 => ("CanticlePress", "firstOfRight", "[I", true)
  | 13 => ("CanticlePress", "lastOfRight", "[I", true)
  | 14 => ("CanticlePress", "serviceCount", "I", false)
  | 15 => ("CanticlePress", "choirOfService", "[I", true)
  | 16 => ("CanticlePress", "dayOfService", "[I", true)
  | _ => ("CanticlePress", "hymnOfService", "[I", true)
def tyX0 : Nat → FieldType := fun k => match k with
  | 0 => .int
  | 1 => .int
  | 2 => .array .int
  | 3 => .array .int
  | 4 => .array .int
  | 5 => .array .int
  | 6 => .array .int
  | 7 => .array .int
  | 8 => .array .int
  | 9 => .int
  | 10 => .array .int
  | 11 => .array .int
  | 12 => .array .int
  | 13 => .array .int
  | 14 => .int
  | 15 => .array .int
  | 16 => .array .int
  | _ => .array .int
abbrev wsX00 : List Cond := u_ws RX0 TX0 18
theorem nmX0 : ∀ a, a < 18 → ∀ b, b < 18 → a ≠ b → (TX0 a).2.1 ≠ (TX0 b).2.1 := by decide +kernel
theorem tyX0_ok : ∀ k, k < 18 → parseFieldDescriptor (TX0 k).2.2.1 = some (tyX0 k) := by decide +kernel
abbrev cX0_init : ByteArray := prog_1_method_1_code
def yX0_init : MethodName := ⟨RX0, "<init>", "()V"⟩
abbrev cX0_hymn : ByteArray := prog_1_method_2_code
def yX0_hymn : MethodName := ⟨RX0, "hymn", "(IIII)I"⟩
abbrev cX0_hymns : ByteArray := prog_1_method_3_code
def yX0_hymns : MethodName := ⟨RX0, "hymns", "()I"⟩
abbrev cX0_pages : ByteArray := prog_1_method_4_code
def yX0_pages : MethodName := ⟨RX0, "pages", "(I)I"⟩
abbrev cX0_pageOf : ByteArray := prog_1_method_5_code
def yX0_pageOf : MethodName := ⟨RX0, "pageOf", "(II)I"⟩
abbrev cX0_badTurns : ByteArray := prog_1_method_6_code
def yX0_badTurns : MethodName := ⟨RX0, "badTurns", "(I)I"⟩
abbrev cX0_pageCount : ByteArray := prog_1_method_7_code
def yX0_pageCount : MethodName := ⟨RX0, "pageCount", "(I)I"⟩
abbrev cX0_turns : ByteArray := prog_1_method_8_code
def yX0_turns : MethodName := ⟨RX0, "turns", "(II)I"⟩
abbrev cX0_lastLineOfFullPage : ByteArray := prog_1_method_9_code
def yX0_lastLineOfFullPage : MethodName := ⟨RX0, "lastLineOfFullPage", "(II)I"⟩
abbrev cX0_right : ByteArray := prog_1_method_10_code
def yX0_right : MethodName := ⟨RX0, "right", "(IIII)I"⟩
abbrev cX0_end : ByteArray := prog_1_method_11_code
def yX0_end : MethodName := ⟨RX0, "end", "(II)I"⟩
abbrev cX0_hasRight : ByteArray := prog_1_method_12_code
def yX0_hasRight : MethodName := ⟨RX0, "hasRight", "(III)Z"⟩
abbrev cX0_print : ByteArray := prog_1_method_13_code
def yX0_print : MethodName := ⟨RX0, "print", "(II)I"⟩
abbrev cX0_printed : ByteArray := prog_1_method_14_code
def yX0_printed : MethodName := ⟨RX0, "printed", "(II)I"⟩
abbrev cX0_isAllowed : ByteArray := prog_1_method_15_code
def yX0_isAllowed : MethodName := ⟨RX0, "isAllowed", "(III)Z"⟩
abbrev cX0_learn : ByteArray := prog_1_method_16_code
def yX0_learn : MethodName := ⟨RX0, "learn", "(II)Z"⟩
abbrev cX0_service : ByteArray := prog_1_method_17_code
def yX0_service : MethodName := ⟨RX0, "service", "(II)I"⟩
abbrev cX0_plan : ByteArray := prog_1_method_18_code
def yX0_plan : MethodName := ⟨RX0, "plan", "(I)I"⟩
abbrev cX0_hymnOf : ByteArray := prog_1_method_19_code
def yX0_hymnOf : MethodName := ⟨RX0, "hymnOf", "(I)I"⟩
abbrev cX0_silent : ByteArray := prog_1_method_20_code
def yX0_silent : MethodName := ⟨RX0, "silent", "()I"⟩
abbrev cX0_hasServiceOn : ByteArray := prog_1_method_21_code
def yX0_hasServiceOn : MethodName := ⟨RX0, "hasServiceOn", "(II)Z"⟩
abbrev cX0_planAnew : ByteArray := prog_1_method_22_code
def yX0_planAnew : MethodName := ⟨RX0, "planAnew", "(I)V"⟩
abbrev cX0_bestHymn : ByteArray := prog_1_method_23_code
def yX0_bestHymn : MethodName := ⟨RX0, "bestHymn", "(II)I"⟩
abbrev cX0_isSuitable : ByteArray := prog_1_method_24_code
def yX0_isSuitable : MethodName := ⟨RX0, "isSuitable", "(III)Z"⟩
abbrev cX0_isRested : ByteArray := prog_1_method_25_code
def yX0_isRested : MethodName := ⟨RX0, "isRested", "(III)Z"⟩
abbrev cX0_servicesWith : ByteArray := prog_1_method_26_code
def yX0_servicesWith : MethodName := ⟨RX0, "servicesWith", "(I)I"⟩
abbrev cX0_silenceServicesWithoutRight : ByteArray := prog_1_method_27_code
def yX0_silenceServicesWithoutRight : MethodName := ⟨RX0, "silenceServicesWithoutRight", "()J"⟩
abbrev cX0_hasLostItsRight : ByteArray := prog_1_method_28_code
def yX0_hasLostItsRight : MethodName := ⟨RX0, "hasLostItsRight", "(I)Z"⟩
abbrev cX0_planEach : ByteArray := prog_1_method_29_code
def yX0_planEach : MethodName := ⟨RX0, "planEach", "(J)V"⟩
abbrev cX0_sung : ByteArray := prog_1_method_30_code
def yX0_sung : MethodName := ⟨RX0, "sung", "(II)I"⟩
abbrev cX0_sungByHymns : ByteArray := prog_1_method_31_code
def yX0_sungByHymns : MethodName := ⟨RX0, "sungByHymns", "(II)I"⟩
abbrev cX0_pass : ByteArray := prog_1_method_32_code
def yX0_pass : MethodName := ⟨RX0, "pass", "(I)I"⟩
abbrev cX0_timesSung : ByteArray := prog_1_method_33_code
def yX0_timesSung : MethodName := ⟨RX0, "timesSung", "(II)I"⟩
abbrev cX0_isHeldIn : ByteArray := prog_1_method_34_code
def yX0_isHeldIn : MethodName := ⟨RX0, "isHeldIn", "(II)Z"⟩
abbrev cX0_yearOf : ByteArray := prog_1_method_35_code
def yX0_yearOf : MethodName := ⟨RX0, "yearOf", "(I)I"⟩
abbrev cX0_seasonOf : ByteArray := prog_1_method_36_code
def yX0_seasonOf : MethodName := ⟨RX0, "seasonOf", "(I)I"⟩
abbrev cX0_isHymn : ByteArray := prog_1_method_37_code
def yX0_isHymn : MethodName := ⟨RX0, "isHymn", "(I)Z"⟩
abbrev cX0_isService : ByteArray := prog_1_method_38_code
def yX0_isService : MethodName := ⟨RX0, "isService", "(I)Z"⟩
abbrev cX0_isChoir : ByteArray := prog_1_method_39_code
def yX0_isChoir : MethodName := ⟨RX0, "isChoir", "(I)Z"⟩
abbrev cX0_isUse : ByteArray := prog_1_method_40_code
def yX0_isUse : MethodName := ⟨RX0, "isUse", "(I)Z"⟩
abbrev cX0_isDay : ByteArray := prog_1_method_41_code
def yX0_isDay : MethodName := ⟨RX0, "isDay", "(I)Z"⟩
abbrev cX0_isYear : ByteArray := prog_1_method_42_code
def yX0_isYear : MethodName := ⟨RX0, "isYear", "(I)Z"⟩
abbrev cX0_isBetween : ByteArray := prog_1_method_43_code
def yX0_isBetween : MethodName := ⟨RX0, "isBetween", "(III)Z"⟩
abbrev cX0_isInSet : ByteArray := prog_1_method_44_code
def yX0_isInSet : MethodName := ⟨RX0, "isInSet", "(IJ)Z"⟩
abbrev cX0_needIndex : ByteArray := prog_1_method_45_code
def yX0_needIndex : MethodName := ⟨RX0, "needIndex", "(Z)V"⟩
abbrev cX0_needArgument : ByteArray := prog_1_method_46_code
def yX0_needArgument : MethodName := ⟨RX0, "needArgument", "(Z)V"⟩
abbrev cX0_needState : ByteArray := prog_1_method_47_code
def yX0_needState : MethodName := ⟨RX0, "needState", "(Z)V"⟩
def RX1 : String := "CanticlePressModel"
def TX1 : u_T := fun k => match k with
  | 0 => ("CanticlePressModel", "thrown", "I", false)
  | 1 => ("CanticlePressModel", "today", "I", false)
  | 2 => ("CanticlePressModel", "hymns", "I", false)
  | 3 => ("CanticlePressModel", "owner", "[I", true)
  | 4 => ("CanticlePressModel", "seasons", "[I", true)
  | 5 => ("CanticlePressModel", "lines", "[I", true)
  | 6 => ("CanticlePressModel", "rests", "[I", true)
  | 7 => ("CanticlePressModel", "printed", "[I", true)
  | 8 => ("CanticlePressModel", "rights", "I", false)
  | 9 => ("CanticlePressModel", "rightHymn", "[I", true)
  | 10 => ("CanticlePressModel", "rightUse", "[I", true)
  | 11 => ("CanticlePressModel", "first", "[I", true)
  | 12 => ("CanticlePressModel", "last", "[I", true)
  | 13 => ("CanticlePressModel", "known", "[I", true)
  | 14 => ("CanticlePressModel", "services", "I", false)
  | 15 => ("CanticlePressModel", "choir", "[I", true)
  | 16 => ("CanticlePressModel", "day", "[I", true)
  | 17 => ("CanticlePressModel", "sung", "[I", true)
  | _ => ("CanticlePressModel", "isAnew", "[Z", true)
def tyX1 : Nat → FieldType := fun k => match k with
  | 0 => .int
  | 1 => .int
  | 2 => .int
  | 3 => .array .int
  | 4 => .array .int
  | 5 => .array .int
  | 6 => .array .int
  | 7 => .array .int
  | 8 => .int
  | 9 => .array .int
  | 10 => .array .int
  | 11 => .array .int
  | 12 => .array .int
  | 13 => .array .int
  | 14 => .int
  | 15 => .array .int
  | 16 => .array .int
  | 17 => .array .int
  | _ => .array .boolean
abbrev wsX10 : List Cond := u_ws RX1 TX1 19
theorem nmX1 : ∀ a, a < 19 → ∀ b, b < 19 → a ≠ b → (TX1 a).2.1 ≠ (TX1 b).2.1 := by decide +kernel
theorem tyX1_ok : ∀ k, k < 19 → parseFieldDescriptor (TX1 k).2.2.1 = some (tyX1 k) := by decide +kernel
abbrev cX1_init : ByteArray := prog_3_method_1_code
def yX1_init : MethodName := ⟨RX1, "<init>", "()V"⟩
abbrev cX1_thrown : ByteArray := prog_3_method_2_code
def yX1_thrown : MethodName := ⟨RX1, "thrown", "()I"⟩
abbrev cX1_isIn : ByteArray := prog_3_method_3_code
def yX1_isIn : MethodName := ⟨RX1, "isIn", "(III)Z"⟩
abbrev cX1_isHymn : ByteArray := prog_3_method_4_code
def yX1_isHymn : MethodName := ⟨RX1, "isHymn", "(I)Z"⟩
abbrev cX1_isUse : ByteArray := prog_3_method_5_code
def yX1_isUse : MethodName := ⟨RX1, "isUse", "(I)Z"⟩
abbrev cX1_isDay : ByteArray := prog_3_method_6_code
def yX1_isDay : MethodName := ⟨RX1, "isDay", "(I)Z"⟩
abbrev cX1_hymn : ByteArray := prog_3_method_7_code
def yX1_hymn : MethodName := ⟨RX1, "hymn", "(IIII)I"⟩
abbrev cX1_hymns : ByteArray := prog_3_method_8_code
def yX1_hymns : MethodName := ⟨RX1, "hymns", "()I"⟩
abbrev cX1_hasRest : ByteArray := prog_3_method_9_code
def yX1_hasRest : MethodName := ⟨RX1, "hasRest", "(II)Z"⟩
abbrev cX1_nextPage : ByteArray := prog_3_method_10_code
def yX1_nextPage : MethodName := ⟨RX1, "nextPage", "(II)I"⟩
abbrev cX1_pagesOf : ByteArray := prog_3_method_11_code
def yX1_pagesOf : MethodName := ⟨RX1, "pagesOf", "(I)I"⟩
abbrev cX1_pages : ByteArray := prog_3_method_12_code
def yX1_pages : MethodName := ⟨RX1, "pages", "(I)I"⟩
abbrev cX1_pageOf : ByteArray := prog_3_method_13_code
def yX1_pageOf : MethodName := ⟨RX1, "pageOf", "(II)I"⟩
abbrev cX1_badTurns : ByteArray := prog_3_method_14_code
def yX1_badTurns : MethodName := ⟨RX1, "badTurns", "(I)I"⟩
abbrev cX1_right : ByteArray := prog_3_method_15_code
def yX1_right : MethodName := ⟨RX1, "right", "(IIII)I"⟩
abbrev cX1_may : ByteArray := prog_3_method_16_code
def yX1_may : MethodName := ⟨RX1, "may", "(III)Z"⟩
abbrev cX1_end : ByteArray := prog_3_method_17_code
def yX1_end : MethodName := ⟨RX1, "end", "(II)I"⟩
abbrev cX1_hasRight : ByteArray := prog_3_method_18_code
def yX1_hasRight : MethodName := ⟨RX1, "hasRight", "(III)Z"⟩
abbrev cX1_print : ByteArray := prog_3_method_19_code
def yX1_print : MethodName := ⟨RX1, "print", "(II)I"⟩
abbrev cX1_printed : ByteArray := prog_3_method_20_code
def yX1_printed : MethodName := ⟨RX1, "printed", "(II)I"⟩
abbrev cX1_learn : ByteArray := prog_3_method_21_code
def yX1_learn : MethodName := ⟨RX1, "learn", "(II)Z"⟩
abbrev cX1_servicesWith : ByteArray := prog_3_method_22_code
def yX1_servicesWith : MethodName := ⟨RX1, "servicesWith", "(I)I"⟩
abbrev cX1_isRested : ByteArray := prog_3_method_23_code
def yX1_isRested : MethodName := ⟨RX1, "isRested", "(II)Z"⟩
abbrev cX1_plans : ByteArray := prog_3_method_24_code
def yX1_plans : MethodName := ⟨RX1, "plans", "(I)V"⟩
abbrev cX1_service : ByteArray := prog_3_method_25_code
def yX1_service : MethodName := ⟨RX1, "service", "(II)I"⟩
abbrev cX1_isService : ByteArray := prog_3_method_26_code
def yX1_isService : MethodName := ⟨RX1, "isService", "(I)Z"⟩
abbrev cX1_plan : ByteArray := prog_3_method_27_code
def yX1_plan : MethodName := ⟨RX1, "plan", "(I)I"⟩
abbrev cX1_hymnOf : ByteArray := prog_3_method_28_code
def yX1_hymnOf : MethodName := ⟨RX1, "hymnOf", "(I)I"⟩
abbrev cX1_silent : ByteArray := prog_3_method_29_code
def yX1_silent : MethodName := ⟨RX1, "silent", "()I"⟩
abbrev cX1_sungOf : ByteArray := prog_3_method_30_code
def yX1_sungOf : MethodName := ⟨RX1, "sungOf", "(II)I"⟩
abbrev cX1_sung : ByteArray := prog_3_method_31_code
def yX1_sung : MethodName := ⟨RX1, "sung", "(II)I"⟩
abbrev cX1_sungByHymns : ByteArray := prog_3_method_32_code
def yX1_sungByHymns : MethodName := ⟨RX1, "sungByHymns", "(II)I"⟩
abbrev cX1_pass : ByteArray := prog_3_method_33_code
def yX1_pass : MethodName := ⟨RX1, "pass", "(I)I"⟩
def RJ6 : String := "java/lang/Integer"
def TJ6 : u_T := fun k => match k with
  | _ => ("", "", "", false)
def tyJ6 : Nat → FieldType := fun k => match k with
  | _ => .int
abbrev wsJ60 : List Cond := u_ws RJ6 TJ6 0
theorem nmJ6 : ∀ a, a < 0 → ∀ b, b < 0 → a ≠ b → (TJ6 a).2.1 ≠ (TJ6 b).2.1 := by decide +kernel
theorem tyJ6_ok : ∀ k, k < 0 → parseFieldDescriptor (TJ6 k).2.2.1 = some (tyJ6 k) := by decide +kernel
abbrev cJ6_bitCount_0f7a4 : ByteArray := prog_8_method_49_code
def yJ6_bitCount_0f7a4 : MethodName := ⟨RJ6, "bitCount", "(I)I"⟩
def RJ13 : String := "java/lang/Long"
def TJ13 : u_T := fun k => match k with
  | _ => ("", "", "", false)
def tyJ13 : Nat → FieldType := fun k => match k with
  | _ => .int
abbrev wsJ130 : List Cond := u_ws RJ13 TJ13 0
theorem nmJ13 : ∀ a, a < 0 → ∀ b, b < 0 → a ≠ b → (TJ13 a).2.1 ≠ (TJ13 b).2.1 := by decide +kernel
theorem tyJ13_ok : ∀ k, k < 0 → parseFieldDescriptor (TJ13 k).2.2.1 = some (tyJ13 k) := by decide +kernel
abbrev cJ13_bitCount_95d88 : ByteArray := prog_9_method_50_code
def yJ13_bitCount_95d88 : MethodName := ⟨RJ13, "bitCount", "(J)I"⟩
def RJ9 : String := "java/lang/Math"
def TJ9 : u_T := fun k => match k with
  | _ => ("", "", "", false)
def tyJ9 : Nat → FieldType := fun k => match k with
  | _ => .int
abbrev wsJ90 : List Cond := u_ws RJ9 TJ9 0
theorem nmJ9 : ∀ a, a < 0 → ∀ b, b < 0 → a ≠ b → (TJ9 a).2.1 ≠ (TJ9 b).2.1 := by decide +kernel
theorem tyJ9_ok : ∀ k, k < 0 → parseFieldDescriptor (TJ9 k).2.2.1 = some (tyJ9 k) := by decide +kernel
abbrev cJ9_abs_0f7a4 : ByteArray := prog_10_method_59_code
def yJ9_abs_0f7a4 : MethodName := ⟨RJ9, "abs", "(I)I"⟩
def RL : String := "CanticlePressLaw"
abbrev cL_hymn : ByteArray := method_3_code
def yL_hymn : MethodName := ⟨RL, "hymn", "(LCanticlePress;IIII[J)I"⟩
abbrev cL_pages : ByteArray := method_4_code
def yL_pages : MethodName := ⟨RL, "pages", "(LCanticlePress;I[J)I"⟩
abbrev cL_pageOf : ByteArray := method_5_code
def yL_pageOf : MethodName := ⟨RL, "pageOf", "(LCanticlePress;II[J)I"⟩
abbrev cL_badTurns : ByteArray := method_6_code
def yL_badTurns : MethodName := ⟨RL, "badTurns", "(LCanticlePress;I[J)I"⟩
abbrev cL_right : ByteArray := method_7_code
def yL_right : MethodName := ⟨RL, "right", "(LCanticlePress;IIII[J)I"⟩
abbrev cL_end : ByteArray := method_8_code
def yL_end : MethodName := ⟨RL, "end", "(LCanticlePress;II[J)I"⟩
abbrev cL_hasRight : ByteArray := method_9_code
def yL_hasRight : MethodName := ⟨RL, "hasRight", "(LCanticlePress;III[J)I"⟩
abbrev cL_print : ByteArray := method_10_code
def yL_print : MethodName := ⟨RL, "print", "(LCanticlePress;II[J)I"⟩
abbrev cL_printed : ByteArray := method_11_code
def yL_printed : MethodName := ⟨RL, "printed", "(LCanticlePress;II[J)I"⟩
abbrev cL_learn : ByteArray := method_12_code
def yL_learn : MethodName := ⟨RL, "learn", "(LCanticlePress;II[J)I"⟩
abbrev cL_service : ByteArray := method_13_code
def yL_service : MethodName := ⟨RL, "service", "(LCanticlePress;II[J)I"⟩
abbrev cL_plan : ByteArray := method_14_code
def yL_plan : MethodName := ⟨RL, "plan", "(LCanticlePress;I[J)I"⟩
abbrev cL_hymnOf : ByteArray := method_15_code
def yL_hymnOf : MethodName := ⟨RL, "hymnOf", "(LCanticlePress;I[J)I"⟩
abbrev cL_sung : ByteArray := method_16_code
def yL_sung : MethodName := ⟨RL, "sung", "(LCanticlePress;II[J)I"⟩
abbrev cL_sungByHymns : ByteArray := method_17_code
def yL_sungByHymns : MethodName := ⟨RL, "sungByHymns", "(LCanticlePress;II[J)I"⟩
abbrev cL_pass : ByteArray := method_18_code
def yL_pass : MethodName := ⟨RL, "pass", "(LCanticlePress;I[J)I"⟩
abbrev cL_law : ByteArray := code
def yL_law : MethodName := ⟨RL, "law", "([I)Z"⟩
def wsX0_init : List Cond := .code yX0_init cX0_init 1 none :: ([.methodLink RX0 1 objectInit, .instanceMethod objectInit, .code objectInit ⟨#[0xb1]⟩ 1 none, .arrayClass .int, .fieldLink RX0 9 "CanticlePress" "ownerOfHymn" "[I", .fieldLink RX0 13 "CanticlePress" "seasonsOfHymn" "[I", .fieldLink RX0 16 "CanticlePress" "linesOfHymn" "[I", .fieldLink RX0 19 "CanticlePress" "restsOfHymn" "[I", .fieldLink RX0 22 "CanticlePress" "turnsOfHymn" "[I", .fieldLink RX0 25 "CanticlePress" "choirsOfHymn" "[I", .fieldLink RX0 28 "CanticlePress" "copiesOfHymnInYear" "[I", .fieldLink RX0 31 "CanticlePress" "hymnOfRight" "[I", .fieldLink RX0 34 "CanticlePress" "useOfRight" "[I", .fieldLink RX0 37 "CanticlePress" "firstOfRight" "[I", .fieldLink RX0 40 "CanticlePress" "lastOfRight" "[I", .fieldLink RX0 43 "CanticlePress" "choirOfService" "[I", .fieldLink RX0 46 "CanticlePress" "dayOfService" "[I", .fieldLink RX0 49 "CanticlePress" "hymnOfService" "[I"] ++ wsX00)
def wsX0_isBetween : List Cond := .code yX0_isBetween cX0_isBetween 3 (some .boolean) :: ([])
def wsX0_needIndex : List Cond := .code yX0_needIndex cX0_needIndex 1 none :: ([.classLink RX0 174 "java/lang/IndexOutOfBoundsException", .initialized "java/lang/IndexOutOfBoundsException"] ++ (vx_at0 RX0 176 "java/lang/IndexOutOfBoundsException" ["java/lang/RuntimeException", "java/lang/Exception"]).filter goodWord)
def wsX0_needArgument : List Cond := .code yX0_needArgument cX0_needArgument 1 none :: ([.classLink RX0 177 "java/lang/IllegalArgumentException", .initialized "java/lang/IllegalArgumentException"] ++ (vx_at0 RX0 179 "java/lang/IllegalArgumentException" ["java/lang/RuntimeException", "java/lang/Exception"]).filter goodWord)
def wsX0_needState : List Cond := .code yX0_needState cX0_needState 1 none :: ([.classLink RX0 180 "java/lang/IllegalStateException", .initialized "java/lang/IllegalStateException"] ++ (vx_at0 RX0 182 "java/lang/IllegalStateException" ["java/lang/RuntimeException", "java/lang/Exception"]).filter goodWord)
def wsX0_isInSet : List Cond := .code yX0_isInSet cX0_isInSet 3 (some .boolean) :: ([])
def wsX0_lastLineOfFullPage : List Cond := .code yX0_lastLineOfFullPage cX0_lastLineOfFullPage 4 (some .int) :: ([.methodLink RX0 90 yX0_isInSet, .static yX0_isInSet, .initialized RX0, .code yX0_isInSet cX0_isInSet 3 (some .boolean)])
def wsX0_turns : List Cond := .code yX0_turns cX0_turns 6 (some .int) :: ([.methodLink RX0 87 yX0_lastLineOfFullPage, .static yX0_lastLineOfFullPage, .initialized RX0, .code yX0_lastLineOfFullPage cX0_lastLineOfFullPage 4 (some .int), .methodLink RX0 90 yX0_isInSet, .static yX0_isInSet, .code yX0_isInSet cX0_isInSet 3 (some .boolean)])
def wsX0_hymn_r1 : List Cond := [Cond.fieldLink RX0 63 "CanticlePress" "hymnCount" "I", Cond.fieldLink RX0 9 "CanticlePress" "ownerOfHymn" "[I", Cond.fieldLink RX0 13 "CanticlePress" "seasonsOfHymn" "[I", Cond.fieldLink RX0 16 "CanticlePress" "linesOfHymn" "[I", Cond.fieldLink RX0 19 "CanticlePress" "restsOfHymn" "[I", Cond.fieldLink RX0 22 "CanticlePress" "turnsOfHymn" "[I", Cond.methodLink RX0 52 yX0_isBetween, Cond.static yX0_isBetween, Cond.initialized RX0, Cond.code yX0_isBetween cX0_isBetween 3 (some .boolean), Cond.methodLink RX0 56 yX0_needIndex, Cond.static yX0_needIndex, Cond.code yX0_needIndex cX0_needIndex 1 none, Cond.classLink RX0 174 "java/lang/IndexOutOfBoundsException", Cond.initialized "java/lang/IndexOutOfBoundsException", Cond.methodLink RX0 60 yX0_needArgument, Cond.static yX0_needArgument, Cond.code yX0_needArgument cX0_needArgument 1 none, Cond.classLink RX0 177 "java/lang/IllegalArgumentException", Cond.initialized "java/lang/IllegalArgumentException", Cond.methodLink RX0 67 yX0_needState, Cond.static yX0_needState, Cond.code yX0_needState cX0_needState 1 none, Cond.classLink RX0 180 "java/lang/IllegalStateException"]
def wsX0_hymn_r2 : List Cond := [Cond.initialized "java/lang/IllegalStateException", Cond.methodLink RX0 70 yX0_turns, Cond.static yX0_turns, Cond.code yX0_turns cX0_turns 6 (some .int), Cond.methodLink RX0 87 yX0_lastLineOfFullPage, Cond.static yX0_lastLineOfFullPage, Cond.code yX0_lastLineOfFullPage cX0_lastLineOfFullPage 4 (some .int), Cond.methodLink RX0 90 yX0_isInSet, Cond.static yX0_isInSet, Cond.code yX0_isInSet cX0_isInSet 3 (some .boolean)]
def wsX0_hymn : List Cond := .code yX0_hymn cX0_hymn 6 (some .int) :: ((wsX0_hymn_r1 ++ wsX0_hymn_r2) ++ wsX00 ++ (vx_at0 RX0 176 "java/lang/IndexOutOfBoundsException" ["java/lang/RuntimeException", "java/lang/Exception"]).filter goodWord ++ (vx_at0 RX0 179 "java/lang/IllegalArgumentException" ["java/lang/RuntimeException", "java/lang/Exception"]).filter goodWord ++ (vx_at0 RX0 182 "java/lang/IllegalStateException" ["java/lang/RuntimeException", "java/lang/Exception"]).filter goodWord)
def wsX0_hymns : List Cond := .code yX0_hymns cX0_hymns 1 (some .int) :: ([.fieldLink RX0 63 "CanticlePress" "hymnCount" "I"] ++ wsX00)
def wsX0_isHymn : List Cond := .code yX0_isHymn cX0_isHymn 2 (some .boolean) :: ([.fieldLink RX0 63 "CanticlePress" "hymnCount" "I", .methodLink RX0 52 yX0_isBetween, .static yX0_isBetween, .initialized RX0, .code yX0_isBetween cX0_isBetween 3 (some .boolean)] ++ wsX00)
def wsJ6_bitCount_0f7a4 : List Cond := .code yJ6_bitCount_0f7a4 cJ6_bitCount_0f7a4 1 (some .int) :: ([.constant RJ6 265 (1431655765), .constant RJ6 266 (858993459), .constant RJ6 267 (252645135)])
def wsX0_pageCount : List Cond := .code yX0_pageCount cX0_pageCount 2 (some .int) :: ([.fieldLink RX0 22 "CanticlePress" "turnsOfHymn" "[I", .methodLink RX0 82 yJ6_bitCount_0f7a4, .static yJ6_bitCount_0f7a4, .initialized RJ6, .code yJ6_bitCount_0f7a4 cJ6_bitCount_0f7a4 1 (some .int), .constant RJ6 265 (1431655765), .constant RJ6 266 (858993459), .constant RJ6 267 (252645135)] ++ wsX00)
def wsX0_pages_r1 : List Cond := [Cond.methodLink RX0 74 yX0_isHymn, Cond.instanceMethod yX0_isHymn, Cond.selects RX0 yX0_isHymn yX0_isHymn, Cond.initialized RX0, Cond.code yX0_isHymn cX0_isHymn 2 (some .boolean), Cond.fieldLink RX0 63 "CanticlePress" "hymnCount" "I", Cond.methodLink RX0 52 yX0_isBetween, Cond.static yX0_isBetween, Cond.code yX0_isBetween cX0_isBetween 3 (some .boolean), Cond.methodLink RX0 56 yX0_needIndex, Cond.static yX0_needIndex, Cond.code yX0_needIndex cX0_needIndex 1 none, Cond.classLink RX0 174 "java/lang/IndexOutOfBoundsException", Cond.initialized "java/lang/IndexOutOfBoundsException", Cond.methodLink RX0 78 yX0_pageCount, Cond.instanceMethod yX0_pageCount, Cond.selects RX0 yX0_pageCount yX0_pageCount, Cond.code yX0_pageCount cX0_pageCount 2 (some .int), Cond.fieldLink RX0 22 "CanticlePress" "turnsOfHymn" "[I", Cond.methodLink RX0 82 yJ6_bitCount_0f7a4, Cond.static yJ6_bitCount_0f7a4, Cond.initialized RJ6, Cond.code yJ6_bitCount_0f7a4 cJ6_bitCount_0f7a4 1 (some .int), Cond.constant RJ6 265 (1431655765)]
def wsX0_pages_r2 : List Cond := [Cond.constant RJ6 266 (858993459), Cond.constant RJ6 267 (252645135)]
def wsX0_pages : List Cond := .code yX0_pages cX0_pages 2 (some .int) :: ((wsX0_pages_r1 ++ wsX0_pages_r2) ++ wsX00 ++ (vx_at0 RX0 176 "java/lang/IndexOutOfBoundsException" ["java/lang/RuntimeException", "java/lang/Exception"]).filter goodWord)
def wsX0_pageOf : List Cond := .code yX0_pageOf cX0_pageOf 4 (some .int) :: ([.fieldLink RX0 16 "CanticlePress" "linesOfHymn" "[I", .fieldLink RX0 22 "CanticlePress" "turnsOfHymn" "[I", .methodLink RX0 74 yX0_isHymn, .instanceMethod yX0_isHymn, .selects RX0 yX0_isHymn yX0_isHymn, .initialized RX0, .code yX0_isHymn cX0_isHymn 2 (some .boolean), .fieldLink RX0 63 "CanticlePress" "hymnCount" "I", .methodLink RX0 52 yX0_isBetween, .static yX0_isBetween, .code yX0_isBetween cX0_isBetween 3 (some .boolean), .methodLink RX0 56 yX0_needIndex, .static yX0_needIndex, .code yX0_needIndex cX0_needIndex 1 none, .classLink RX0 174 "java/lang/IndexOutOfBoundsException", .initialized "java/lang/IndexOutOfBoundsException", .methodLink RX0 82 yJ6_bitCount_0f7a4, .static yJ6_bitCount_0f7a4, .initialized RJ6, .code yJ6_bitCount_0f7a4 cJ6_bitCount_0f7a4 1 (some .int), .constant RJ6 265 (1431655765), .constant RJ6 266 (858993459), .constant RJ6 267 (252645135)] ++ wsX00 ++ (vx_at0 RX0 176 "java/lang/IndexOutOfBoundsException" ["java/lang/RuntimeException", "java/lang/Exception"]).filter goodWord)
def wsX0_badTurns : List Cond := .code yX0_badTurns cX0_badTurns 2 (some .int) :: ([.fieldLink RX0 22 "CanticlePress" "turnsOfHymn" "[I", .fieldLink RX0 19 "CanticlePress" "restsOfHymn" "[I", .methodLink RX0 74 yX0_isHymn, .instanceMethod yX0_isHymn, .selects RX0 yX0_isHymn yX0_isHymn, .initialized RX0, .code yX0_isHymn cX0_isHymn 2 (some .boolean), .fieldLink RX0 63 "CanticlePress" "hymnCount" "I", .methodLink RX0 52 yX0_isBetween, .static yX0_isBetween, .code yX0_isBetween cX0_isBetween 3 (some .boolean), .methodLink RX0 56 yX0_needIndex, .static yX0_needIndex, .code yX0_needIndex cX0_needIndex 1 none, .classLink RX0 174 "java/lang/IndexOutOfBoundsException", .initialized "java/lang/IndexOutOfBoundsException", .methodLink RX0 82 yJ6_bitCount_0f7a4, .static yJ6_bitCount_0f7a4, .initialized RJ6, .code yJ6_bitCount_0f7a4 cJ6_bitCount_0f7a4 1 (some .int), .constant RJ6 265 (1431655765), .constant RJ6 266 (858993459), .constant RJ6 267 (252645135)] ++ wsX00 ++ (vx_at0 RX0 176 "java/lang/IndexOutOfBoundsException" ["java/lang/RuntimeException", "java/lang/Exception"]).filter goodWord)
def wsX0_isUse : List Cond := .code yX0_isUse cX0_isUse 1 (some .boolean) :: ([.methodLink RX0 52 yX0_isBetween, .static yX0_isBetween, .initialized RX0, .code yX0_isBetween cX0_isBetween 3 (some .boolean)])
def wsX0_isDay : List Cond := .code yX0_isDay cX0_isDay 1 (some .boolean) :: ([.methodLink RX0 52 yX0_isBetween, .static yX0_isBetween, .initialized RX0, .code yX0_isBetween cX0_isBetween 3 (some .boolean)])
def wsX0_right_r1 : List Cond := [Cond.fieldLink RX0 100 "CanticlePress" "rightCount" "I", Cond.fieldLink RX0 31 "CanticlePress" "hymnOfRight" "[I", Cond.fieldLink RX0 34 "CanticlePress" "useOfRight" "[I", Cond.fieldLink RX0 37 "CanticlePress" "firstOfRight" "[I", Cond.fieldLink RX0 40 "CanticlePress" "lastOfRight" "[I", Cond.methodLink RX0 74 yX0_isHymn, Cond.instanceMethod yX0_isHymn, Cond.selects RX0 yX0_isHymn yX0_isHymn, Cond.initialized RX0, Cond.code yX0_isHymn cX0_isHymn 2 (some .boolean), Cond.fieldLink RX0 63 "CanticlePress" "hymnCount" "I", Cond.methodLink RX0 52 yX0_isBetween, Cond.static yX0_isBetween, Cond.code yX0_isBetween cX0_isBetween 3 (some .boolean), Cond.methodLink RX0 56 yX0_needIndex, Cond.static yX0_needIndex, Cond.code yX0_needIndex cX0_needIndex 1 none, Cond.classLink RX0 174 "java/lang/IndexOutOfBoundsException", Cond.initialized "java/lang/IndexOutOfBoundsException", Cond.methodLink RX0 94 yX0_isUse, Cond.static yX0_isUse, Cond.code yX0_isUse cX0_isUse 1 (some .boolean), Cond.methodLink RX0 97 yX0_isDay, Cond.static yX0_isDay]
def wsX0_right_r2 : List Cond := [Cond.code yX0_isDay cX0_isDay 1 (some .boolean), Cond.methodLink RX0 60 yX0_needArgument, Cond.static yX0_needArgument, Cond.code yX0_needArgument cX0_needArgument 1 none, Cond.classLink RX0 177 "java/lang/IllegalArgumentException", Cond.initialized "java/lang/IllegalArgumentException", Cond.methodLink RX0 67 yX0_needState, Cond.static yX0_needState, Cond.code yX0_needState cX0_needState 1 none, Cond.classLink RX0 180 "java/lang/IllegalStateException", Cond.initialized "java/lang/IllegalStateException"]
def wsX0_right : List Cond := .code yX0_right cX0_right 6 (some .int) :: ((wsX0_right_r1 ++ wsX0_right_r2) ++ wsX00 ++ (vx_at0 RX0 176 "java/lang/IndexOutOfBoundsException" ["java/lang/RuntimeException", "java/lang/Exception"]).filter goodWord ++ (vx_at0 RX0 179 "java/lang/IllegalArgumentException" ["java/lang/RuntimeException", "java/lang/Exception"]).filter goodWord ++ (vx_at0 RX0 182 "java/lang/IllegalStateException" ["java/lang/RuntimeException", "java/lang/Exception"]).filter goodWord)
def wsX0_isAllowed : List Cond := .code yX0_isAllowed cX0_isAllowed 5 (some .boolean) :: ([.fieldLink RX0 100 "CanticlePress" "rightCount" "I", .fieldLink RX0 31 "CanticlePress" "hymnOfRight" "[I", .fieldLink RX0 34 "CanticlePress" "useOfRight" "[I", .fieldLink RX0 37 "CanticlePress" "firstOfRight" "[I", .fieldLink RX0 40 "CanticlePress" "lastOfRight" "[I", .methodLink RX0 52 yX0_isBetween, .static yX0_isBetween, .initialized RX0, .code yX0_isBetween cX0_isBetween 3 (some .boolean)] ++ wsX00)
def wsX0_hasLostItsRight : List Cond := .code yX0_hasLostItsRight cX0_hasLostItsRight 4 (some .boolean) :: ([.fieldLink RX0 49 "CanticlePress" "hymnOfService" "[I", .fieldLink RX0 46 "CanticlePress" "dayOfService" "[I", .fieldLink RX0 103 "CanticlePress" "today" "I", .methodLink RX0 119 yX0_isAllowed, .instanceMethod yX0_isAllowed, .selects RX0 yX0_isAllowed yX0_isAllowed, .initialized RX0, .code yX0_isAllowed cX0_isAllowed 5 (some .boolean), .fieldLink RX0 100 "CanticlePress" "rightCount" "I", .fieldLink RX0 31 "CanticlePress" "hymnOfRight" "[I", .fieldLink RX0 34 "CanticlePress" "useOfRight" "[I", .fieldLink RX0 37 "CanticlePress" "firstOfRight" "[I", .fieldLink RX0 40 "CanticlePress" "lastOfRight" "[I", .methodLink RX0 52 yX0_isBetween, .static yX0_isBetween, .code yX0_isBetween cX0_isBetween 3 (some .boolean)] ++ wsX00)
def wsX0_silenceServicesWithoutRight : List Cond := .code yX0_silenceServicesWithoutRight cX0_silenceServicesWithoutRight 4 (some .long) :: ([.fieldLink RX0 131 "CanticlePress" "serviceCount" "I", .fieldLink RX0 49 "CanticlePress" "hymnOfService" "[I", .methodLink RX0 165 yX0_hasLostItsRight, .instanceMethod yX0_hasLostItsRight, .selects RX0 yX0_hasLostItsRight yX0_hasLostItsRight, .initialized RX0, .code yX0_hasLostItsRight cX0_hasLostItsRight 4 (some .boolean), .fieldLink RX0 46 "CanticlePress" "dayOfService" "[I", .fieldLink RX0 103 "CanticlePress" "today" "I", .methodLink RX0 119 yX0_isAllowed, .instanceMethod yX0_isAllowed, .selects RX0 yX0_isAllowed yX0_isAllowed, .code yX0_isAllowed cX0_isAllowed 5 (some .boolean), .fieldLink RX0 100 "CanticlePress" "rightCount" "I", .fieldLink RX0 31 "CanticlePress" "hymnOfRight" "[I", .fieldLink RX0 34 "CanticlePress" "useOfRight" "[I", .fieldLink RX0 37 "CanticlePress" "firstOfRight" "[I", .fieldLink RX0 40 "CanticlePress" "lastOfRight" "[I", .methodLink RX0 52 yX0_isBetween, .static yX0_isBetween, .code yX0_isBetween cX0_isBetween 3 (some .boolean)] ++ wsX00)
def wsX0_seasonOf : List Cond := .code yX0_seasonOf cX0_seasonOf 1 (some .int) :: ([])
def wsX0_isRested : List Cond := .code yX0_isRested cX0_isRested 5 (some .boolean) :: ([.fieldLink RX0 131 "CanticlePress" "serviceCount" "I", .fieldLink RX0 43 "CanticlePress" "choirOfService" "[I", .fieldLink RX0 49 "CanticlePress" "hymnOfService" "[I", .fieldLink RX0 46 "CanticlePress" "dayOfService" "[I", .methodLink RX0 160 Lib.Math.abs.name, .static Lib.Math.abs.name, .initialized "java/lang/Math", .code Lib.Math.abs.name Lib.Math.abs.code 1 (some .int)] ++ wsX00)
def wsX0_isSuitable_r1 : List Cond := [Cond.fieldLink RX0 25 "CanticlePress" "choirsOfHymn" "[I", Cond.fieldLink RX0 13 "CanticlePress" "seasonsOfHymn" "[I", Cond.methodLink RX0 90 yX0_isInSet, Cond.static yX0_isInSet, Cond.initialized RX0, Cond.code yX0_isInSet cX0_isInSet 3 (some .boolean), Cond.methodLink RX0 154 yX0_seasonOf, Cond.static yX0_seasonOf, Cond.code yX0_seasonOf cX0_seasonOf 1 (some .int), Cond.methodLink RX0 119 yX0_isAllowed, Cond.instanceMethod yX0_isAllowed, Cond.selects RX0 yX0_isAllowed yX0_isAllowed, Cond.code yX0_isAllowed cX0_isAllowed 5 (some .boolean), Cond.fieldLink RX0 100 "CanticlePress" "rightCount" "I", Cond.fieldLink RX0 31 "CanticlePress" "hymnOfRight" "[I", Cond.fieldLink RX0 34 "CanticlePress" "useOfRight" "[I", Cond.fieldLink RX0 37 "CanticlePress" "firstOfRight" "[I", Cond.fieldLink RX0 40 "CanticlePress" "lastOfRight" "[I", Cond.methodLink RX0 52 yX0_isBetween, Cond.static yX0_isBetween, Cond.code yX0_isBetween cX0_isBetween 3 (some .boolean), Cond.methodLink RX0 157 yX0_isRested, Cond.instanceMethod yX0_isRested, Cond.selects RX0 yX0_isRested yX0_isRested]
def wsX0_isSuitable_r2 : List Cond := [Cond.code yX0_isRested cX0_isRested 5 (some .boolean), Cond.fieldLink RX0 131 "CanticlePress" "serviceCount" "I", Cond.fieldLink RX0 43 "CanticlePress" "choirOfService" "[I", Cond.fieldLink RX0 49 "CanticlePress" "hymnOfService" "[I", Cond.fieldLink RX0 46 "CanticlePress" "dayOfService" "[I", Cond.methodLink RX0 160 Lib.Math.abs.name, Cond.static Lib.Math.abs.name, Cond.initialized "java/lang/Math", Cond.code Lib.Math.abs.name Lib.Math.abs.code 1 (some .int)]
def wsX0_isSuitable : List Cond := .code yX0_isSuitable cX0_isSuitable 4 (some .boolean) :: ((wsX0_isSuitable_r1 ++ wsX0_isSuitable_r2) ++ wsX00)
def wsX0_servicesWith : List Cond := .code yX0_servicesWith cX0_servicesWith 4 (some .int) :: ([.fieldLink RX0 131 "CanticlePress" "serviceCount" "I", .fieldLink RX0 49 "CanticlePress" "hymnOfService" "[I"] ++ wsX00)
def wsX0_bestHymn_r1 : List Cond := [Cond.fieldLink RX0 63 "CanticlePress" "hymnCount" "I", Cond.methodLink RX0 148 yX0_isSuitable, Cond.instanceMethod yX0_isSuitable, Cond.selects RX0 yX0_isSuitable yX0_isSuitable, Cond.initialized RX0, Cond.code yX0_isSuitable cX0_isSuitable 4 (some .boolean), Cond.fieldLink RX0 25 "CanticlePress" "choirsOfHymn" "[I", Cond.fieldLink RX0 13 "CanticlePress" "seasonsOfHymn" "[I", Cond.methodLink RX0 90 yX0_isInSet, Cond.static yX0_isInSet, Cond.code yX0_isInSet cX0_isInSet 3 (some .boolean), Cond.methodLink RX0 154 yX0_seasonOf, Cond.static yX0_seasonOf, Cond.code yX0_seasonOf cX0_seasonOf 1 (some .int), Cond.methodLink RX0 119 yX0_isAllowed, Cond.instanceMethod yX0_isAllowed, Cond.selects RX0 yX0_isAllowed yX0_isAllowed, Cond.code yX0_isAllowed cX0_isAllowed 5 (some .boolean), Cond.fieldLink RX0 100 "CanticlePress" "rightCount" "I", Cond.fieldLink RX0 31 "CanticlePress" "hymnOfRight" "[I", Cond.fieldLink RX0 34 "CanticlePress" "useOfRight" "[I", Cond.fieldLink RX0 37 "CanticlePress" "firstOfRight" "[I", Cond.fieldLink RX0 40 "CanticlePress" "lastOfRight" "[I", Cond.methodLink RX0 52 yX0_isBetween]
def wsX0_bestHymn_r2 : List Cond := [Cond.static yX0_isBetween, Cond.code yX0_isBetween cX0_isBetween 3 (some .boolean), Cond.methodLink RX0 157 yX0_isRested, Cond.instanceMethod yX0_isRested, Cond.selects RX0 yX0_isRested yX0_isRested, Cond.code yX0_isRested cX0_isRested 5 (some .boolean), Cond.fieldLink RX0 131 "CanticlePress" "serviceCount" "I", Cond.fieldLink RX0 43 "CanticlePress" "choirOfService" "[I", Cond.fieldLink RX0 49 "CanticlePress" "hymnOfService" "[I", Cond.fieldLink RX0 46 "CanticlePress" "dayOfService" "[I", Cond.methodLink RX0 160 Lib.Math.abs.name, Cond.static Lib.Math.abs.name, Cond.initialized "java/lang/Math", Cond.code Lib.Math.abs.name Lib.Math.abs.code 1 (some .int), Cond.methodLink RX0 151 yX0_servicesWith, Cond.instanceMethod yX0_servicesWith, Cond.selects RX0 yX0_servicesWith yX0_servicesWith, Cond.code yX0_servicesWith cX0_servicesWith 4 (some .int)]
def wsX0_bestHymn : List Cond := .code yX0_bestHymn cX0_bestHymn 7 (some .int) :: ((wsX0_bestHymn_r1 ++ wsX0_bestHymn_r2) ++ wsX00)
def wsX0_planAnew_r1 : List Cond := [Cond.fieldLink RX0 49 "CanticlePress" "hymnOfService" "[I", Cond.fieldLink RX0 43 "CanticlePress" "choirOfService" "[I", Cond.fieldLink RX0 46 "CanticlePress" "dayOfService" "[I", Cond.methodLink RX0 145 yX0_bestHymn, Cond.instanceMethod yX0_bestHymn, Cond.selects RX0 yX0_bestHymn yX0_bestHymn, Cond.initialized RX0, Cond.code yX0_bestHymn cX0_bestHymn 7 (some .int), Cond.fieldLink RX0 63 "CanticlePress" "hymnCount" "I", Cond.methodLink RX0 148 yX0_isSuitable, Cond.instanceMethod yX0_isSuitable, Cond.selects RX0 yX0_isSuitable yX0_isSuitable, Cond.code yX0_isSuitable cX0_isSuitable 4 (some .boolean), Cond.fieldLink RX0 25 "CanticlePress" "choirsOfHymn" "[I", Cond.fieldLink RX0 13 "CanticlePress" "seasonsOfHymn" "[I", Cond.methodLink RX0 90 yX0_isInSet, Cond.static yX0_isInSet, Cond.code yX0_isInSet cX0_isInSet 3 (some .boolean), Cond.methodLink RX0 154 yX0_seasonOf, Cond.static yX0_seasonOf, Cond.code yX0_seasonOf cX0_seasonOf 1 (some .int), Cond.methodLink RX0 119 yX0_isAllowed, Cond.instanceMethod yX0_isAllowed, Cond.selects RX0 yX0_isAllowed yX0_isAllowed]
def wsX0_planAnew_r2 : List Cond := [Cond.code yX0_isAllowed cX0_isAllowed 5 (some .boolean), Cond.fieldLink RX0 100 "CanticlePress" "rightCount" "I", Cond.fieldLink RX0 31 "CanticlePress" "hymnOfRight" "[I", Cond.fieldLink RX0 34 "CanticlePress" "useOfRight" "[I", Cond.fieldLink RX0 37 "CanticlePress" "firstOfRight" "[I", Cond.fieldLink RX0 40 "CanticlePress" "lastOfRight" "[I", Cond.methodLink RX0 52 yX0_isBetween, Cond.static yX0_isBetween, Cond.code yX0_isBetween cX0_isBetween 3 (some .boolean), Cond.methodLink RX0 157 yX0_isRested, Cond.instanceMethod yX0_isRested, Cond.selects RX0 yX0_isRested yX0_isRested, Cond.code yX0_isRested cX0_isRested 5 (some .boolean), Cond.fieldLink RX0 131 "CanticlePress" "serviceCount" "I", Cond.methodLink RX0 160 Lib.Math.abs.name, Cond.static Lib.Math.abs.name, Cond.initialized "java/lang/Math", Cond.code Lib.Math.abs.name Lib.Math.abs.code 1 (some .int), Cond.methodLink RX0 151 yX0_servicesWith, Cond.instanceMethod yX0_servicesWith, Cond.selects RX0 yX0_servicesWith yX0_servicesWith, Cond.code yX0_servicesWith cX0_servicesWith 4 (some .int)]
def wsX0_planAnew : List Cond := .code yX0_planAnew cX0_planAnew 2 none :: ((wsX0_planAnew_r1 ++ wsX0_planAnew_r2) ++ wsX00)
def wsX0_planEach_r1 : List Cond := [Cond.fieldLink RX0 131 "CanticlePress" "serviceCount" "I", Cond.methodLink RX0 90 yX0_isInSet, Cond.static yX0_isInSet, Cond.initialized RX0, Cond.code yX0_isInSet cX0_isInSet 3 (some .boolean), Cond.methodLink RX0 138 yX0_planAnew, Cond.instanceMethod yX0_planAnew, Cond.selects RX0 yX0_planAnew yX0_planAnew, Cond.code yX0_planAnew cX0_planAnew 2 none, Cond.fieldLink RX0 49 "CanticlePress" "hymnOfService" "[I", Cond.fieldLink RX0 43 "CanticlePress" "choirOfService" "[I", Cond.fieldLink RX0 46 "CanticlePress" "dayOfService" "[I", Cond.methodLink RX0 145 yX0_bestHymn, Cond.instanceMethod yX0_bestHymn, Cond.selects RX0 yX0_bestHymn yX0_bestHymn, Cond.code yX0_bestHymn cX0_bestHymn 7 (some .int), Cond.fieldLink RX0 63 "CanticlePress" "hymnCount" "I", Cond.methodLink RX0 148 yX0_isSuitable, Cond.instanceMethod yX0_isSuitable, Cond.selects RX0 yX0_isSuitable yX0_isSuitable, Cond.code yX0_isSuitable cX0_isSuitable 4 (some .boolean), Cond.fieldLink RX0 25 "CanticlePress" "choirsOfHymn" "[I", Cond.fieldLink RX0 13 "CanticlePress" "seasonsOfHymn" "[I", Cond.methodLink RX0 154 yX0_seasonOf]
def wsX0_planEach_r2 : List Cond := [Cond.static yX0_seasonOf, Cond.code yX0_seasonOf cX0_seasonOf 1 (some .int), Cond.methodLink RX0 119 yX0_isAllowed, Cond.instanceMethod yX0_isAllowed, Cond.selects RX0 yX0_isAllowed yX0_isAllowed, Cond.code yX0_isAllowed cX0_isAllowed 5 (some .boolean), Cond.fieldLink RX0 100 "CanticlePress" "rightCount" "I", Cond.fieldLink RX0 31 "CanticlePress" "hymnOfRight" "[I", Cond.fieldLink RX0 34 "CanticlePress" "useOfRight" "[I", Cond.fieldLink RX0 37 "CanticlePress" "firstOfRight" "[I", Cond.fieldLink RX0 40 "CanticlePress" "lastOfRight" "[I", Cond.methodLink RX0 52 yX0_isBetween, Cond.static yX0_isBetween, Cond.code yX0_isBetween cX0_isBetween 3 (some .boolean), Cond.methodLink RX0 157 yX0_isRested, Cond.instanceMethod yX0_isRested, Cond.selects RX0 yX0_isRested yX0_isRested, Cond.code yX0_isRested cX0_isRested 5 (some .boolean), Cond.methodLink RX0 160 Lib.Math.abs.name, Cond.static Lib.Math.abs.name, Cond.initialized "java/lang/Math", Cond.code Lib.Math.abs.name Lib.Math.abs.code 1 (some .int), Cond.methodLink RX0 151 yX0_servicesWith, Cond.instanceMethod yX0_servicesWith]
def wsX0_planEach_r3 : List Cond := [Cond.selects RX0 yX0_servicesWith yX0_servicesWith, Cond.code yX0_servicesWith cX0_servicesWith 4 (some .int)]
def wsX0_planEach : List Cond := .code yX0_planEach cX0_planEach 4 none :: ((wsX0_planEach_r1 ++ (wsX0_planEach_r2 ++ wsX0_planEach_r3)) ++ wsX00)
def wsJ13_bitCount_95d88 : List Cond := .code yJ13_bitCount_95d88 cJ13_bitCount_95d88 2 (some .int) :: ([.constantLong RJ13 314 (6148914691236517205), .constantLong RJ13 316 (3689348814741910323), .constantLong RJ13 318 (1085102592571150095)])
def wsX0_end_r1 : List Cond := [Cond.fieldLink RX0 100 "CanticlePress" "rightCount" "I", Cond.fieldLink RX0 103 "CanticlePress" "today" "I", Cond.fieldLink RX0 40 "CanticlePress" "lastOfRight" "[I", Cond.methodLink RX0 52 yX0_isBetween, Cond.static yX0_isBetween, Cond.initialized RX0, Cond.code yX0_isBetween cX0_isBetween 3 (some .boolean), Cond.methodLink RX0 56 yX0_needIndex, Cond.static yX0_needIndex, Cond.code yX0_needIndex cX0_needIndex 1 none, Cond.classLink RX0 174 "java/lang/IndexOutOfBoundsException", Cond.initialized "java/lang/IndexOutOfBoundsException", Cond.methodLink RX0 60 yX0_needArgument, Cond.static yX0_needArgument, Cond.code yX0_needArgument cX0_needArgument 1 none, Cond.classLink RX0 177 "java/lang/IllegalArgumentException", Cond.initialized "java/lang/IllegalArgumentException", Cond.methodLink RX0 67 yX0_needState, Cond.static yX0_needState, Cond.code yX0_needState cX0_needState 1 none, Cond.classLink RX0 180 "java/lang/IllegalStateException", Cond.initialized "java/lang/IllegalStateException", Cond.methodLink RX0 106 yX0_silenceServicesWithoutRight, Cond.instanceMethod yX0_silenceServicesWithoutRight]
def wsX0_end_r2 : List Cond := [Cond.selects RX0 yX0_silenceServicesWithoutRight yX0_silenceServicesWithoutRight, Cond.code yX0_silenceServicesWithoutRight cX0_silenceServicesWithoutRight 4 (some .long), Cond.fieldLink RX0 131 "CanticlePress" "serviceCount" "I", Cond.fieldLink RX0 49 "CanticlePress" "hymnOfService" "[I", Cond.methodLink RX0 165 yX0_hasLostItsRight, Cond.instanceMethod yX0_hasLostItsRight, Cond.selects RX0 yX0_hasLostItsRight yX0_hasLostItsRight, Cond.code yX0_hasLostItsRight cX0_hasLostItsRight 4 (some .boolean), Cond.fieldLink RX0 46 "CanticlePress" "dayOfService" "[I", Cond.methodLink RX0 119 yX0_isAllowed, Cond.instanceMethod yX0_isAllowed, Cond.selects RX0 yX0_isAllowed yX0_isAllowed, Cond.code yX0_isAllowed cX0_isAllowed 5 (some .boolean), Cond.fieldLink RX0 31 "CanticlePress" "hymnOfRight" "[I", Cond.fieldLink RX0 34 "CanticlePress" "useOfRight" "[I", Cond.fieldLink RX0 37 "CanticlePress" "firstOfRight" "[I", Cond.methodLink RX0 110 yX0_planEach, Cond.instanceMethod yX0_planEach, Cond.selects RX0 yX0_planEach yX0_planEach, Cond.code yX0_planEach cX0_planEach 4 none, Cond.methodLink RX0 90 yX0_isInSet, Cond.static yX0_isInSet, Cond.code yX0_isInSet cX0_isInSet 3 (some .boolean), Cond.methodLink RX0 138 yX0_planAnew]
def wsX0_end_r3 : List Cond := [Cond.instanceMethod yX0_planAnew, Cond.selects RX0 yX0_planAnew yX0_planAnew, Cond.code yX0_planAnew cX0_planAnew 2 none, Cond.fieldLink RX0 43 "CanticlePress" "choirOfService" "[I", Cond.methodLink RX0 145 yX0_bestHymn, Cond.instanceMethod yX0_bestHymn, Cond.selects RX0 yX0_bestHymn yX0_bestHymn, Cond.code yX0_bestHymn cX0_bestHymn 7 (some .int), Cond.fieldLink RX0 63 "CanticlePress" "hymnCount" "I", Cond.methodLink RX0 148 yX0_isSuitable, Cond.instanceMethod yX0_isSuitable, Cond.selects RX0 yX0_isSuitable yX0_isSuitable, Cond.code yX0_isSuitable cX0_isSuitable 4 (some .boolean), Cond.fieldLink RX0 25 "CanticlePress" "choirsOfHymn" "[I", Cond.fieldLink RX0 13 "CanticlePress" "seasonsOfHymn" "[I", Cond.methodLink RX0 154 yX0_seasonOf, Cond.static yX0_seasonOf, Cond.code yX0_seasonOf cX0_seasonOf 1 (some .int), Cond.methodLink RX0 157 yX0_isRested, Cond.instanceMethod yX0_isRested, Cond.selects RX0 yX0_isRested yX0_isRested, Cond.code yX0_isRested cX0_isRested 5 (some .boolean), Cond.methodLink RX0 160 Lib.Math.abs.name, Cond.static Lib.Math.abs.name]
def wsX0_end_r4 : List Cond := [Cond.initialized "java/lang/Math", Cond.code Lib.Math.abs.name Lib.Math.abs.code 1 (some .int), Cond.methodLink RX0 151 yX0_servicesWith, Cond.instanceMethod yX0_servicesWith, Cond.selects RX0 yX0_servicesWith yX0_servicesWith, Cond.code yX0_servicesWith cX0_servicesWith 4 (some .int), Cond.methodLink RX0 114 yJ13_bitCount_95d88, Cond.static yJ13_bitCount_95d88, Cond.initialized RJ13, Cond.code yJ13_bitCount_95d88 cJ13_bitCount_95d88 2 (some .int), Cond.constantLong RJ13 314 (6148914691236517205), Cond.constantLong RJ13 316 (3689348814741910323), Cond.constantLong RJ13 318 (1085102592571150095)]
def wsX0_end : List Cond := .code yX0_end cX0_end 5 (some .int) :: ((wsX0_end_r1 ++ (wsX0_end_r2 ++ (wsX0_end_r3 ++ wsX0_end_r4))) ++ wsX00 ++ (vx_at0 RX0 176 "java/lang/IndexOutOfBoundsException" ["java/lang/RuntimeException", "java/lang/Exception"]).filter goodWord ++ (vx_at0 RX0 179 "java/lang/IllegalArgumentException" ["java/lang/RuntimeException", "java/lang/Exception"]).filter goodWord ++ (vx_at0 RX0 182 "java/lang/IllegalStateException" ["java/lang/RuntimeException", "java/lang/Exception"]).filter goodWord)
def wsX0_hasRight_r1 : List Cond := [Cond.methodLink RX0 74 yX0_isHymn, Cond.instanceMethod yX0_isHymn, Cond.selects RX0 yX0_isHymn yX0_isHymn, Cond.initialized RX0, Cond.code yX0_isHymn cX0_isHymn 2 (some .boolean), Cond.fieldLink RX0 63 "CanticlePress" "hymnCount" "I", Cond.methodLink RX0 52 yX0_isBetween, Cond.static yX0_isBetween, Cond.code yX0_isBetween cX0_isBetween 3 (some .boolean), Cond.methodLink RX0 56 yX0_needIndex, Cond.static yX0_needIndex, Cond.code yX0_needIndex cX0_needIndex 1 none, Cond.classLink RX0 174 "java/lang/IndexOutOfBoundsException", Cond.initialized "java/lang/IndexOutOfBoundsException", Cond.methodLink RX0 94 yX0_isUse, Cond.static yX0_isUse, Cond.code yX0_isUse cX0_isUse 1 (some .boolean), Cond.methodLink RX0 97 yX0_isDay, Cond.static yX0_isDay, Cond.code yX0_isDay cX0_isDay 1 (some .boolean), Cond.methodLink RX0 60 yX0_needArgument, Cond.static yX0_needArgument, Cond.code yX0_needArgument cX0_needArgument 1 none, Cond.classLink RX0 177 "java/lang/IllegalArgumentException"]
def wsX0_hasRight_r2 : List Cond := [Cond.initialized "java/lang/IllegalArgumentException", Cond.methodLink RX0 119 yX0_isAllowed, Cond.instanceMethod yX0_isAllowed, Cond.selects RX0 yX0_isAllowed yX0_isAllowed, Cond.code yX0_isAllowed cX0_isAllowed 5 (some .boolean), Cond.fieldLink RX0 100 "CanticlePress" "rightCount" "I", Cond.fieldLink RX0 31 "CanticlePress" "hymnOfRight" "[I", Cond.fieldLink RX0 34 "CanticlePress" "useOfRight" "[I", Cond.fieldLink RX0 37 "CanticlePress" "firstOfRight" "[I", Cond.fieldLink RX0 40 "CanticlePress" "lastOfRight" "[I"]
def wsX0_hasRight : List Cond := .code yX0_hasRight cX0_hasRight 4 (some .boolean) :: ((wsX0_hasRight_r1 ++ wsX0_hasRight_r2) ++ wsX00 ++ (vx_at0 RX0 176 "java/lang/IndexOutOfBoundsException" ["java/lang/RuntimeException", "java/lang/Exception"]).filter goodWord ++ (vx_at0 RX0 179 "java/lang/IllegalArgumentException" ["java/lang/RuntimeException", "java/lang/Exception"]).filter goodWord)
def wsX0_yearOf : List Cond := .code yX0_yearOf cX0_yearOf 1 (some .int) :: ([])
def wsX0_print_r1 : List Cond := [Cond.fieldLink RX0 103 "CanticlePress" "today" "I", Cond.fieldLink RX0 28 "CanticlePress" "copiesOfHymnInYear" "[I", Cond.methodLink RX0 74 yX0_isHymn, Cond.instanceMethod yX0_isHymn, Cond.selects RX0 yX0_isHymn yX0_isHymn, Cond.initialized RX0, Cond.code yX0_isHymn cX0_isHymn 2 (some .boolean), Cond.fieldLink RX0 63 "CanticlePress" "hymnCount" "I", Cond.methodLink RX0 52 yX0_isBetween, Cond.static yX0_isBetween, Cond.code yX0_isBetween cX0_isBetween 3 (some .boolean), Cond.methodLink RX0 56 yX0_needIndex, Cond.static yX0_needIndex, Cond.code yX0_needIndex cX0_needIndex 1 none, Cond.classLink RX0 174 "java/lang/IndexOutOfBoundsException", Cond.initialized "java/lang/IndexOutOfBoundsException", Cond.methodLink RX0 60 yX0_needArgument, Cond.static yX0_needArgument, Cond.code yX0_needArgument cX0_needArgument 1 none, Cond.classLink RX0 177 "java/lang/IllegalArgumentException", Cond.initialized "java/lang/IllegalArgumentException", Cond.methodLink RX0 119 yX0_isAllowed, Cond.instanceMethod yX0_isAllowed, Cond.selects RX0 yX0_isAllowed yX0_isAllowed]
def wsX0_print_r2 : List Cond := [Cond.code yX0_isAllowed cX0_isAllowed 5 (some .boolean), Cond.fieldLink RX0 100 "CanticlePress" "rightCount" "I", Cond.fieldLink RX0 31 "CanticlePress" "hymnOfRight" "[I", Cond.fieldLink RX0 34 "CanticlePress" "useOfRight" "[I", Cond.fieldLink RX0 37 "CanticlePress" "firstOfRight" "[I", Cond.fieldLink RX0 40 "CanticlePress" "lastOfRight" "[I", Cond.methodLink RX0 67 yX0_needState, Cond.static yX0_needState, Cond.code yX0_needState cX0_needState 1 none, Cond.classLink RX0 180 "java/lang/IllegalStateException", Cond.initialized "java/lang/IllegalStateException", Cond.methodLink RX0 122 yX0_yearOf, Cond.static yX0_yearOf, Cond.code yX0_yearOf cX0_yearOf 1 (some .int), Cond.methodLink RX0 78 yX0_pageCount, Cond.instanceMethod yX0_pageCount, Cond.selects RX0 yX0_pageCount yX0_pageCount, Cond.code yX0_pageCount cX0_pageCount 2 (some .int), Cond.fieldLink RX0 22 "CanticlePress" "turnsOfHymn" "[I", Cond.methodLink RX0 82 yJ6_bitCount_0f7a4, Cond.static yJ6_bitCount_0f7a4, Cond.initialized RJ6, Cond.code yJ6_bitCount_0f7a4 cJ6_bitCount_0f7a4 1 (some .int), Cond.constant RJ6 265 (1431655765)]
def wsX0_print_r3 : List Cond := [Cond.constant RJ6 266 (858993459), Cond.constant RJ6 267 (252645135)]
def wsX0_print : List Cond := .code yX0_print cX0_print 3 (some .int) :: ((wsX0_print_r1 ++ (wsX0_print_r2 ++ wsX0_print_r3)) ++ wsX00 ++ (vx_at0 RX0 176 "java/lang/IndexOutOfBoundsException" ["java/lang/RuntimeException", "java/lang/Exception"]).filter goodWord ++ (vx_at0 RX0 179 "java/lang/IllegalArgumentException" ["java/lang/RuntimeException", "java/lang/Exception"]).filter goodWord ++ (vx_at0 RX0 182 "java/lang/IllegalStateException" ["java/lang/RuntimeException", "java/lang/Exception"]).filter goodWord)
def wsX0_isYear : List Cond := .code yX0_isYear cX0_isYear 1 (some .boolean) :: ([.methodLink RX0 52 yX0_isBetween, .static yX0_isBetween, .initialized RX0, .code yX0_isBetween cX0_isBetween 3 (some .boolean)])
def wsX0_printed : List Cond := .code yX0_printed cX0_printed 3 (some .int) :: ([.fieldLink RX0 28 "CanticlePress" "copiesOfHymnInYear" "[I", .methodLink RX0 74 yX0_isHymn, .instanceMethod yX0_isHymn, .selects RX0 yX0_isHymn yX0_isHymn, .initialized RX0, .code yX0_isHymn cX0_isHymn 2 (some .boolean), .fieldLink RX0 63 "CanticlePress" "hymnCount" "I", .methodLink RX0 52 yX0_isBetween, .static yX0_isBetween, .code yX0_isBetween cX0_isBetween 3 (some .boolean), .methodLink RX0 56 yX0_needIndex, .static yX0_needIndex, .code yX0_needIndex cX0_needIndex 1 none, .classLink RX0 174 "java/lang/IndexOutOfBoundsException", .initialized "java/lang/IndexOutOfBoundsException", .methodLink RX0 125 yX0_isYear, .static yX0_isYear, .code yX0_isYear cX0_isYear 1 (some .boolean)] ++ wsX00 ++ (vx_at0 RX0 176 "java/lang/IndexOutOfBoundsException" ["java/lang/RuntimeException", "java/lang/Exception"]).filter goodWord)
def wsX0_isChoir : List Cond := .code yX0_isChoir cX0_isChoir 1 (some .boolean) :: ([.methodLink RX0 52 yX0_isBetween, .static yX0_isBetween, .initialized RX0, .code yX0_isBetween cX0_isBetween 3 (some .boolean)])
def wsX0_learn : List Cond := .code yX0_learn cX0_learn 3 (some .boolean) :: ([.fieldLink RX0 25 "CanticlePress" "choirsOfHymn" "[I", .methodLink RX0 128 yX0_isChoir, .static yX0_isChoir, .initialized RX0, .code yX0_isChoir cX0_isChoir 1 (some .boolean), .methodLink RX0 52 yX0_isBetween, .static yX0_isBetween, .code yX0_isBetween cX0_isBetween 3 (some .boolean), .methodLink RX0 56 yX0_needIndex, .static yX0_needIndex, .code yX0_needIndex cX0_needIndex 1 none, .classLink RX0 174 "java/lang/IndexOutOfBoundsException", .initialized "java/lang/IndexOutOfBoundsException", .methodLink RX0 74 yX0_isHymn, .instanceMethod yX0_isHymn, .selects RX0 yX0_isHymn yX0_isHymn, .code yX0_isHymn cX0_isHymn 2 (some .boolean), .fieldLink RX0 63 "CanticlePress" "hymnCount" "I", .methodLink RX0 90 yX0_isInSet, .static yX0_isInSet, .code yX0_isInSet cX0_isInSet 3 (some .boolean)] ++ wsX00 ++ (vx_at0 RX0 176 "java/lang/IndexOutOfBoundsException" ["java/lang/RuntimeException", "java/lang/Exception"]).filter goodWord)
def wsX0_hasServiceOn : List Cond := .code yX0_hasServiceOn cX0_hasServiceOn 4 (some .boolean) :: ([.fieldLink RX0 131 "CanticlePress" "serviceCount" "I", .fieldLink RX0 43 "CanticlePress" "choirOfService" "[I", .fieldLink RX0 46 "CanticlePress" "dayOfService" "[I"] ++ wsX00)
def wsX0_service_r1 : List Cond := [Cond.fieldLink RX0 103 "CanticlePress" "today" "I", Cond.fieldLink RX0 131 "CanticlePress" "serviceCount" "I", Cond.fieldLink RX0 43 "CanticlePress" "choirOfService" "[I", Cond.fieldLink RX0 46 "CanticlePress" "dayOfService" "[I", Cond.methodLink RX0 128 yX0_isChoir, Cond.static yX0_isChoir, Cond.initialized RX0, Cond.code yX0_isChoir cX0_isChoir 1 (some .boolean), Cond.methodLink RX0 52 yX0_isBetween, Cond.static yX0_isBetween, Cond.code yX0_isBetween cX0_isBetween 3 (some .boolean), Cond.methodLink RX0 56 yX0_needIndex, Cond.static yX0_needIndex, Cond.code yX0_needIndex cX0_needIndex 1 none, Cond.classLink RX0 174 "java/lang/IndexOutOfBoundsException", Cond.initialized "java/lang/IndexOutOfBoundsException", Cond.methodLink RX0 60 yX0_needArgument, Cond.static yX0_needArgument, Cond.code yX0_needArgument cX0_needArgument 1 none, Cond.classLink RX0 177 "java/lang/IllegalArgumentException", Cond.initialized "java/lang/IllegalArgumentException", Cond.methodLink RX0 67 yX0_needState, Cond.static yX0_needState, Cond.code yX0_needState cX0_needState 1 none]
def wsX0_service_r2 : List Cond := [Cond.classLink RX0 180 "java/lang/IllegalStateException", Cond.initialized "java/lang/IllegalStateException", Cond.methodLink RX0 134 yX0_hasServiceOn, Cond.instanceMethod yX0_hasServiceOn, Cond.selects RX0 yX0_hasServiceOn yX0_hasServiceOn, Cond.code yX0_hasServiceOn cX0_hasServiceOn 4 (some .boolean), Cond.methodLink RX0 138 yX0_planAnew, Cond.instanceMethod yX0_planAnew, Cond.selects RX0 yX0_planAnew yX0_planAnew, Cond.code yX0_planAnew cX0_planAnew 2 none, Cond.fieldLink RX0 49 "CanticlePress" "hymnOfService" "[I", Cond.methodLink RX0 145 yX0_bestHymn, Cond.instanceMethod yX0_bestHymn, Cond.selects RX0 yX0_bestHymn yX0_bestHymn, Cond.code yX0_bestHymn cX0_bestHymn 7 (some .int), Cond.fieldLink RX0 63 "CanticlePress" "hymnCount" "I", Cond.methodLink RX0 148 yX0_isSuitable, Cond.instanceMethod yX0_isSuitable, Cond.selects RX0 yX0_isSuitable yX0_isSuitable, Cond.code yX0_isSuitable cX0_isSuitable 4 (some .boolean), Cond.fieldLink RX0 25 "CanticlePress" "choirsOfHymn" "[I", Cond.fieldLink RX0 13 "CanticlePress" "seasonsOfHymn" "[I", Cond.methodLink RX0 90 yX0_isInSet, Cond.static yX0_isInSet]
def wsX0_service_r3 : List Cond := [Cond.code yX0_isInSet cX0_isInSet 3 (some .boolean), Cond.methodLink RX0 154 yX0_seasonOf, Cond.static yX0_seasonOf, Cond.code yX0_seasonOf cX0_seasonOf 1 (some .int), Cond.methodLink RX0 119 yX0_isAllowed, Cond.instanceMethod yX0_isAllowed, Cond.selects RX0 yX0_isAllowed yX0_isAllowed, Cond.code yX0_isAllowed cX0_isAllowed 5 (some .boolean), Cond.fieldLink RX0 100 "CanticlePress" "rightCount" "I", Cond.fieldLink RX0 31 "CanticlePress" "hymnOfRight" "[I", Cond.fieldLink RX0 34 "CanticlePress" "useOfRight" "[I", Cond.fieldLink RX0 37 "CanticlePress" "firstOfRight" "[I", Cond.fieldLink RX0 40 "CanticlePress" "lastOfRight" "[I", Cond.methodLink RX0 157 yX0_isRested, Cond.instanceMethod yX0_isRested, Cond.selects RX0 yX0_isRested yX0_isRested, Cond.code yX0_isRested cX0_isRested 5 (some .boolean), Cond.methodLink RX0 160 Lib.Math.abs.name, Cond.static Lib.Math.abs.name, Cond.initialized "java/lang/Math", Cond.code Lib.Math.abs.name Lib.Math.abs.code 1 (some .int), Cond.methodLink RX0 151 yX0_servicesWith, Cond.instanceMethod yX0_servicesWith, Cond.selects RX0 yX0_servicesWith yX0_servicesWith]
def wsX0_service_r4 : List Cond := [Cond.code yX0_servicesWith cX0_servicesWith 4 (some .int)]
def wsX0_service : List Cond := .code yX0_service cX0_service 4 (some .int) :: ((wsX0_service_r1 ++ (wsX0_service_r2 ++ (wsX0_service_r3 ++ wsX0_service_r4))) ++ wsX00 ++ (vx_at0 RX0 176 "java/lang/IndexOutOfBoundsException" ["java/lang/RuntimeException", "java/lang/Exception"]).filter goodWord ++ (vx_at0 RX0 179 "java/lang/IllegalArgumentException" ["java/lang/RuntimeException", "java/lang/Exception"]).filter goodWord ++ (vx_at0 RX0 182 "java/lang/IllegalStateException" ["java/lang/RuntimeException", "java/lang/Exception"]).filter goodWord)
def wsX0_isService : List Cond := .code yX0_isService cX0_isService 2 (some .boolean) :: ([.fieldLink RX0 131 "CanticlePress" "serviceCount" "I", .methodLink RX0 52 yX0_isBetween, .static yX0_isBetween, .initialized RX0, .code yX0_isBetween cX0_isBetween 3 (some .boolean)] ++ wsX00)
def wsX0_plan_r1 : List Cond := [Cond.fieldLink RX0 46 "CanticlePress" "dayOfService" "[I", Cond.fieldLink RX0 103 "CanticlePress" "today" "I", Cond.fieldLink RX0 49 "CanticlePress" "hymnOfService" "[I", Cond.methodLink RX0 142 yX0_isService, Cond.instanceMethod yX0_isService, Cond.selects RX0 yX0_isService yX0_isService, Cond.initialized RX0, Cond.code yX0_isService cX0_isService 2 (some .boolean), Cond.fieldLink RX0 131 "CanticlePress" "serviceCount" "I", Cond.methodLink RX0 52 yX0_isBetween, Cond.static yX0_isBetween, Cond.code yX0_isBetween cX0_isBetween 3 (some .boolean), Cond.methodLink RX0 56 yX0_needIndex, Cond.static yX0_needIndex, Cond.code yX0_needIndex cX0_needIndex 1 none, Cond.classLink RX0 174 "java/lang/IndexOutOfBoundsException", Cond.initialized "java/lang/IndexOutOfBoundsException", Cond.methodLink RX0 67 yX0_needState, Cond.static yX0_needState, Cond.code yX0_needState cX0_needState 1 none, Cond.classLink RX0 180 "java/lang/IllegalStateException", Cond.initialized "java/lang/IllegalStateException", Cond.methodLink RX0 138 yX0_planAnew, Cond.instanceMethod yX0_planAnew]
def wsX0_plan_r2 : List Cond := [Cond.selects RX0 yX0_planAnew yX0_planAnew, Cond.code yX0_planAnew cX0_planAnew 2 none, Cond.fieldLink RX0 43 "CanticlePress" "choirOfService" "[I", Cond.methodLink RX0 145 yX0_bestHymn, Cond.instanceMethod yX0_bestHymn, Cond.selects RX0 yX0_bestHymn yX0_bestHymn, Cond.code yX0_bestHymn cX0_bestHymn 7 (some .int), Cond.fieldLink RX0 63 "CanticlePress" "hymnCount" "I", Cond.methodLink RX0 148 yX0_isSuitable, Cond.instanceMethod yX0_isSuitable, Cond.selects RX0 yX0_isSuitable yX0_isSuitable, Cond.code yX0_isSuitable cX0_isSuitable 4 (some .boolean), Cond.fieldLink RX0 25 "CanticlePress" "choirsOfHymn" "[I", Cond.fieldLink RX0 13 "CanticlePress" "seasonsOfHymn" "[I", Cond.methodLink RX0 90 yX0_isInSet, Cond.static yX0_isInSet, Cond.code yX0_isInSet cX0_isInSet 3 (some .boolean), Cond.methodLink RX0 154 yX0_seasonOf, Cond.static yX0_seasonOf, Cond.code yX0_seasonOf cX0_seasonOf 1 (some .int), Cond.methodLink RX0 119 yX0_isAllowed, Cond.instanceMethod yX0_isAllowed, Cond.selects RX0 yX0_isAllowed yX0_isAllowed, Cond.code yX0_isAllowed cX0_isAllowed 5 (some .boolean)]
def wsX0_plan_r3 : List Cond := [Cond.fieldLink RX0 100 "CanticlePress" "rightCount" "I", Cond.fieldLink RX0 31 "CanticlePress" "hymnOfRight" "[I", Cond.fieldLink RX0 34 "CanticlePress" "useOfRight" "[I", Cond.fieldLink RX0 37 "CanticlePress" "firstOfRight" "[I", Cond.fieldLink RX0 40 "CanticlePress" "lastOfRight" "[I", Cond.methodLink RX0 157 yX0_isRested, Cond.instanceMethod yX0_isRested, Cond.selects RX0 yX0_isRested yX0_isRested, Cond.code yX0_isRested cX0_isRested 5 (some .boolean), Cond.methodLink RX0 160 Lib.Math.abs.name, Cond.static Lib.Math.abs.name, Cond.initialized "java/lang/Math", Cond.code Lib.Math.abs.name Lib.Math.abs.code 1 (some .int), Cond.methodLink RX0 151 yX0_servicesWith, Cond.instanceMethod yX0_servicesWith, Cond.selects RX0 yX0_servicesWith yX0_servicesWith, Cond.code yX0_servicesWith cX0_servicesWith 4 (some .int)]
def wsX0_plan : List Cond := .code yX0_plan cX0_plan 2 (some .int) :: ((wsX0_plan_r1 ++ (wsX0_plan_r2 ++ wsX0_plan_r3)) ++ wsX00 ++ (vx_at0 RX0 176 "java/lang/IndexOutOfBoundsException" ["java/lang/RuntimeException", "java/lang/Exception"]).filter goodWord ++ (vx_at0 RX0 182 "java/lang/IllegalStateException" ["java/lang/RuntimeException", "java/lang/Exception"]).filter goodWord)
def wsX0_hymnOf : List Cond := .code yX0_hymnOf cX0_hymnOf 2 (some .int) :: ([.fieldLink RX0 49 "CanticlePress" "hymnOfService" "[I", .methodLink RX0 142 yX0_isService, .instanceMethod yX0_isService, .selects RX0 yX0_isService yX0_isService, .initialized RX0, .code yX0_isService cX0_isService 2 (some .boolean), .fieldLink RX0 131 "CanticlePress" "serviceCount" "I", .methodLink RX0 52 yX0_isBetween, .static yX0_isBetween, .code yX0_isBetween cX0_isBetween 3 (some .boolean), .methodLink RX0 56 yX0_needIndex, .static yX0_needIndex, .code yX0_needIndex cX0_needIndex 1 none, .classLink RX0 174 "java/lang/IndexOutOfBoundsException", .initialized "java/lang/IndexOutOfBoundsException"] ++ wsX00 ++ (vx_at0 RX0 176 "java/lang/IndexOutOfBoundsException" ["java/lang/RuntimeException", "java/lang/Exception"]).filter goodWord)
def wsX0_silent : List Cond := .code yX0_silent cX0_silent 3 (some .int) :: ([.fieldLink RX0 131 "CanticlePress" "serviceCount" "I", .fieldLink RX0 46 "CanticlePress" "dayOfService" "[I", .fieldLink RX0 103 "CanticlePress" "today" "I", .fieldLink RX0 49 "CanticlePress" "hymnOfService" "[I"] ++ wsX00)
def wsX0_isHeldIn : List Cond := .code yX0_isHeldIn cX0_isHeldIn 4 (some .boolean) :: ([.fieldLink RX0 46 "CanticlePress" "dayOfService" "[I", .fieldLink RX0 103 "CanticlePress" "today" "I", .methodLink RX0 122 yX0_yearOf, .static yX0_yearOf, .initialized RX0, .code yX0_yearOf cX0_yearOf 1 (some .int)] ++ wsX00)
def wsX0_sung_r1 : List Cond := [Cond.fieldLink RX0 131 "CanticlePress" "serviceCount" "I", Cond.fieldLink RX0 49 "CanticlePress" "hymnOfService" "[I", Cond.fieldLink RX0 9 "CanticlePress" "ownerOfHymn" "[I", Cond.methodLink RX0 52 yX0_isBetween, Cond.static yX0_isBetween, Cond.initialized RX0, Cond.code yX0_isBetween cX0_isBetween 3 (some .boolean), Cond.methodLink RX0 56 yX0_needIndex, Cond.static yX0_needIndex, Cond.code yX0_needIndex cX0_needIndex 1 none, Cond.classLink RX0 174 "java/lang/IndexOutOfBoundsException", Cond.initialized "java/lang/IndexOutOfBoundsException", Cond.methodLink RX0 125 yX0_isYear, Cond.static yX0_isYear, Cond.code yX0_isYear cX0_isYear 1 (some .boolean), Cond.methodLink RX0 168 yX0_isHeldIn, Cond.instanceMethod yX0_isHeldIn, Cond.selects RX0 yX0_isHeldIn yX0_isHeldIn, Cond.code yX0_isHeldIn cX0_isHeldIn 4 (some .boolean), Cond.fieldLink RX0 46 "CanticlePress" "dayOfService" "[I", Cond.fieldLink RX0 103 "CanticlePress" "today" "I", Cond.methodLink RX0 122 yX0_yearOf, Cond.static yX0_yearOf, Cond.code yX0_yearOf cX0_yearOf 1 (some .int)]
def wsX0_sung_r2 : List Cond := [Cond.methodLink RX0 74 yX0_isHymn, Cond.instanceMethod yX0_isHymn, Cond.selects RX0 yX0_isHymn yX0_isHymn, Cond.code yX0_isHymn cX0_isHymn 2 (some .boolean), Cond.fieldLink RX0 63 "CanticlePress" "hymnCount" "I"]
def wsX0_sung : List Cond := .code yX0_sung cX0_sung 6 (some .int) :: ((wsX0_sung_r1 ++ wsX0_sung_r2) ++ wsX00 ++ (vx_at0 RX0 176 "java/lang/IndexOutOfBoundsException" ["java/lang/RuntimeException", "java/lang/Exception"]).filter goodWord)
def wsX0_timesSung : List Cond := .code yX0_timesSung cX0_timesSung 5 (some .int) :: ([.fieldLink RX0 131 "CanticlePress" "serviceCount" "I", .fieldLink RX0 49 "CanticlePress" "hymnOfService" "[I", .methodLink RX0 168 yX0_isHeldIn, .instanceMethod yX0_isHeldIn, .selects RX0 yX0_isHeldIn yX0_isHeldIn, .initialized RX0, .code yX0_isHeldIn cX0_isHeldIn 4 (some .boolean), .fieldLink RX0 46 "CanticlePress" "dayOfService" "[I", .fieldLink RX0 103 "CanticlePress" "today" "I", .methodLink RX0 122 yX0_yearOf, .static yX0_yearOf, .code yX0_yearOf cX0_yearOf 1 (some .int)] ++ wsX00)
def wsX0_sungByHymns_r1 : List Cond := [Cond.fieldLink RX0 63 "CanticlePress" "hymnCount" "I", Cond.fieldLink RX0 9 "CanticlePress" "ownerOfHymn" "[I", Cond.methodLink RX0 52 yX0_isBetween, Cond.static yX0_isBetween, Cond.initialized RX0, Cond.code yX0_isBetween cX0_isBetween 3 (some .boolean), Cond.methodLink RX0 56 yX0_needIndex, Cond.static yX0_needIndex, Cond.code yX0_needIndex cX0_needIndex 1 none, Cond.classLink RX0 174 "java/lang/IndexOutOfBoundsException", Cond.initialized "java/lang/IndexOutOfBoundsException", Cond.methodLink RX0 125 yX0_isYear, Cond.static yX0_isYear, Cond.code yX0_isYear cX0_isYear 1 (some .boolean), Cond.methodLink RX0 171 yX0_timesSung, Cond.instanceMethod yX0_timesSung, Cond.selects RX0 yX0_timesSung yX0_timesSung, Cond.code yX0_timesSung cX0_timesSung 5 (some .int), Cond.fieldLink RX0 131 "CanticlePress" "serviceCount" "I", Cond.fieldLink RX0 49 "CanticlePress" "hymnOfService" "[I", Cond.methodLink RX0 168 yX0_isHeldIn, Cond.instanceMethod yX0_isHeldIn, Cond.selects RX0 yX0_isHeldIn yX0_isHeldIn, Cond.code yX0_isHeldIn cX0_isHeldIn 4 (some .boolean)]
def wsX0_sungByHymns_r2 : List Cond := [Cond.fieldLink RX0 46 "CanticlePress" "dayOfService" "[I", Cond.fieldLink RX0 103 "CanticlePress" "today" "I", Cond.methodLink RX0 122 yX0_yearOf, Cond.static yX0_yearOf, Cond.code yX0_yearOf cX0_yearOf 1 (some .int)]
def wsX0_sungByHymns : List Cond := .code yX0_sungByHymns cX0_sungByHymns 5 (some .int) :: ((wsX0_sungByHymns_r1 ++ wsX0_sungByHymns_r2) ++ wsX00 ++ (vx_at0 RX0 176 "java/lang/IndexOutOfBoundsException" ["java/lang/RuntimeException", "java/lang/Exception"]).filter goodWord)
def wsX0_pass : List Cond := .code yX0_pass cX0_pass 2 (some .int) :: ([.fieldLink RX0 103 "CanticlePress" "today" "I", .methodLink RX0 52 yX0_isBetween, .static yX0_isBetween, .initialized RX0, .code yX0_isBetween cX0_isBetween 3 (some .boolean), .methodLink RX0 60 yX0_needArgument, .static yX0_needArgument, .code yX0_needArgument cX0_needArgument 1 none, .classLink RX0 177 "java/lang/IllegalArgumentException", .initialized "java/lang/IllegalArgumentException", .methodLink RX0 67 yX0_needState, .static yX0_needState, .code yX0_needState cX0_needState 1 none, .classLink RX0 180 "java/lang/IllegalStateException", .initialized "java/lang/IllegalStateException"] ++ wsX00 ++ (vx_at0 RX0 179 "java/lang/IllegalArgumentException" ["java/lang/RuntimeException", "java/lang/Exception"]).filter goodWord ++ (vx_at0 RX0 182 "java/lang/IllegalStateException" ["java/lang/RuntimeException", "java/lang/Exception"]).filter goodWord)
def wsX1_init : List Cond := .code yX1_init cX1_init 1 none :: ([.methodLink RX1 1 objectInit, .instanceMethod objectInit, .code objectInit ⟨#[0xb1]⟩ 1 none, .arrayClass .int, .fieldLink RX1 7 "CanticlePressModel" "owner" "[I", .fieldLink RX1 13 "CanticlePressModel" "seasons" "[I", .fieldLink RX1 16 "CanticlePressModel" "lines" "[I", .fieldLink RX1 19 "CanticlePressModel" "rests" "[I", .fieldLink RX1 22 "CanticlePressModel" "printed" "[I", .fieldLink RX1 25 "CanticlePressModel" "rightHymn" "[I", .fieldLink RX1 28 "CanticlePressModel" "rightUse" "[I", .fieldLink RX1 31 "CanticlePressModel" "first" "[I", .fieldLink RX1 34 "CanticlePressModel" "last" "[I", .fieldLink RX1 37 "CanticlePressModel" "known" "[I", .fieldLink RX1 40 "CanticlePressModel" "choir" "[I", .fieldLink RX1 43 "CanticlePressModel" "day" "[I", .fieldLink RX1 46 "CanticlePressModel" "sung" "[I", .arrayClass .boolean, .fieldLink RX1 49 "CanticlePressModel" "isAnew" "[Z"] ++ wsX10)
def wsX1_thrown : List Cond := .code yX1_thrown cX1_thrown 1 (some .int) :: ([.fieldLink RX1 53 "CanticlePressModel" "thrown" "I"] ++ wsX10)
def wsX1_isIn : List Cond := .code yX1_isIn cX1_isIn 3 (some .boolean) :: ([])
def wsX1_isHymn : List Cond := .code yX1_isHymn cX1_isHymn 2 (some .boolean) :: ([.fieldLink RX1 57 "CanticlePressModel" "hymns" "I", .methodLink RX1 60 yX1_isIn, .static yX1_isIn, .initialized RX1, .code yX1_isIn cX1_isIn 3 (some .boolean)] ++ wsX10)
def wsX1_isUse : List Cond := .code yX1_isUse cX1_isUse 1 (some .boolean) :: ([.methodLink RX1 60 yX1_isIn, .static yX1_isIn, .initialized RX1, .code yX1_isIn cX1_isIn 3 (some .boolean)])
def wsX1_isDay : List Cond := .code yX1_isDay cX1_isDay 1 (some .boolean) :: ([.methodLink RX1 60 yX1_isIn, .static yX1_isIn, .initialized RX1, .code yX1_isIn cX1_isIn 3 (some .boolean)])
def wsX1_hymn : List Cond := .code yX1_hymn cX1_hymn 6 (some .int) :: ([.fieldLink RX1 57 "CanticlePressModel" "hymns" "I", .fieldLink RX1 53 "CanticlePressModel" "thrown" "I", .fieldLink RX1 7 "CanticlePressModel" "owner" "[I", .fieldLink RX1 13 "CanticlePressModel" "seasons" "[I", .fieldLink RX1 16 "CanticlePressModel" "lines" "[I", .fieldLink RX1 19 "CanticlePressModel" "rests" "[I", .methodLink RX1 60 yX1_isIn, .static yX1_isIn, .initialized RX1, .code yX1_isIn cX1_isIn 3 (some .boolean)] ++ wsX10)
def wsX1_hymns : List Cond := .code yX1_hymns cX1_hymns 1 (some .int) :: ([.fieldLink RX1 53 "CanticlePressModel" "thrown" "I", .fieldLink RX1 57 "CanticlePressModel" "hymns" "I"] ++ wsX10)
def wsX1_hasRest : List Cond := .code yX1_hasRest cX1_hasRest 3 (some .boolean) :: ([.fieldLink RX1 19 "CanticlePressModel" "rests" "[I"] ++ wsX10)
def wsX1_nextPage : List Cond := .code yX1_nextPage cX1_nextPage 6 (some .int) :: ([.fieldLink RX1 16 "CanticlePressModel" "lines" "[I", .methodLink RX1 64 yX1_hasRest, .instanceMethod yX1_hasRest, .selects RX1 yX1_hasRest yX1_hasRest, .initialized RX1, .code yX1_hasRest cX1_hasRest 3 (some .boolean), .fieldLink RX1 19 "CanticlePressModel" "rests" "[I"] ++ wsX10)
def wsX1_pagesOf : List Cond := .code yX1_pagesOf cX1_pagesOf 4 (some .int) :: ([.fieldLink RX1 16 "CanticlePressModel" "lines" "[I", .methodLink RX1 68 yX1_nextPage, .instanceMethod yX1_nextPage, .selects RX1 yX1_nextPage yX1_nextPage, .initialized RX1, .code yX1_nextPage cX1_nextPage 6 (some .int), .methodLink RX1 64 yX1_hasRest, .instanceMethod yX1_hasRest, .selects RX1 yX1_hasRest yX1_hasRest, .code yX1_hasRest cX1_hasRest 3 (some .boolean), .fieldLink RX1 19 "CanticlePressModel" "rests" "[I"] ++ wsX10)
def wsX1_pages : List Cond := .code yX1_pages cX1_pages 2 (some .int) :: ([.fieldLink RX1 53 "CanticlePressModel" "thrown" "I", .methodLink RX1 72 yX1_isHymn, .instanceMethod yX1_isHymn, .selects RX1 yX1_isHymn yX1_isHymn, .initialized RX1, .code yX1_isHymn cX1_isHymn 2 (some .boolean), .fieldLink RX1 57 "CanticlePressModel" "hymns" "I", .methodLink RX1 60 yX1_isIn, .static yX1_isIn, .code yX1_isIn cX1_isIn 3 (some .boolean), .methodLink RX1 76 yX1_pagesOf, .instanceMethod yX1_pagesOf, .selects RX1 yX1_pagesOf yX1_pagesOf, .code yX1_pagesOf cX1_pagesOf 4 (some .int), .fieldLink RX1 16 "CanticlePressModel" "lines" "[I", .methodLink RX1 68 yX1_nextPage, .instanceMethod yX1_nextPage, .selects RX1 yX1_nextPage yX1_nextPage, .code yX1_nextPage cX1_nextPage 6 (some .int), .methodLink RX1 64 yX1_hasRest, .instanceMethod yX1_hasRest, .selects RX1 yX1_hasRest yX1_hasRest, .code yX1_hasRest cX1_hasRest 3 (some .boolean), .fieldLink RX1 19 "CanticlePressModel" "rests" "[I"] ++ wsX10)
def wsX1_pageOf : List Cond := .code yX1_pageOf cX1_pageOf 5 (some .int) :: ([.fieldLink RX1 16 "CanticlePressModel" "lines" "[I", .fieldLink RX1 53 "CanticlePressModel" "thrown" "I", .methodLink RX1 72 yX1_isHymn, .instanceMethod yX1_isHymn, .selects RX1 yX1_isHymn yX1_isHymn, .initialized RX1, .code yX1_isHymn cX1_isHymn 2 (some .boolean), .fieldLink RX1 57 "CanticlePressModel" "hymns" "I", .methodLink RX1 60 yX1_isIn, .static yX1_isIn, .code yX1_isIn cX1_isIn 3 (some .boolean), .methodLink RX1 68 yX1_nextPage, .instanceMethod yX1_nextPage, .selects RX1 yX1_nextPage yX1_nextPage, .code yX1_nextPage cX1_nextPage 6 (some .int), .methodLink RX1 64 yX1_hasRest, .instanceMethod yX1_hasRest, .selects RX1 yX1_hasRest yX1_hasRest, .code yX1_hasRest cX1_hasRest 3 (some .boolean), .fieldLink RX1 19 "CanticlePressModel" "rests" "[I"] ++ wsX10)
def wsX1_badTurns : List Cond := .code yX1_badTurns cX1_badTurns 5 (some .int) :: ([.fieldLink RX1 53 "CanticlePressModel" "thrown" "I", .fieldLink RX1 16 "CanticlePressModel" "lines" "[I", .methodLink RX1 72 yX1_isHymn, .instanceMethod yX1_isHymn, .selects RX1 yX1_isHymn yX1_isHymn, .initialized RX1, .code yX1_isHymn cX1_isHymn 2 (some .boolean), .fieldLink RX1 57 "CanticlePressModel" "hymns" "I", .methodLink RX1 60 yX1_isIn, .static yX1_isIn, .code yX1_isIn cX1_isIn 3 (some .boolean), .methodLink RX1 68 yX1_nextPage, .instanceMethod yX1_nextPage, .selects RX1 yX1_nextPage yX1_nextPage, .code yX1_nextPage cX1_nextPage 6 (some .int), .methodLink RX1 64 yX1_hasRest, .instanceMethod yX1_hasRest, .selects RX1 yX1_hasRest yX1_hasRest, .code yX1_hasRest cX1_hasRest 3 (some .boolean), .fieldLink RX1 19 "CanticlePressModel" "rests" "[I"] ++ wsX10)
def wsX1_right : List Cond := .code yX1_right cX1_right 5 (some .int) :: ([.fieldLink RX1 86 "CanticlePressModel" "rights" "I", .fieldLink RX1 53 "CanticlePressModel" "thrown" "I", .fieldLink RX1 25 "CanticlePressModel" "rightHymn" "[I", .fieldLink RX1 28 "CanticlePressModel" "rightUse" "[I", .fieldLink RX1 31 "CanticlePressModel" "first" "[I", .fieldLink RX1 34 "CanticlePressModel" "last" "[I", .methodLink RX1 72 yX1_isHymn, .instanceMethod yX1_isHymn, .selects RX1 yX1_isHymn yX1_isHymn, .initialized RX1, .code yX1_isHymn cX1_isHymn 2 (some .boolean), .fieldLink RX1 57 "CanticlePressModel" "hymns" "I", .methodLink RX1 60 yX1_isIn, .static yX1_isIn, .code yX1_isIn cX1_isIn 3 (some .boolean), .methodLink RX1 80 yX1_isUse, .static yX1_isUse, .code yX1_isUse cX1_isUse 1 (some .boolean), .methodLink RX1 83 yX1_isDay, .static yX1_isDay, .code yX1_isDay cX1_isDay 1 (some .boolean)] ++ wsX10)
def wsX1_may : List Cond := .code yX1_may cX1_may 6 (some .boolean) :: ([.fieldLink RX1 86 "CanticlePressModel" "rights" "I", .fieldLink RX1 25 "CanticlePressModel" "rightHymn" "[I", .fieldLink RX1 28 "CanticlePressModel" "rightUse" "[I", .fieldLink RX1 31 "CanticlePressModel" "first" "[I", .fieldLink RX1 34 "CanticlePressModel" "last" "[I", .methodLink RX1 60 yX1_isIn, .static yX1_isIn, .initialized RX1, .code yX1_isIn cX1_isIn 3 (some .boolean)] ++ wsX10)
def wsX1_isRested : List Cond := .code yX1_isRested cX1_isRested 6 (some .boolean) :: ([.fieldLink RX1 92 "CanticlePressModel" "services" "I", .fieldLink RX1 43 "CanticlePressModel" "day" "[I", .fieldLink RX1 40 "CanticlePressModel" "choir" "[I", .fieldLink RX1 46 "CanticlePressModel" "sung" "[I"] ++ wsX10)
def wsX1_servicesWith : List Cond := .code yX1_servicesWith cX1_servicesWith 4 (some .int) :: ([.fieldLink RX1 92 "CanticlePressModel" "services" "I", .fieldLink RX1 46 "CanticlePressModel" "sung" "[I"] ++ wsX10)
def wsX1_plans_r1 : List Cond := [Cond.fieldLink RX1 43 "CanticlePressModel" "day" "[I", Cond.fieldLink RX1 46 "CanticlePressModel" "sung" "[I", Cond.fieldLink RX1 57 "CanticlePressModel" "hymns" "I", Cond.fieldLink RX1 37 "CanticlePressModel" "known" "[I", Cond.fieldLink RX1 40 "CanticlePressModel" "choir" "[I", Cond.fieldLink RX1 13 "CanticlePressModel" "seasons" "[I", Cond.methodLink RX1 95 yX1_may, Cond.instanceMethod yX1_may, Cond.selects RX1 yX1_may yX1_may, Cond.initialized RX1, Cond.code yX1_may cX1_may 6 (some .boolean), Cond.fieldLink RX1 86 "CanticlePressModel" "rights" "I", Cond.fieldLink RX1 25 "CanticlePressModel" "rightHymn" "[I", Cond.fieldLink RX1 28 "CanticlePressModel" "rightUse" "[I", Cond.fieldLink RX1 31 "CanticlePressModel" "first" "[I", Cond.fieldLink RX1 34 "CanticlePressModel" "last" "[I", Cond.methodLink RX1 60 yX1_isIn, Cond.static yX1_isIn, Cond.code yX1_isIn cX1_isIn 3 (some .boolean), Cond.methodLink RX1 102 yX1_isRested, Cond.instanceMethod yX1_isRested, Cond.selects RX1 yX1_isRested yX1_isRested, Cond.code yX1_isRested cX1_isRested 6 (some .boolean), Cond.fieldLink RX1 92 "CanticlePressModel" "services" "I"]
def wsX1_plans_r2 : List Cond := [Cond.methodLink RX1 105 yX1_servicesWith, Cond.instanceMethod yX1_servicesWith, Cond.selects RX1 yX1_servicesWith yX1_servicesWith, Cond.code yX1_servicesWith cX1_servicesWith 4 (some .int)]
def wsX1_plans : List Cond := .code yX1_plans cX1_plans 6 none :: ((wsX1_plans_r1 ++ wsX1_plans_r2) ++ wsX10)
def wsX1_end_r1 : List Cond := [Cond.fieldLink RX1 86 "CanticlePressModel" "rights" "I", Cond.fieldLink RX1 53 "CanticlePressModel" "thrown" "I", Cond.fieldLink RX1 89 "CanticlePressModel" "today" "I", Cond.fieldLink RX1 34 "CanticlePressModel" "last" "[I", Cond.fieldLink RX1 92 "CanticlePressModel" "services" "I", Cond.fieldLink RX1 49 "CanticlePressModel" "isAnew" "[Z", Cond.fieldLink RX1 43 "CanticlePressModel" "day" "[I", Cond.fieldLink RX1 46 "CanticlePressModel" "sung" "[I", Cond.methodLink RX1 60 yX1_isIn, Cond.static yX1_isIn, Cond.initialized RX1, Cond.code yX1_isIn cX1_isIn 3 (some .boolean), Cond.methodLink RX1 95 yX1_may, Cond.instanceMethod yX1_may, Cond.selects RX1 yX1_may yX1_may, Cond.code yX1_may cX1_may 6 (some .boolean), Cond.fieldLink RX1 25 "CanticlePressModel" "rightHymn" "[I", Cond.fieldLink RX1 28 "CanticlePressModel" "rightUse" "[I", Cond.fieldLink RX1 31 "CanticlePressModel" "first" "[I", Cond.methodLink RX1 98 yX1_plans, Cond.instanceMethod yX1_plans, Cond.selects RX1 yX1_plans yX1_plans, Cond.code yX1_plans cX1_plans 6 none, Cond.fieldLink RX1 57 "CanticlePressModel" "hymns" "I"]
def wsX1_end_r2 : List Cond := [Cond.fieldLink RX1 37 "CanticlePressModel" "known" "[I", Cond.fieldLink RX1 40 "CanticlePressModel" "choir" "[I", Cond.fieldLink RX1 13 "CanticlePressModel" "seasons" "[I", Cond.methodLink RX1 102 yX1_isRested, Cond.instanceMethod yX1_isRested, Cond.selects RX1 yX1_isRested yX1_isRested, Cond.code yX1_isRested cX1_isRested 6 (some .boolean), Cond.methodLink RX1 105 yX1_servicesWith, Cond.instanceMethod yX1_servicesWith, Cond.selects RX1 yX1_servicesWith yX1_servicesWith, Cond.code yX1_servicesWith cX1_servicesWith 4 (some .int)]
def wsX1_end : List Cond := .code yX1_end cX1_end 5 (some .int) :: ((wsX1_end_r1 ++ wsX1_end_r2) ++ wsX10)
def wsX1_hasRight_r1 : List Cond := [Cond.fieldLink RX1 53 "CanticlePressModel" "thrown" "I", Cond.methodLink RX1 72 yX1_isHymn, Cond.instanceMethod yX1_isHymn, Cond.selects RX1 yX1_isHymn yX1_isHymn, Cond.initialized RX1, Cond.code yX1_isHymn cX1_isHymn 2 (some .boolean), Cond.fieldLink RX1 57 "CanticlePressModel" "hymns" "I", Cond.methodLink RX1 60 yX1_isIn, Cond.static yX1_isIn, Cond.code yX1_isIn cX1_isIn 3 (some .boolean), Cond.methodLink RX1 80 yX1_isUse, Cond.static yX1_isUse, Cond.code yX1_isUse cX1_isUse 1 (some .boolean), Cond.methodLink RX1 83 yX1_isDay, Cond.static yX1_isDay, Cond.code yX1_isDay cX1_isDay 1 (some .boolean), Cond.methodLink RX1 95 yX1_may, Cond.instanceMethod yX1_may, Cond.selects RX1 yX1_may yX1_may, Cond.code yX1_may cX1_may 6 (some .boolean), Cond.fieldLink RX1 86 "CanticlePressModel" "rights" "I", Cond.fieldLink RX1 25 "CanticlePressModel" "rightHymn" "[I", Cond.fieldLink RX1 28 "CanticlePressModel" "rightUse" "[I", Cond.fieldLink RX1 31 "CanticlePressModel" "first" "[I"]
def wsX1_hasRight_r2 : List Cond := [Cond.fieldLink RX1 34 "CanticlePressModel" "last" "[I"]
def wsX1_hasRight : List Cond := .code yX1_hasRight cX1_hasRight 4 (some .boolean) :: ((wsX1_hasRight_r1 ++ wsX1_hasRight_r2) ++ wsX10)
def wsX1_print_r1 : List Cond := [Cond.fieldLink RX1 53 "CanticlePressModel" "thrown" "I", Cond.fieldLink RX1 89 "CanticlePressModel" "today" "I", Cond.fieldLink RX1 22 "CanticlePressModel" "printed" "[I", Cond.methodLink RX1 72 yX1_isHymn, Cond.instanceMethod yX1_isHymn, Cond.selects RX1 yX1_isHymn yX1_isHymn, Cond.initialized RX1, Cond.code yX1_isHymn cX1_isHymn 2 (some .boolean), Cond.fieldLink RX1 57 "CanticlePressModel" "hymns" "I", Cond.methodLink RX1 60 yX1_isIn, Cond.static yX1_isIn, Cond.code yX1_isIn cX1_isIn 3 (some .boolean), Cond.methodLink RX1 95 yX1_may, Cond.instanceMethod yX1_may, Cond.selects RX1 yX1_may yX1_may, Cond.code yX1_may cX1_may 6 (some .boolean), Cond.fieldLink RX1 86 "CanticlePressModel" "rights" "I", Cond.fieldLink RX1 25 "CanticlePressModel" "rightHymn" "[I", Cond.fieldLink RX1 28 "CanticlePressModel" "rightUse" "[I", Cond.fieldLink RX1 31 "CanticlePressModel" "first" "[I", Cond.fieldLink RX1 34 "CanticlePressModel" "last" "[I", Cond.methodLink RX1 76 yX1_pagesOf, Cond.instanceMethod yX1_pagesOf, Cond.selects RX1 yX1_pagesOf yX1_pagesOf]
def wsX1_print_r2 : List Cond := [Cond.code yX1_pagesOf cX1_pagesOf 4 (some .int), Cond.fieldLink RX1 16 "CanticlePressModel" "lines" "[I", Cond.methodLink RX1 68 yX1_nextPage, Cond.instanceMethod yX1_nextPage, Cond.selects RX1 yX1_nextPage yX1_nextPage, Cond.code yX1_nextPage cX1_nextPage 6 (some .int), Cond.methodLink RX1 64 yX1_hasRest, Cond.instanceMethod yX1_hasRest, Cond.selects RX1 yX1_hasRest yX1_hasRest, Cond.code yX1_hasRest cX1_hasRest 3 (some .boolean), Cond.fieldLink RX1 19 "CanticlePressModel" "rests" "[I"]
def wsX1_print : List Cond := .code yX1_print cX1_print 3 (some .int) :: ((wsX1_print_r1 ++ wsX1_print_r2) ++ wsX10)
def wsX1_printed : List Cond := .code yX1_printed cX1_printed 3 (some .int) :: ([.fieldLink RX1 53 "CanticlePressModel" "thrown" "I", .fieldLink RX1 22 "CanticlePressModel" "printed" "[I", .methodLink RX1 72 yX1_isHymn, .instanceMethod yX1_isHymn, .selects RX1 yX1_isHymn yX1_isHymn, .initialized RX1, .code yX1_isHymn cX1_isHymn 2 (some .boolean), .fieldLink RX1 57 "CanticlePressModel" "hymns" "I", .methodLink RX1 60 yX1_isIn, .static yX1_isIn, .code yX1_isIn cX1_isIn 3 (some .boolean)] ++ wsX10)
def wsX1_learn : List Cond := .code yX1_learn cX1_learn 3 (some .boolean) :: ([.fieldLink RX1 53 "CanticlePressModel" "thrown" "I", .fieldLink RX1 37 "CanticlePressModel" "known" "[I", .methodLink RX1 60 yX1_isIn, .static yX1_isIn, .initialized RX1, .code yX1_isIn cX1_isIn 3 (some .boolean), .methodLink RX1 72 yX1_isHymn, .instanceMethod yX1_isHymn, .selects RX1 yX1_isHymn yX1_isHymn, .code yX1_isHymn cX1_isHymn 2 (some .boolean), .fieldLink RX1 57 "CanticlePressModel" "hymns" "I"] ++ wsX10)
def wsX1_service_r1 : List Cond := [Cond.fieldLink RX1 89 "CanticlePressModel" "today" "I", Cond.fieldLink RX1 53 "CanticlePressModel" "thrown" "I", Cond.fieldLink RX1 92 "CanticlePressModel" "services" "I", Cond.fieldLink RX1 40 "CanticlePressModel" "choir" "[I", Cond.fieldLink RX1 43 "CanticlePressModel" "day" "[I", Cond.fieldLink RX1 46 "CanticlePressModel" "sung" "[I", Cond.methodLink RX1 60 yX1_isIn, Cond.static yX1_isIn, Cond.initialized RX1, Cond.code yX1_isIn cX1_isIn 3 (some .boolean), Cond.methodLink RX1 98 yX1_plans, Cond.instanceMethod yX1_plans, Cond.selects RX1 yX1_plans yX1_plans, Cond.code yX1_plans cX1_plans 6 none, Cond.fieldLink RX1 57 "CanticlePressModel" "hymns" "I", Cond.fieldLink RX1 37 "CanticlePressModel" "known" "[I", Cond.fieldLink RX1 13 "CanticlePressModel" "seasons" "[I", Cond.methodLink RX1 95 yX1_may, Cond.instanceMethod yX1_may, Cond.selects RX1 yX1_may yX1_may, Cond.code yX1_may cX1_may 6 (some .boolean), Cond.fieldLink RX1 86 "CanticlePressModel" "rights" "I", Cond.fieldLink RX1 25 "CanticlePressModel" "rightHymn" "[I", Cond.fieldLink RX1 28 "CanticlePressModel" "rightUse" "[I"]
def wsX1_service_r2 : List Cond := [Cond.fieldLink RX1 31 "CanticlePressModel" "first" "[I", Cond.fieldLink RX1 34 "CanticlePressModel" "last" "[I", Cond.methodLink RX1 102 yX1_isRested, Cond.instanceMethod yX1_isRested, Cond.selects RX1 yX1_isRested yX1_isRested, Cond.code yX1_isRested cX1_isRested 6 (some .boolean), Cond.methodLink RX1 105 yX1_servicesWith, Cond.instanceMethod yX1_servicesWith, Cond.selects RX1 yX1_servicesWith yX1_servicesWith, Cond.code yX1_servicesWith cX1_servicesWith 4 (some .int)]
def wsX1_service : List Cond := .code yX1_service cX1_service 5 (some .int) :: ((wsX1_service_r1 ++ wsX1_service_r2) ++ wsX10)
def wsX1_isService : List Cond := .code yX1_isService cX1_isService 2 (some .boolean) :: ([.fieldLink RX1 92 "CanticlePressModel" "services" "I", .methodLink RX1 60 yX1_isIn, .static yX1_isIn, .initialized RX1, .code yX1_isIn cX1_isIn 3 (some .boolean)] ++ wsX10)
def wsX1_plan_r1 : List Cond := [Cond.fieldLink RX1 43 "CanticlePressModel" "day" "[I", Cond.fieldLink RX1 89 "CanticlePressModel" "today" "I", Cond.fieldLink RX1 53 "CanticlePressModel" "thrown" "I", Cond.fieldLink RX1 46 "CanticlePressModel" "sung" "[I", Cond.methodLink RX1 108 yX1_isService, Cond.instanceMethod yX1_isService, Cond.selects RX1 yX1_isService yX1_isService, Cond.initialized RX1, Cond.code yX1_isService cX1_isService 2 (some .boolean), Cond.fieldLink RX1 92 "CanticlePressModel" "services" "I", Cond.methodLink RX1 60 yX1_isIn, Cond.static yX1_isIn, Cond.code yX1_isIn cX1_isIn 3 (some .boolean), Cond.methodLink RX1 98 yX1_plans, Cond.instanceMethod yX1_plans, Cond.selects RX1 yX1_plans yX1_plans, Cond.code yX1_plans cX1_plans 6 none, Cond.fieldLink RX1 57 "CanticlePressModel" "hymns" "I", Cond.fieldLink RX1 37 "CanticlePressModel" "known" "[I", Cond.fieldLink RX1 40 "CanticlePressModel" "choir" "[I", Cond.fieldLink RX1 13 "CanticlePressModel" "seasons" "[I", Cond.methodLink RX1 95 yX1_may, Cond.instanceMethod yX1_may, Cond.selects RX1 yX1_may yX1_may]
def wsX1_plan_r2 : List Cond := [Cond.code yX1_may cX1_may 6 (some .boolean), Cond.fieldLink RX1 86 "CanticlePressModel" "rights" "I", Cond.fieldLink RX1 25 "CanticlePressModel" "rightHymn" "[I", Cond.fieldLink RX1 28 "CanticlePressModel" "rightUse" "[I", Cond.fieldLink RX1 31 "CanticlePressModel" "first" "[I", Cond.fieldLink RX1 34 "CanticlePressModel" "last" "[I", Cond.methodLink RX1 102 yX1_isRested, Cond.instanceMethod yX1_isRested, Cond.selects RX1 yX1_isRested yX1_isRested, Cond.code yX1_isRested cX1_isRested 6 (some .boolean), Cond.methodLink RX1 105 yX1_servicesWith, Cond.instanceMethod yX1_servicesWith, Cond.selects RX1 yX1_servicesWith yX1_servicesWith, Cond.code yX1_servicesWith cX1_servicesWith 4 (some .int)]
def wsX1_plan : List Cond := .code yX1_plan cX1_plan 2 (some .int) :: ((wsX1_plan_r1 ++ wsX1_plan_r2) ++ wsX10)
def wsX1_hymnOf : List Cond := .code yX1_hymnOf cX1_hymnOf 2 (some .int) :: ([.fieldLink RX1 53 "CanticlePressModel" "thrown" "I", .fieldLink RX1 46 "CanticlePressModel" "sung" "[I", .methodLink RX1 108 yX1_isService, .instanceMethod yX1_isService, .selects RX1 yX1_isService yX1_isService, .initialized RX1, .code yX1_isService cX1_isService 2 (some .boolean), .fieldLink RX1 92 "CanticlePressModel" "services" "I", .methodLink RX1 60 yX1_isIn, .static yX1_isIn, .code yX1_isIn cX1_isIn 3 (some .boolean)] ++ wsX10)
def wsX1_silent : List Cond := .code yX1_silent cX1_silent 3 (some .int) :: ([.fieldLink RX1 53 "CanticlePressModel" "thrown" "I", .fieldLink RX1 92 "CanticlePressModel" "services" "I", .fieldLink RX1 43 "CanticlePressModel" "day" "[I", .fieldLink RX1 89 "CanticlePressModel" "today" "I", .fieldLink RX1 46 "CanticlePressModel" "sung" "[I"] ++ wsX10)
def wsX1_sungOf : List Cond := .code yX1_sungOf cX1_sungOf 6 (some .int) :: ([.fieldLink RX1 92 "CanticlePressModel" "services" "I", .fieldLink RX1 43 "CanticlePressModel" "day" "[I", .fieldLink RX1 89 "CanticlePressModel" "today" "I", .fieldLink RX1 46 "CanticlePressModel" "sung" "[I", .fieldLink RX1 7 "CanticlePressModel" "owner" "[I"] ++ wsX10)
def wsX1_sung : List Cond := .code yX1_sung cX1_sung 3 (some .int) :: ([.fieldLink RX1 53 "CanticlePressModel" "thrown" "I", .methodLink RX1 60 yX1_isIn, .static yX1_isIn, .initialized RX1, .code yX1_isIn cX1_isIn 3 (some .boolean), .methodLink RX1 111 yX1_sungOf, .instanceMethod yX1_sungOf, .selects RX1 yX1_sungOf yX1_sungOf, .code yX1_sungOf cX1_sungOf 6 (some .int), .fieldLink RX1 92 "CanticlePressModel" "services" "I", .fieldLink RX1 43 "CanticlePressModel" "day" "[I", .fieldLink RX1 89 "CanticlePressModel" "today" "I", .fieldLink RX1 46 "CanticlePressModel" "sung" "[I", .fieldLink RX1 7 "CanticlePressModel" "owner" "[I"] ++ wsX10)
def wsX1_sungByHymns : List Cond := .code yX1_sungByHymns cX1_sungByHymns 3 (some .int) :: ([.fieldLink RX1 53 "CanticlePressModel" "thrown" "I", .methodLink RX1 60 yX1_isIn, .static yX1_isIn, .initialized RX1, .code yX1_isIn cX1_isIn 3 (some .boolean), .methodLink RX1 111 yX1_sungOf, .instanceMethod yX1_sungOf, .selects RX1 yX1_sungOf yX1_sungOf, .code yX1_sungOf cX1_sungOf 6 (some .int), .fieldLink RX1 92 "CanticlePressModel" "services" "I", .fieldLink RX1 43 "CanticlePressModel" "day" "[I", .fieldLink RX1 89 "CanticlePressModel" "today" "I", .fieldLink RX1 46 "CanticlePressModel" "sung" "[I", .fieldLink RX1 7 "CanticlePressModel" "owner" "[I"] ++ wsX10)
def wsX1_pass : List Cond := .code yX1_pass cX1_pass 2 (some .int) :: ([.fieldLink RX1 89 "CanticlePressModel" "today" "I", .fieldLink RX1 53 "CanticlePressModel" "thrown" "I", .methodLink RX1 60 yX1_isIn, .static yX1_isIn, .initialized RX1, .code yX1_isIn cX1_isIn 3 (some .boolean)] ++ wsX10)
def wsJ9_abs_0f7a4 : List Cond := .code yJ9_abs_0f7a4 cJ9_abs_0f7a4 1 (some .int) :: ([])
def wsL_hymn_r1 : List Cond := [Cond.classLink RL 13 "java/lang/IndexOutOfBoundsException", Cond.classLink RL 15 "java/lang/IllegalArgumentException", Cond.classLink RL 17 "java/lang/IllegalStateException", Cond.methodLink RL 7 yX0_hymn, Cond.instanceMethod yX0_hymn, Cond.selects RX0 yX0_hymn yX0_hymn, Cond.initialized RX0, Cond.code yX0_hymn cX0_hymn 6 (some .int), Cond.fieldLink RX0 63 "CanticlePress" "hymnCount" "I", Cond.fieldLink RX0 9 "CanticlePress" "ownerOfHymn" "[I", Cond.fieldLink RX0 13 "CanticlePress" "seasonsOfHymn" "[I", Cond.fieldLink RX0 16 "CanticlePress" "linesOfHymn" "[I", Cond.fieldLink RX0 19 "CanticlePress" "restsOfHymn" "[I", Cond.fieldLink RX0 22 "CanticlePress" "turnsOfHymn" "[I", Cond.methodLink RX0 52 yX0_isBetween, Cond.static yX0_isBetween, Cond.code yX0_isBetween cX0_isBetween 3 (some .boolean), Cond.methodLink RX0 56 yX0_needIndex, Cond.static yX0_needIndex, Cond.code yX0_needIndex cX0_needIndex 1 none, Cond.classLink RX0 174 "java/lang/IndexOutOfBoundsException", Cond.initialized "java/lang/IndexOutOfBoundsException", Cond.methodLink RX0 60 yX0_needArgument, Cond.static yX0_needArgument]
def wsL_hymn_r2 : List Cond := [Cond.code yX0_needArgument cX0_needArgument 1 none, Cond.classLink RX0 177 "java/lang/IllegalArgumentException", Cond.initialized "java/lang/IllegalArgumentException", Cond.methodLink RX0 67 yX0_needState, Cond.static yX0_needState, Cond.code yX0_needState cX0_needState 1 none, Cond.classLink RX0 180 "java/lang/IllegalStateException", Cond.initialized "java/lang/IllegalStateException", Cond.methodLink RX0 70 yX0_turns, Cond.static yX0_turns, Cond.code yX0_turns cX0_turns 6 (some .int), Cond.methodLink RX0 87 yX0_lastLineOfFullPage, Cond.static yX0_lastLineOfFullPage, Cond.code yX0_lastLineOfFullPage cX0_lastLineOfFullPage 4 (some .int), Cond.methodLink RX0 90 yX0_isInSet, Cond.static yX0_isInSet, Cond.code yX0_isInSet cX0_isInSet 3 (some .boolean)]
def wsL_hymn : List Cond := .codeWith yL_hymn cL_hymn 7 (some .int) [(0, 14, 17, 13), (0, 14, 21, 15), (0, 14, 25, 17)] :: ((wsL_hymn_r1 ++ wsL_hymn_r2) ++ wsX00 ++ (vx_at0 RX0 176 "java/lang/IndexOutOfBoundsException" ["java/lang/RuntimeException", "java/lang/Exception"]).filter goodWord ++ (vx_at0 RX0 179 "java/lang/IllegalArgumentException" ["java/lang/RuntimeException", "java/lang/Exception"]).filter goodWord ++ (vx_at0 RX0 182 "java/lang/IllegalStateException" ["java/lang/RuntimeException", "java/lang/Exception"]).filter goodWord)
def wsL_pages_r1 : List Cond := [Cond.classLink RL 13 "java/lang/IndexOutOfBoundsException", Cond.methodLink RL 19 yX0_pages, Cond.instanceMethod yX0_pages, Cond.selects RX0 yX0_pages yX0_pages, Cond.initialized RX0, Cond.code yX0_pages cX0_pages 2 (some .int), Cond.methodLink RX0 74 yX0_isHymn, Cond.instanceMethod yX0_isHymn, Cond.selects RX0 yX0_isHymn yX0_isHymn, Cond.code yX0_isHymn cX0_isHymn 2 (some .boolean), Cond.fieldLink RX0 63 "CanticlePress" "hymnCount" "I", Cond.methodLink RX0 52 yX0_isBetween, Cond.static yX0_isBetween, Cond.code yX0_isBetween cX0_isBetween 3 (some .boolean), Cond.methodLink RX0 56 yX0_needIndex, Cond.static yX0_needIndex, Cond.code yX0_needIndex cX0_needIndex 1 none, Cond.classLink RX0 174 "java/lang/IndexOutOfBoundsException", Cond.initialized "java/lang/IndexOutOfBoundsException", Cond.methodLink RX0 78 yX0_pageCount, Cond.instanceMethod yX0_pageCount, Cond.selects RX0 yX0_pageCount yX0_pageCount, Cond.code yX0_pageCount cX0_pageCount 2 (some .int), Cond.fieldLink RX0 22 "CanticlePress" "turnsOfHymn" "[I"]
def wsL_pages_r2 : List Cond := [Cond.methodLink RX0 82 yJ6_bitCount_0f7a4, Cond.static yJ6_bitCount_0f7a4, Cond.initialized RJ6, Cond.code yJ6_bitCount_0f7a4 cJ6_bitCount_0f7a4 1 (some .int), Cond.constant RJ6 265 (1431655765), Cond.constant RJ6 266 (858993459), Cond.constant RJ6 267 (252645135)]
def wsL_pages : List Cond := .codeWith yL_pages cL_pages 4 (some .int) [(0, 9, 12, 13)] :: ((wsL_pages_r1 ++ wsL_pages_r2) ++ wsX00 ++ (vx_at0 RX0 176 "java/lang/IndexOutOfBoundsException" ["java/lang/RuntimeException", "java/lang/Exception"]).filter goodWord)
def wsL_pageOf_r1 : List Cond := [Cond.classLink RL 13 "java/lang/IndexOutOfBoundsException", Cond.methodLink RL 23 yX0_pageOf, Cond.instanceMethod yX0_pageOf, Cond.selects RX0 yX0_pageOf yX0_pageOf, Cond.initialized RX0, Cond.code yX0_pageOf cX0_pageOf 4 (some .int), Cond.fieldLink RX0 16 "CanticlePress" "linesOfHymn" "[I", Cond.fieldLink RX0 22 "CanticlePress" "turnsOfHymn" "[I", Cond.methodLink RX0 74 yX0_isHymn, Cond.instanceMethod yX0_isHymn, Cond.selects RX0 yX0_isHymn yX0_isHymn, Cond.code yX0_isHymn cX0_isHymn 2 (some .boolean), Cond.fieldLink RX0 63 "CanticlePress" "hymnCount" "I", Cond.methodLink RX0 52 yX0_isBetween, Cond.static yX0_isBetween, Cond.code yX0_isBetween cX0_isBetween 3 (some .boolean), Cond.methodLink RX0 56 yX0_needIndex, Cond.static yX0_needIndex, Cond.code yX0_needIndex cX0_needIndex 1 none, Cond.classLink RX0 174 "java/lang/IndexOutOfBoundsException", Cond.initialized "java/lang/IndexOutOfBoundsException", Cond.methodLink RX0 82 yJ6_bitCount_0f7a4, Cond.static yJ6_bitCount_0f7a4, Cond.initialized RJ6]
def wsL_pageOf_r2 : List Cond := [Cond.code yJ6_bitCount_0f7a4 cJ6_bitCount_0f7a4 1 (some .int), Cond.constant RJ6 265 (1431655765), Cond.constant RJ6 266 (858993459), Cond.constant RJ6 267 (252645135)]
def wsL_pageOf : List Cond := .codeWith yL_pageOf cL_pageOf 5 (some .int) [(0, 10, 13, 13)] :: ((wsL_pageOf_r1 ++ wsL_pageOf_r2) ++ wsX00 ++ (vx_at0 RX0 176 "java/lang/IndexOutOfBoundsException" ["java/lang/RuntimeException", "java/lang/Exception"]).filter goodWord)
def wsL_badTurns_r1 : List Cond := [Cond.classLink RL 13 "java/lang/IndexOutOfBoundsException", Cond.methodLink RL 27 yX0_badTurns, Cond.instanceMethod yX0_badTurns, Cond.selects RX0 yX0_badTurns yX0_badTurns, Cond.initialized RX0, Cond.code yX0_badTurns cX0_badTurns 2 (some .int), Cond.fieldLink RX0 22 "CanticlePress" "turnsOfHymn" "[I", Cond.fieldLink RX0 19 "CanticlePress" "restsOfHymn" "[I", Cond.methodLink RX0 74 yX0_isHymn, Cond.instanceMethod yX0_isHymn, Cond.selects RX0 yX0_isHymn yX0_isHymn, Cond.code yX0_isHymn cX0_isHymn 2 (some .boolean), Cond.fieldLink RX0 63 "CanticlePress" "hymnCount" "I", Cond.methodLink RX0 52 yX0_isBetween, Cond.static yX0_isBetween, Cond.code yX0_isBetween cX0_isBetween 3 (some .boolean), Cond.methodLink RX0 56 yX0_needIndex, Cond.static yX0_needIndex, Cond.code yX0_needIndex cX0_needIndex 1 none, Cond.classLink RX0 174 "java/lang/IndexOutOfBoundsException", Cond.initialized "java/lang/IndexOutOfBoundsException", Cond.methodLink RX0 82 yJ6_bitCount_0f7a4, Cond.static yJ6_bitCount_0f7a4, Cond.initialized RJ6]
def wsL_badTurns_r2 : List Cond := [Cond.code yJ6_bitCount_0f7a4 cJ6_bitCount_0f7a4 1 (some .int), Cond.constant RJ6 265 (1431655765), Cond.constant RJ6 266 (858993459), Cond.constant RJ6 267 (252645135)]
def wsL_badTurns : List Cond := .codeWith yL_badTurns cL_badTurns 4 (some .int) [(0, 9, 12, 13)] :: ((wsL_badTurns_r1 ++ wsL_badTurns_r2) ++ wsX00 ++ (vx_at0 RX0 176 "java/lang/IndexOutOfBoundsException" ["java/lang/RuntimeException", "java/lang/Exception"]).filter goodWord)
def wsL_right_r1 : List Cond := [Cond.classLink RL 13 "java/lang/IndexOutOfBoundsException", Cond.classLink RL 15 "java/lang/IllegalArgumentException", Cond.classLink RL 17 "java/lang/IllegalStateException", Cond.methodLink RL 30 yX0_right, Cond.instanceMethod yX0_right, Cond.selects RX0 yX0_right yX0_right, Cond.initialized RX0, Cond.code yX0_right cX0_right 6 (some .int), Cond.fieldLink RX0 100 "CanticlePress" "rightCount" "I", Cond.fieldLink RX0 31 "CanticlePress" "hymnOfRight" "[I", Cond.fieldLink RX0 34 "CanticlePress" "useOfRight" "[I", Cond.fieldLink RX0 37 "CanticlePress" "firstOfRight" "[I", Cond.fieldLink RX0 40 "CanticlePress" "lastOfRight" "[I", Cond.methodLink RX0 74 yX0_isHymn, Cond.instanceMethod yX0_isHymn, Cond.selects RX0 yX0_isHymn yX0_isHymn, Cond.code yX0_isHymn cX0_isHymn 2 (some .boolean), Cond.fieldLink RX0 63 "CanticlePress" "hymnCount" "I", Cond.methodLink RX0 52 yX0_isBetween, Cond.static yX0_isBetween, Cond.code yX0_isBetween cX0_isBetween 3 (some .boolean), Cond.methodLink RX0 56 yX0_needIndex, Cond.static yX0_needIndex, Cond.code yX0_needIndex cX0_needIndex 1 none]
def wsL_right_r2 : List Cond := [Cond.classLink RX0 174 "java/lang/IndexOutOfBoundsException", Cond.initialized "java/lang/IndexOutOfBoundsException", Cond.methodLink RX0 94 yX0_isUse, Cond.static yX0_isUse, Cond.code yX0_isUse cX0_isUse 1 (some .boolean), Cond.methodLink RX0 97 yX0_isDay, Cond.static yX0_isDay, Cond.code yX0_isDay cX0_isDay 1 (some .boolean), Cond.methodLink RX0 60 yX0_needArgument, Cond.static yX0_needArgument, Cond.code yX0_needArgument cX0_needArgument 1 none, Cond.classLink RX0 177 "java/lang/IllegalArgumentException", Cond.initialized "java/lang/IllegalArgumentException", Cond.methodLink RX0 67 yX0_needState, Cond.static yX0_needState, Cond.code yX0_needState cX0_needState 1 none, Cond.classLink RX0 180 "java/lang/IllegalStateException", Cond.initialized "java/lang/IllegalStateException"]
def wsL_right : List Cond := .codeWith yL_right cL_right 7 (some .int) [(0, 14, 17, 13), (0, 14, 21, 15), (0, 14, 25, 17)] :: ((wsL_right_r1 ++ wsL_right_r2) ++ wsX00 ++ (vx_at0 RX0 176 "java/lang/IndexOutOfBoundsException" ["java/lang/RuntimeException", "java/lang/Exception"]).filter goodWord ++ (vx_at0 RX0 179 "java/lang/IllegalArgumentException" ["java/lang/RuntimeException", "java/lang/Exception"]).filter goodWord ++ (vx_at0 RX0 182 "java/lang/IllegalStateException" ["java/lang/RuntimeException", "java/lang/Exception"]).filter goodWord)
def wsL_end_r1 : List Cond := [Cond.classLink RL 13 "java/lang/IndexOutOfBoundsException", Cond.classLink RL 15 "java/lang/IllegalArgumentException", Cond.classLink RL 17 "java/lang/IllegalStateException", Cond.methodLink RL 33 yX0_end, Cond.instanceMethod yX0_end, Cond.selects RX0 yX0_end yX0_end, Cond.initialized RX0, Cond.code yX0_end cX0_end 5 (some .int), Cond.fieldLink RX0 100 "CanticlePress" "rightCount" "I", Cond.fieldLink RX0 103 "CanticlePress" "today" "I", Cond.fieldLink RX0 40 "CanticlePress" "lastOfRight" "[I", Cond.methodLink RX0 52 yX0_isBetween, Cond.static yX0_isBetween, Cond.code yX0_isBetween cX0_isBetween 3 (some .boolean), Cond.methodLink RX0 56 yX0_needIndex, Cond.static yX0_needIndex, Cond.code yX0_needIndex cX0_needIndex 1 none, Cond.classLink RX0 174 "java/lang/IndexOutOfBoundsException", Cond.initialized "java/lang/IndexOutOfBoundsException", Cond.methodLink RX0 60 yX0_needArgument, Cond.static yX0_needArgument, Cond.code yX0_needArgument cX0_needArgument 1 none, Cond.classLink RX0 177 "java/lang/IllegalArgumentException", Cond.initialized "java/lang/IllegalArgumentException"]
def wsL_end_r2 : List Cond := [Cond.methodLink RX0 67 yX0_needState, Cond.static yX0_needState, Cond.code yX0_needState cX0_needState 1 none, Cond.classLink RX0 180 "java/lang/IllegalStateException", Cond.initialized "java/lang/IllegalStateException", Cond.methodLink RX0 106 yX0_silenceServicesWithoutRight, Cond.instanceMethod yX0_silenceServicesWithoutRight, Cond.selects RX0 yX0_silenceServicesWithoutRight yX0_silenceServicesWithoutRight, Cond.code yX0_silenceServicesWithoutRight cX0_silenceServicesWithoutRight 4 (some .long), Cond.fieldLink RX0 131 "CanticlePress" "serviceCount" "I", Cond.fieldLink RX0 49 "CanticlePress" "hymnOfService" "[I", Cond.methodLink RX0 165 yX0_hasLostItsRight, Cond.instanceMethod yX0_hasLostItsRight, Cond.selects RX0 yX0_hasLostItsRight yX0_hasLostItsRight, Cond.code yX0_hasLostItsRight cX0_hasLostItsRight 4 (some .boolean), Cond.fieldLink RX0 46 "CanticlePress" "dayOfService" "[I", Cond.methodLink RX0 119 yX0_isAllowed, Cond.instanceMethod yX0_isAllowed, Cond.selects RX0 yX0_isAllowed yX0_isAllowed, Cond.code yX0_isAllowed cX0_isAllowed 5 (some .boolean), Cond.fieldLink RX0 31 "CanticlePress" "hymnOfRight" "[I", Cond.fieldLink RX0 34 "CanticlePress" "useOfRight" "[I", Cond.fieldLink RX0 37 "CanticlePress" "firstOfRight" "[I", Cond.methodLink RX0 110 yX0_planEach]
def wsL_end_r3 : List Cond := [Cond.instanceMethod yX0_planEach, Cond.selects RX0 yX0_planEach yX0_planEach, Cond.code yX0_planEach cX0_planEach 4 none, Cond.methodLink RX0 90 yX0_isInSet, Cond.static yX0_isInSet, Cond.code yX0_isInSet cX0_isInSet 3 (some .boolean), Cond.methodLink RX0 138 yX0_planAnew, Cond.instanceMethod yX0_planAnew, Cond.selects RX0 yX0_planAnew yX0_planAnew, Cond.code yX0_planAnew cX0_planAnew 2 none, Cond.fieldLink RX0 43 "CanticlePress" "choirOfService" "[I", Cond.methodLink RX0 145 yX0_bestHymn, Cond.instanceMethod yX0_bestHymn, Cond.selects RX0 yX0_bestHymn yX0_bestHymn, Cond.code yX0_bestHymn cX0_bestHymn 7 (some .int), Cond.fieldLink RX0 63 "CanticlePress" "hymnCount" "I", Cond.methodLink RX0 148 yX0_isSuitable, Cond.instanceMethod yX0_isSuitable, Cond.selects RX0 yX0_isSuitable yX0_isSuitable, Cond.code yX0_isSuitable cX0_isSuitable 4 (some .boolean), Cond.fieldLink RX0 25 "CanticlePress" "choirsOfHymn" "[I", Cond.fieldLink RX0 13 "CanticlePress" "seasonsOfHymn" "[I", Cond.methodLink RX0 154 yX0_seasonOf, Cond.static yX0_seasonOf]
def wsL_end_r4 : List Cond := [Cond.code yX0_seasonOf cX0_seasonOf 1 (some .int), Cond.methodLink RX0 157 yX0_isRested, Cond.instanceMethod yX0_isRested, Cond.selects RX0 yX0_isRested yX0_isRested, Cond.code yX0_isRested cX0_isRested 5 (some .boolean), Cond.methodLink RX0 160 Lib.Math.abs.name, Cond.static Lib.Math.abs.name, Cond.initialized "java/lang/Math", Cond.code Lib.Math.abs.name Lib.Math.abs.code 1 (some .int), Cond.methodLink RX0 151 yX0_servicesWith, Cond.instanceMethod yX0_servicesWith, Cond.selects RX0 yX0_servicesWith yX0_servicesWith, Cond.code yX0_servicesWith cX0_servicesWith 4 (some .int), Cond.methodLink RX0 114 yJ13_bitCount_95d88, Cond.static yJ13_bitCount_95d88, Cond.initialized RJ13, Cond.code yJ13_bitCount_95d88 cJ13_bitCount_95d88 2 (some .int), Cond.constantLong RJ13 314 (6148914691236517205), Cond.constantLong RJ13 316 (3689348814741910323), Cond.constantLong RJ13 318 (1085102592571150095)]
def wsL_end : List Cond := .codeWith yL_end cL_end 5 (some .int) [(0, 10, 13, 13), (0, 10, 17, 15), (0, 10, 21, 17)] :: ((wsL_end_r1 ++ (wsL_end_r2 ++ (wsL_end_r3 ++ wsL_end_r4))) ++ wsX00 ++ (vx_at0 RX0 176 "java/lang/IndexOutOfBoundsException" ["java/lang/RuntimeException", "java/lang/Exception"]).filter goodWord ++ (vx_at0 RX0 179 "java/lang/IllegalArgumentException" ["java/lang/RuntimeException", "java/lang/Exception"]).filter goodWord ++ (vx_at0 RX0 182 "java/lang/IllegalStateException" ["java/lang/RuntimeException", "java/lang/Exception"]).filter goodWord)
def wsL_hasRight_r1 : List Cond := [Cond.classLink RL 13 "java/lang/IndexOutOfBoundsException", Cond.classLink RL 15 "java/lang/IllegalArgumentException", Cond.methodLink RL 36 yX0_hasRight, Cond.instanceMethod yX0_hasRight, Cond.selects RX0 yX0_hasRight yX0_hasRight, Cond.initialized RX0, Cond.code yX0_hasRight cX0_hasRight 4 (some .boolean), Cond.methodLink RX0 74 yX0_isHymn, Cond.instanceMethod yX0_isHymn, Cond.selects RX0 yX0_isHymn yX0_isHymn, Cond.code yX0_isHymn cX0_isHymn 2 (some .boolean), Cond.fieldLink RX0 63 "CanticlePress" "hymnCount" "I", Cond.methodLink RX0 52 yX0_isBetween, Cond.static yX0_isBetween, Cond.code yX0_isBetween cX0_isBetween 3 (some .boolean), Cond.methodLink RX0 56 yX0_needIndex, Cond.static yX0_needIndex, Cond.code yX0_needIndex cX0_needIndex 1 none, Cond.classLink RX0 174 "java/lang/IndexOutOfBoundsException", Cond.initialized "java/lang/IndexOutOfBoundsException", Cond.methodLink RX0 94 yX0_isUse, Cond.static yX0_isUse, Cond.code yX0_isUse cX0_isUse 1 (some .boolean), Cond.methodLink RX0 97 yX0_isDay]
def wsL_hasRight_r2 : List Cond := [Cond.static yX0_isDay, Cond.code yX0_isDay cX0_isDay 1 (some .boolean), Cond.methodLink RX0 60 yX0_needArgument, Cond.static yX0_needArgument, Cond.code yX0_needArgument cX0_needArgument 1 none, Cond.classLink RX0 177 "java/lang/IllegalArgumentException", Cond.initialized "java/lang/IllegalArgumentException", Cond.methodLink RX0 119 yX0_isAllowed, Cond.instanceMethod yX0_isAllowed, Cond.selects RX0 yX0_isAllowed yX0_isAllowed, Cond.code yX0_isAllowed cX0_isAllowed 5 (some .boolean), Cond.fieldLink RX0 100 "CanticlePress" "rightCount" "I", Cond.fieldLink RX0 31 "CanticlePress" "hymnOfRight" "[I", Cond.fieldLink RX0 34 "CanticlePress" "useOfRight" "[I", Cond.fieldLink RX0 37 "CanticlePress" "firstOfRight" "[I", Cond.fieldLink RX0 40 "CanticlePress" "lastOfRight" "[I"]
def wsL_hasRight : List Cond := .codeWith yL_hasRight cL_hasRight 6 (some .int) [(0, 19, 22, 13), (0, 19, 26, 15)] :: ((wsL_hasRight_r1 ++ wsL_hasRight_r2) ++ wsX00 ++ (vx_at0 RX0 176 "java/lang/IndexOutOfBoundsException" ["java/lang/RuntimeException", "java/lang/Exception"]).filter goodWord ++ (vx_at0 RX0 179 "java/lang/IllegalArgumentException" ["java/lang/RuntimeException", "java/lang/Exception"]).filter goodWord)
def wsL_print_r1 : List Cond := [Cond.classLink RL 13 "java/lang/IndexOutOfBoundsException", Cond.classLink RL 15 "java/lang/IllegalArgumentException", Cond.classLink RL 17 "java/lang/IllegalStateException", Cond.methodLink RL 40 yX0_print, Cond.instanceMethod yX0_print, Cond.selects RX0 yX0_print yX0_print, Cond.initialized RX0, Cond.code yX0_print cX0_print 3 (some .int), Cond.fieldLink RX0 103 "CanticlePress" "today" "I", Cond.fieldLink RX0 28 "CanticlePress" "copiesOfHymnInYear" "[I", Cond.methodLink RX0 74 yX0_isHymn, Cond.instanceMethod yX0_isHymn, Cond.selects RX0 yX0_isHymn yX0_isHymn, Cond.code yX0_isHymn cX0_isHymn 2 (some .boolean), Cond.fieldLink RX0 63 "CanticlePress" "hymnCount" "I", Cond.methodLink RX0 52 yX0_isBetween, Cond.static yX0_isBetween, Cond.code yX0_isBetween cX0_isBetween 3 (some .boolean), Cond.methodLink RX0 56 yX0_needIndex, Cond.static yX0_needIndex, Cond.code yX0_needIndex cX0_needIndex 1 none, Cond.classLink RX0 174 "java/lang/IndexOutOfBoundsException", Cond.initialized "java/lang/IndexOutOfBoundsException", Cond.methodLink RX0 60 yX0_needArgument]
def wsL_print_r2 : List Cond := [Cond.static yX0_needArgument, Cond.code yX0_needArgument cX0_needArgument 1 none, Cond.classLink RX0 177 "java/lang/IllegalArgumentException", Cond.initialized "java/lang/IllegalArgumentException", Cond.methodLink RX0 119 yX0_isAllowed, Cond.instanceMethod yX0_isAllowed, Cond.selects RX0 yX0_isAllowed yX0_isAllowed, Cond.code yX0_isAllowed cX0_isAllowed 5 (some .boolean), Cond.fieldLink RX0 100 "CanticlePress" "rightCount" "I", Cond.fieldLink RX0 31 "CanticlePress" "hymnOfRight" "[I", Cond.fieldLink RX0 34 "CanticlePress" "useOfRight" "[I", Cond.fieldLink RX0 37 "CanticlePress" "firstOfRight" "[I", Cond.fieldLink RX0 40 "CanticlePress" "lastOfRight" "[I", Cond.methodLink RX0 67 yX0_needState, Cond.static yX0_needState, Cond.code yX0_needState cX0_needState 1 none, Cond.classLink RX0 180 "java/lang/IllegalStateException", Cond.initialized "java/lang/IllegalStateException", Cond.methodLink RX0 122 yX0_yearOf, Cond.static yX0_yearOf, Cond.code yX0_yearOf cX0_yearOf 1 (some .int), Cond.methodLink RX0 78 yX0_pageCount, Cond.instanceMethod yX0_pageCount, Cond.selects RX0 yX0_pageCount yX0_pageCount]
def wsL_print_r3 : List Cond := [Cond.code yX0_pageCount cX0_pageCount 2 (some .int), Cond.fieldLink RX0 22 "CanticlePress" "turnsOfHymn" "[I", Cond.methodLink RX0 82 yJ6_bitCount_0f7a4, Cond.static yJ6_bitCount_0f7a4, Cond.initialized RJ6, Cond.code yJ6_bitCount_0f7a4 cJ6_bitCount_0f7a4 1 (some .int), Cond.constant RJ6 265 (1431655765), Cond.constant RJ6 266 (858993459), Cond.constant RJ6 267 (252645135)]
def wsL_print : List Cond := .codeWith yL_print cL_print 5 (some .int) [(0, 10, 13, 13), (0, 10, 17, 15), (0, 10, 21, 17)] :: ((wsL_print_r1 ++ (wsL_print_r2 ++ wsL_print_r3)) ++ wsX00 ++ (vx_at0 RX0 176 "java/lang/IndexOutOfBoundsException" ["java/lang/RuntimeException", "java/lang/Exception"]).filter goodWord ++ (vx_at0 RX0 179 "java/lang/IllegalArgumentException" ["java/lang/RuntimeException", "java/lang/Exception"]).filter goodWord ++ (vx_at0 RX0 182 "java/lang/IllegalStateException" ["java/lang/RuntimeException", "java/lang/Exception"]).filter goodWord)
def wsL_printed : List Cond := .codeWith yL_printed cL_printed 5 (some .int) [(0, 10, 13, 13)] :: ([.classLink RL 13 "java/lang/IndexOutOfBoundsException", .methodLink RL 43 yX0_printed, .instanceMethod yX0_printed, .selects RX0 yX0_printed yX0_printed, .initialized RX0, .code yX0_printed cX0_printed 3 (some .int), .fieldLink RX0 28 "CanticlePress" "copiesOfHymnInYear" "[I", .methodLink RX0 74 yX0_isHymn, .instanceMethod yX0_isHymn, .selects RX0 yX0_isHymn yX0_isHymn, .code yX0_isHymn cX0_isHymn 2 (some .boolean), .fieldLink RX0 63 "CanticlePress" "hymnCount" "I", .methodLink RX0 52 yX0_isBetween, .static yX0_isBetween, .code yX0_isBetween cX0_isBetween 3 (some .boolean), .methodLink RX0 56 yX0_needIndex, .static yX0_needIndex, .code yX0_needIndex cX0_needIndex 1 none, .classLink RX0 174 "java/lang/IndexOutOfBoundsException", .initialized "java/lang/IndexOutOfBoundsException", .methodLink RX0 125 yX0_isYear, .static yX0_isYear, .code yX0_isYear cX0_isYear 1 (some .boolean)] ++ wsX00 ++ (vx_at0 RX0 176 "java/lang/IndexOutOfBoundsException" ["java/lang/RuntimeException", "java/lang/Exception"]).filter goodWord)
def wsL_learn_r1 : List Cond := [Cond.classLink RL 13 "java/lang/IndexOutOfBoundsException", Cond.methodLink RL 46 yX0_learn, Cond.instanceMethod yX0_learn, Cond.selects RX0 yX0_learn yX0_learn, Cond.initialized RX0, Cond.code yX0_learn cX0_learn 3 (some .boolean), Cond.fieldLink RX0 25 "CanticlePress" "choirsOfHymn" "[I", Cond.methodLink RX0 128 yX0_isChoir, Cond.static yX0_isChoir, Cond.code yX0_isChoir cX0_isChoir 1 (some .boolean), Cond.methodLink RX0 52 yX0_isBetween, Cond.static yX0_isBetween, Cond.code yX0_isBetween cX0_isBetween 3 (some .boolean), Cond.methodLink RX0 56 yX0_needIndex, Cond.static yX0_needIndex, Cond.code yX0_needIndex cX0_needIndex 1 none, Cond.classLink RX0 174 "java/lang/IndexOutOfBoundsException", Cond.initialized "java/lang/IndexOutOfBoundsException", Cond.methodLink RX0 74 yX0_isHymn, Cond.instanceMethod yX0_isHymn, Cond.selects RX0 yX0_isHymn yX0_isHymn, Cond.code yX0_isHymn cX0_isHymn 2 (some .boolean), Cond.fieldLink RX0 63 "CanticlePress" "hymnCount" "I", Cond.methodLink RX0 90 yX0_isInSet]
def wsL_learn_r2 : List Cond := [Cond.static yX0_isInSet, Cond.code yX0_isInSet cX0_isInSet 3 (some .boolean)]
def wsL_learn : List Cond := .codeWith yL_learn cL_learn 5 (some .int) [(0, 17, 20, 13)] :: ((wsL_learn_r1 ++ wsL_learn_r2) ++ wsX00 ++ (vx_at0 RX0 176 "java/lang/IndexOutOfBoundsException" ["java/lang/RuntimeException", "java/lang/Exception"]).filter goodWord)
def wsL_service_r1 : List Cond := [Cond.classLink RL 13 "java/lang/IndexOutOfBoundsException", Cond.classLink RL 15 "java/lang/IllegalArgumentException", Cond.classLink RL 17 "java/lang/IllegalStateException", Cond.methodLink RL 50 yX0_service, Cond.instanceMethod yX0_service, Cond.selects RX0 yX0_service yX0_service, Cond.initialized RX0, Cond.code yX0_service cX0_service 4 (some .int), Cond.fieldLink RX0 103 "CanticlePress" "today" "I", Cond.fieldLink RX0 131 "CanticlePress" "serviceCount" "I", Cond.fieldLink RX0 43 "CanticlePress" "choirOfService" "[I", Cond.fieldLink RX0 46 "CanticlePress" "dayOfService" "[I", Cond.methodLink RX0 128 yX0_isChoir, Cond.static yX0_isChoir, Cond.code yX0_isChoir cX0_isChoir 1 (some .boolean), Cond.methodLink RX0 52 yX0_isBetween, Cond.static yX0_isBetween, Cond.code yX0_isBetween cX0_isBetween 3 (some .boolean), Cond.methodLink RX0 56 yX0_needIndex, Cond.static yX0_needIndex, Cond.code yX0_needIndex cX0_needIndex 1 none, Cond.classLink RX0 174 "java/lang/IndexOutOfBoundsException", Cond.initialized "java/lang/IndexOutOfBoundsException", Cond.methodLink RX0 60 yX0_needArgument]
def wsL_service_r2 : List Cond := [Cond.static yX0_needArgument, Cond.code yX0_needArgument cX0_needArgument 1 none, Cond.classLink RX0 177 "java/lang/IllegalArgumentException", Cond.initialized "java/lang/IllegalArgumentException", Cond.methodLink RX0 67 yX0_needState, Cond.static yX0_needState, Cond.code yX0_needState cX0_needState 1 none, Cond.classLink RX0 180 "java/lang/IllegalStateException", Cond.initialized "java/lang/IllegalStateException", Cond.methodLink RX0 134 yX0_hasServiceOn, Cond.instanceMethod yX0_hasServiceOn, Cond.selects RX0 yX0_hasServiceOn yX0_hasServiceOn, Cond.code yX0_hasServiceOn cX0_hasServiceOn 4 (some .boolean), Cond.methodLink RX0 138 yX0_planAnew, Cond.instanceMethod yX0_planAnew, Cond.selects RX0 yX0_planAnew yX0_planAnew, Cond.code yX0_planAnew cX0_planAnew 2 none, Cond.fieldLink RX0 49 "CanticlePress" "hymnOfService" "[I", Cond.methodLink RX0 145 yX0_bestHymn, Cond.instanceMethod yX0_bestHymn, Cond.selects RX0 yX0_bestHymn yX0_bestHymn, Cond.code yX0_bestHymn cX0_bestHymn 7 (some .int), Cond.fieldLink RX0 63 "CanticlePress" "hymnCount" "I", Cond.methodLink RX0 148 yX0_isSuitable]
def wsL_service_r3 : List Cond := [Cond.instanceMethod yX0_isSuitable, Cond.selects RX0 yX0_isSuitable yX0_isSuitable, Cond.code yX0_isSuitable cX0_isSuitable 4 (some .boolean), Cond.fieldLink RX0 25 "CanticlePress" "choirsOfHymn" "[I", Cond.fieldLink RX0 13 "CanticlePress" "seasonsOfHymn" "[I", Cond.methodLink RX0 90 yX0_isInSet, Cond.static yX0_isInSet, Cond.code yX0_isInSet cX0_isInSet 3 (some .boolean), Cond.methodLink RX0 154 yX0_seasonOf, Cond.static yX0_seasonOf, Cond.code yX0_seasonOf cX0_seasonOf 1 (some .int), Cond.methodLink RX0 119 yX0_isAllowed, Cond.instanceMethod yX0_isAllowed, Cond.selects RX0 yX0_isAllowed yX0_isAllowed, Cond.code yX0_isAllowed cX0_isAllowed 5 (some .boolean), Cond.fieldLink RX0 100 "CanticlePress" "rightCount" "I", Cond.fieldLink RX0 31 "CanticlePress" "hymnOfRight" "[I", Cond.fieldLink RX0 34 "CanticlePress" "useOfRight" "[I", Cond.fieldLink RX0 37 "CanticlePress" "firstOfRight" "[I", Cond.fieldLink RX0 40 "CanticlePress" "lastOfRight" "[I", Cond.methodLink RX0 157 yX0_isRested, Cond.instanceMethod yX0_isRested, Cond.selects RX0 yX0_isRested yX0_isRested, Cond.code yX0_isRested cX0_isRested 5 (some .boolean)]
def wsL_service_r4 : List Cond := [Cond.methodLink RX0 160 Lib.Math.abs.name, Cond.static Lib.Math.abs.name, Cond.initialized "java/lang/Math", Cond.code Lib.Math.abs.name Lib.Math.abs.code 1 (some .int), Cond.methodLink RX0 151 yX0_servicesWith, Cond.instanceMethod yX0_servicesWith, Cond.selects RX0 yX0_servicesWith yX0_servicesWith, Cond.code yX0_servicesWith cX0_servicesWith 4 (some .int)]
def wsL_service : List Cond := .codeWith yL_service cL_service 5 (some .int) [(0, 10, 13, 13), (0, 10, 17, 15), (0, 10, 21, 17)] :: ((wsL_service_r1 ++ (wsL_service_r2 ++ (wsL_service_r3 ++ wsL_service_r4))) ++ wsX00 ++ (vx_at0 RX0 176 "java/lang/IndexOutOfBoundsException" ["java/lang/RuntimeException", "java/lang/Exception"]).filter goodWord ++ (vx_at0 RX0 179 "java/lang/IllegalArgumentException" ["java/lang/RuntimeException", "java/lang/Exception"]).filter goodWord ++ (vx_at0 RX0 182 "java/lang/IllegalStateException" ["java/lang/RuntimeException", "java/lang/Exception"]).filter goodWord)
def wsL_plan_r1 : List Cond := [Cond.classLink RL 13 "java/lang/IndexOutOfBoundsException", Cond.classLink RL 17 "java/lang/IllegalStateException", Cond.methodLink RL 53 yX0_plan, Cond.instanceMethod yX0_plan, Cond.selects RX0 yX0_plan yX0_plan, Cond.initialized RX0, Cond.code yX0_plan cX0_plan 2 (some .int), Cond.fieldLink RX0 46 "CanticlePress" "dayOfService" "[I", Cond.fieldLink RX0 103 "CanticlePress" "today" "I", Cond.fieldLink RX0 49 "CanticlePress" "hymnOfService" "[I", Cond.methodLink RX0 142 yX0_isService, Cond.instanceMethod yX0_isService, Cond.selects RX0 yX0_isService yX0_isService, Cond.code yX0_isService cX0_isService 2 (some .boolean), Cond.fieldLink RX0 131 "CanticlePress" "serviceCount" "I", Cond.methodLink RX0 52 yX0_isBetween, Cond.static yX0_isBetween, Cond.code yX0_isBetween cX0_isBetween 3 (some .boolean), Cond.methodLink RX0 56 yX0_needIndex, Cond.static yX0_needIndex, Cond.code yX0_needIndex cX0_needIndex 1 none, Cond.classLink RX0 174 "java/lang/IndexOutOfBoundsException", Cond.initialized "java/lang/IndexOutOfBoundsException", Cond.methodLink RX0 67 yX0_needState]
def wsL_plan_r2 : List Cond := [Cond.static yX0_needState, Cond.code yX0_needState cX0_needState 1 none, Cond.classLink RX0 180 "java/lang/IllegalStateException", Cond.initialized "java/lang/IllegalStateException", Cond.methodLink RX0 138 yX0_planAnew, Cond.instanceMethod yX0_planAnew, Cond.selects RX0 yX0_planAnew yX0_planAnew, Cond.code yX0_planAnew cX0_planAnew 2 none, Cond.fieldLink RX0 43 "CanticlePress" "choirOfService" "[I", Cond.methodLink RX0 145 yX0_bestHymn, Cond.instanceMethod yX0_bestHymn, Cond.selects RX0 yX0_bestHymn yX0_bestHymn, Cond.code yX0_bestHymn cX0_bestHymn 7 (some .int), Cond.fieldLink RX0 63 "CanticlePress" "hymnCount" "I", Cond.methodLink RX0 148 yX0_isSuitable, Cond.instanceMethod yX0_isSuitable, Cond.selects RX0 yX0_isSuitable yX0_isSuitable, Cond.code yX0_isSuitable cX0_isSuitable 4 (some .boolean), Cond.fieldLink RX0 25 "CanticlePress" "choirsOfHymn" "[I", Cond.fieldLink RX0 13 "CanticlePress" "seasonsOfHymn" "[I", Cond.methodLink RX0 90 yX0_isInSet, Cond.static yX0_isInSet, Cond.code yX0_isInSet cX0_isInSet 3 (some .boolean), Cond.methodLink RX0 154 yX0_seasonOf]
def wsL_plan_r3 : List Cond := [Cond.static yX0_seasonOf, Cond.code yX0_seasonOf cX0_seasonOf 1 (some .int), Cond.methodLink RX0 119 yX0_isAllowed, Cond.instanceMethod yX0_isAllowed, Cond.selects RX0 yX0_isAllowed yX0_isAllowed, Cond.code yX0_isAllowed cX0_isAllowed 5 (some .boolean), Cond.fieldLink RX0 100 "CanticlePress" "rightCount" "I", Cond.fieldLink RX0 31 "CanticlePress" "hymnOfRight" "[I", Cond.fieldLink RX0 34 "CanticlePress" "useOfRight" "[I", Cond.fieldLink RX0 37 "CanticlePress" "firstOfRight" "[I", Cond.fieldLink RX0 40 "CanticlePress" "lastOfRight" "[I", Cond.methodLink RX0 157 yX0_isRested, Cond.instanceMethod yX0_isRested, Cond.selects RX0 yX0_isRested yX0_isRested, Cond.code yX0_isRested cX0_isRested 5 (some .boolean), Cond.methodLink RX0 160 Lib.Math.abs.name, Cond.static Lib.Math.abs.name, Cond.initialized "java/lang/Math", Cond.code Lib.Math.abs.name Lib.Math.abs.code 1 (some .int), Cond.methodLink RX0 151 yX0_servicesWith, Cond.instanceMethod yX0_servicesWith, Cond.selects RX0 yX0_servicesWith yX0_servicesWith, Cond.code yX0_servicesWith cX0_servicesWith 4 (some .int)]
def wsL_plan : List Cond := .codeWith yL_plan cL_plan 4 (some .int) [(0, 9, 12, 13), (0, 9, 15, 17)] :: ((wsL_plan_r1 ++ (wsL_plan_r2 ++ wsL_plan_r3)) ++ wsX00 ++ (vx_at0 RX0 176 "java/lang/IndexOutOfBoundsException" ["java/lang/RuntimeException", "java/lang/Exception"]).filter goodWord ++ (vx_at0 RX0 182 "java/lang/IllegalStateException" ["java/lang/RuntimeException", "java/lang/Exception"]).filter goodWord)
def wsL_hymnOf : List Cond := .codeWith yL_hymnOf cL_hymnOf 4 (some .int) [(0, 9, 12, 13)] :: ([.classLink RL 13 "java/lang/IndexOutOfBoundsException", .methodLink RL 56 yX0_hymnOf, .instanceMethod yX0_hymnOf, .selects RX0 yX0_hymnOf yX0_hymnOf, .initialized RX0, .code yX0_hymnOf cX0_hymnOf 2 (some .int), .fieldLink RX0 49 "CanticlePress" "hymnOfService" "[I", .methodLink RX0 142 yX0_isService, .instanceMethod yX0_isService, .selects RX0 yX0_isService yX0_isService, .code yX0_isService cX0_isService 2 (some .boolean), .fieldLink RX0 131 "CanticlePress" "serviceCount" "I", .methodLink RX0 52 yX0_isBetween, .static yX0_isBetween, .code yX0_isBetween cX0_isBetween 3 (some .boolean), .methodLink RX0 56 yX0_needIndex, .static yX0_needIndex, .code yX0_needIndex cX0_needIndex 1 none, .classLink RX0 174 "java/lang/IndexOutOfBoundsException", .initialized "java/lang/IndexOutOfBoundsException"] ++ wsX00 ++ (vx_at0 RX0 176 "java/lang/IndexOutOfBoundsException" ["java/lang/RuntimeException", "java/lang/Exception"]).filter goodWord)
def wsL_sung_r1 : List Cond := [Cond.classLink RL 13 "java/lang/IndexOutOfBoundsException", Cond.methodLink RL 59 yX0_sung, Cond.instanceMethod yX0_sung, Cond.selects RX0 yX0_sung yX0_sung, Cond.initialized RX0, Cond.code yX0_sung cX0_sung 6 (some .int), Cond.fieldLink RX0 131 "CanticlePress" "serviceCount" "I", Cond.fieldLink RX0 49 "CanticlePress" "hymnOfService" "[I", Cond.fieldLink RX0 9 "CanticlePress" "ownerOfHymn" "[I", Cond.methodLink RX0 52 yX0_isBetween, Cond.static yX0_isBetween, Cond.code yX0_isBetween cX0_isBetween 3 (some .boolean), Cond.methodLink RX0 56 yX0_needIndex, Cond.static yX0_needIndex, Cond.code yX0_needIndex cX0_needIndex 1 none, Cond.classLink RX0 174 "java/lang/IndexOutOfBoundsException", Cond.initialized "java/lang/IndexOutOfBoundsException", Cond.methodLink RX0 125 yX0_isYear, Cond.static yX0_isYear, Cond.code yX0_isYear cX0_isYear 1 (some .boolean), Cond.methodLink RX0 168 yX0_isHeldIn, Cond.instanceMethod yX0_isHeldIn, Cond.selects RX0 yX0_isHeldIn yX0_isHeldIn, Cond.code yX0_isHeldIn cX0_isHeldIn 4 (some .boolean)]
def wsL_sung_r2 : List Cond := [Cond.fieldLink RX0 46 "CanticlePress" "dayOfService" "[I", Cond.fieldLink RX0 103 "CanticlePress" "today" "I", Cond.methodLink RX0 122 yX0_yearOf, Cond.static yX0_yearOf, Cond.code yX0_yearOf cX0_yearOf 1 (some .int), Cond.methodLink RX0 74 yX0_isHymn, Cond.instanceMethod yX0_isHymn, Cond.selects RX0 yX0_isHymn yX0_isHymn, Cond.code yX0_isHymn cX0_isHymn 2 (some .boolean), Cond.fieldLink RX0 63 "CanticlePress" "hymnCount" "I"]
def wsL_sung : List Cond := .codeWith yL_sung cL_sung 5 (some .int) [(0, 10, 13, 13)] :: ((wsL_sung_r1 ++ wsL_sung_r2) ++ wsX00 ++ (vx_at0 RX0 176 "java/lang/IndexOutOfBoundsException" ["java/lang/RuntimeException", "java/lang/Exception"]).filter goodWord)
def wsL_sungByHymns_r1 : List Cond := [Cond.classLink RL 13 "java/lang/IndexOutOfBoundsException", Cond.methodLink RL 62 yX0_sungByHymns, Cond.instanceMethod yX0_sungByHymns, Cond.selects RX0 yX0_sungByHymns yX0_sungByHymns, Cond.initialized RX0, Cond.code yX0_sungByHymns cX0_sungByHymns 5 (some .int), Cond.fieldLink RX0 63 "CanticlePress" "hymnCount" "I", Cond.fieldLink RX0 9 "CanticlePress" "ownerOfHymn" "[I", Cond.methodLink RX0 52 yX0_isBetween, Cond.static yX0_isBetween, Cond.code yX0_isBetween cX0_isBetween 3 (some .boolean), Cond.methodLink RX0 56 yX0_needIndex, Cond.static yX0_needIndex, Cond.code yX0_needIndex cX0_needIndex 1 none, Cond.classLink RX0 174 "java/lang/IndexOutOfBoundsException", Cond.initialized "java/lang/IndexOutOfBoundsException", Cond.methodLink RX0 125 yX0_isYear, Cond.static yX0_isYear, Cond.code yX0_isYear cX0_isYear 1 (some .boolean), Cond.methodLink RX0 171 yX0_timesSung, Cond.instanceMethod yX0_timesSung, Cond.selects RX0 yX0_timesSung yX0_timesSung, Cond.code yX0_timesSung cX0_timesSung 5 (some .int), Cond.fieldLink RX0 131 "CanticlePress" "serviceCount" "I"]
def wsL_sungByHymns_r2 : List Cond := [Cond.fieldLink RX0 49 "CanticlePress" "hymnOfService" "[I", Cond.methodLink RX0 168 yX0_isHeldIn, Cond.instanceMethod yX0_isHeldIn, Cond.selects RX0 yX0_isHeldIn yX0_isHeldIn, Cond.code yX0_isHeldIn cX0_isHeldIn 4 (some .boolean), Cond.fieldLink RX0 46 "CanticlePress" "dayOfService" "[I", Cond.fieldLink RX0 103 "CanticlePress" "today" "I", Cond.methodLink RX0 122 yX0_yearOf, Cond.static yX0_yearOf, Cond.code yX0_yearOf cX0_yearOf 1 (some .int)]
def wsL_sungByHymns : List Cond := .codeWith yL_sungByHymns cL_sungByHymns 5 (some .int) [(0, 10, 13, 13)] :: ((wsL_sungByHymns_r1 ++ wsL_sungByHymns_r2) ++ wsX00 ++ (vx_at0 RX0 176 "java/lang/IndexOutOfBoundsException" ["java/lang/RuntimeException", "java/lang/Exception"]).filter goodWord)
def wsL_pass : List Cond := .codeWith yL_pass cL_pass 4 (some .int) [(0, 9, 12, 15), (0, 9, 15, 17)] :: ([.classLink RL 15 "java/lang/IllegalArgumentException", .classLink RL 17 "java/lang/IllegalStateException", .methodLink RL 65 yX0_pass, .instanceMethod yX0_pass, .selects RX0 yX0_pass yX0_pass, .initialized RX0, .code yX0_pass cX0_pass 2 (some .int), .fieldLink RX0 103 "CanticlePress" "today" "I", .methodLink RX0 52 yX0_isBetween, .static yX0_isBetween, .code yX0_isBetween cX0_isBetween 3 (some .boolean), .methodLink RX0 60 yX0_needArgument, .static yX0_needArgument, .code yX0_needArgument cX0_needArgument 1 none, .classLink RX0 177 "java/lang/IllegalArgumentException", .initialized "java/lang/IllegalArgumentException", .methodLink RX0 67 yX0_needState, .static yX0_needState, .code yX0_needState cX0_needState 1 none, .classLink RX0 180 "java/lang/IllegalStateException", .initialized "java/lang/IllegalStateException"] ++ wsX00 ++ (vx_at0 RX0 179 "java/lang/IllegalArgumentException" ["java/lang/RuntimeException", "java/lang/Exception"]).filter goodWord ++ (vx_at0 RX0 182 "java/lang/IllegalStateException" ["java/lang/RuntimeException", "java/lang/Exception"]).filter goodWord)
def wsL_law0_r1 : List Cond := [Cond.classLink RL 8 RX0, Cond.instantiable RX0 18, Cond.initialized RX0, Cond.classLink RL 69 RX1, Cond.instantiable RX1 19, Cond.initialized RX1, Cond.arrayClass .long, Cond.methodLink RL 68 yX0_init, Cond.instanceMethod yX0_init, Cond.code yX0_init cX0_init 1 none, Cond.methodLink RX0 1 objectInit, Cond.instanceMethod objectInit, Cond.code objectInit ⟨#[0xb1]⟩ 1 none, Cond.arrayClass .int, Cond.fieldLink RX0 9 "CanticlePress" "ownerOfHymn" "[I", Cond.fieldLink RX0 13 "CanticlePress" "seasonsOfHymn" "[I", Cond.fieldLink RX0 16 "CanticlePress" "linesOfHymn" "[I", Cond.fieldLink RX0 19 "CanticlePress" "restsOfHymn" "[I", Cond.fieldLink RX0 22 "CanticlePress" "turnsOfHymn" "[I", Cond.fieldLink RX0 25 "CanticlePress" "choirsOfHymn" "[I", Cond.fieldLink RX0 28 "CanticlePress" "copiesOfHymnInYear" "[I", Cond.fieldLink RX0 31 "CanticlePress" "hymnOfRight" "[I", Cond.fieldLink RX0 34 "CanticlePress" "useOfRight" "[I", Cond.fieldLink RX0 37 "CanticlePress" "firstOfRight" "[I"]
def wsL_law0_r2 : List Cond := [Cond.fieldLink RX0 40 "CanticlePress" "lastOfRight" "[I", Cond.fieldLink RX0 43 "CanticlePress" "choirOfService" "[I", Cond.fieldLink RX0 46 "CanticlePress" "dayOfService" "[I", Cond.fieldLink RX0 49 "CanticlePress" "hymnOfService" "[I", Cond.methodLink RL 71 yX1_init, Cond.instanceMethod yX1_init, Cond.code yX1_init cX1_init 1 none, Cond.methodLink RX1 1 objectInit, Cond.fieldLink RX1 7 "CanticlePressModel" "owner" "[I", Cond.fieldLink RX1 13 "CanticlePressModel" "seasons" "[I", Cond.fieldLink RX1 16 "CanticlePressModel" "lines" "[I", Cond.fieldLink RX1 19 "CanticlePressModel" "rests" "[I", Cond.fieldLink RX1 22 "CanticlePressModel" "printed" "[I", Cond.fieldLink RX1 25 "CanticlePressModel" "rightHymn" "[I", Cond.fieldLink RX1 28 "CanticlePressModel" "rightUse" "[I", Cond.fieldLink RX1 31 "CanticlePressModel" "first" "[I", Cond.fieldLink RX1 34 "CanticlePressModel" "last" "[I", Cond.fieldLink RX1 37 "CanticlePressModel" "known" "[I", Cond.fieldLink RX1 40 "CanticlePressModel" "choir" "[I", Cond.fieldLink RX1 43 "CanticlePressModel" "day" "[I", Cond.fieldLink RX1 46 "CanticlePressModel" "sung" "[I", Cond.arrayClass .boolean, Cond.fieldLink RX1 49 "CanticlePressModel" "isAnew" "[Z", Cond.methodLink RL 72 yL_hymn]
def wsL_law0_r3 : List Cond := [Cond.static yL_hymn, Cond.initialized RL, Cond.codeWith yL_hymn cL_hymn 7 (some .int) [(0, 14, 17, 13), (0, 14, 21, 15), (0, 14, 25, 17)], Cond.classLink RL 13 "java/lang/IndexOutOfBoundsException", Cond.classLink RL 15 "java/lang/IllegalArgumentException", Cond.classLink RL 17 "java/lang/IllegalStateException", Cond.methodLink RL 7 yX0_hymn, Cond.instanceMethod yX0_hymn, Cond.selects RX0 yX0_hymn yX0_hymn, Cond.code yX0_hymn cX0_hymn 6 (some .int), Cond.fieldLink RX0 63 "CanticlePress" "hymnCount" "I", Cond.methodLink RX0 52 yX0_isBetween, Cond.static yX0_isBetween, Cond.code yX0_isBetween cX0_isBetween 3 (some .boolean), Cond.methodLink RX0 56 yX0_needIndex, Cond.static yX0_needIndex, Cond.code yX0_needIndex cX0_needIndex 1 none, Cond.classLink RX0 174 "java/lang/IndexOutOfBoundsException", Cond.initialized "java/lang/IndexOutOfBoundsException", Cond.methodLink RX0 60 yX0_needArgument, Cond.static yX0_needArgument, Cond.code yX0_needArgument cX0_needArgument 1 none, Cond.classLink RX0 177 "java/lang/IllegalArgumentException", Cond.initialized "java/lang/IllegalArgumentException"]
def wsL_law0_r4 : List Cond := [Cond.methodLink RX0 67 yX0_needState, Cond.static yX0_needState, Cond.code yX0_needState cX0_needState 1 none, Cond.classLink RX0 180 "java/lang/IllegalStateException", Cond.initialized "java/lang/IllegalStateException", Cond.methodLink RX0 70 yX0_turns, Cond.static yX0_turns, Cond.code yX0_turns cX0_turns 6 (some .int), Cond.methodLink RX0 87 yX0_lastLineOfFullPage, Cond.static yX0_lastLineOfFullPage, Cond.code yX0_lastLineOfFullPage cX0_lastLineOfFullPage 4 (some .int), Cond.methodLink RX0 90 yX0_isInSet, Cond.static yX0_isInSet, Cond.code yX0_isInSet cX0_isInSet 3 (some .boolean), Cond.methodLink RL 77 yX1_hymn, Cond.instanceMethod yX1_hymn, Cond.selects RX1 yX1_hymn yX1_hymn, Cond.code yX1_hymn cX1_hymn 6 (some .int), Cond.fieldLink RX1 57 "CanticlePressModel" "hymns" "I", Cond.fieldLink RX1 53 "CanticlePressModel" "thrown" "I", Cond.methodLink RX1 60 yX1_isIn, Cond.static yX1_isIn, Cond.code yX1_isIn cX1_isIn 3 (some .boolean), Cond.methodLink RL 78 yX1_thrown]
def wsL_law0_r5 : List Cond := [Cond.instanceMethod yX1_thrown, Cond.selects RX1 yX1_thrown yX1_thrown, Cond.code yX1_thrown cX1_thrown 1 (some .int), Cond.methodLink RL 82 yX0_hymns, Cond.instanceMethod yX0_hymns, Cond.selects RX0 yX0_hymns yX0_hymns, Cond.code yX0_hymns cX0_hymns 1 (some .int), Cond.methodLink RL 85 yX1_hymns, Cond.instanceMethod yX1_hymns, Cond.selects RX1 yX1_hymns yX1_hymns, Cond.code yX1_hymns cX1_hymns 1 (some .int), Cond.methodLink RL 86 yL_pages, Cond.static yL_pages, Cond.codeWith yL_pages cL_pages 4 (some .int) [(0, 9, 12, 13)], Cond.methodLink RL 19 yX0_pages, Cond.instanceMethod yX0_pages, Cond.selects RX0 yX0_pages yX0_pages, Cond.code yX0_pages cX0_pages 2 (some .int), Cond.methodLink RX0 74 yX0_isHymn, Cond.instanceMethod yX0_isHymn, Cond.selects RX0 yX0_isHymn yX0_isHymn, Cond.code yX0_isHymn cX0_isHymn 2 (some .boolean), Cond.methodLink RX0 78 yX0_pageCount, Cond.instanceMethod yX0_pageCount]
def wsL_law0_r6 : List Cond := [Cond.selects RX0 yX0_pageCount yX0_pageCount, Cond.code yX0_pageCount cX0_pageCount 2 (some .int), Cond.methodLink RX0 82 yJ6_bitCount_0f7a4, Cond.static yJ6_bitCount_0f7a4, Cond.initialized RJ6, Cond.code yJ6_bitCount_0f7a4 cJ6_bitCount_0f7a4 1 (some .int), Cond.constant RJ6 265 (1431655765), Cond.constant RJ6 266 (858993459), Cond.constant RJ6 267 (252645135), Cond.methodLink RL 89 yX1_pages, Cond.instanceMethod yX1_pages, Cond.selects RX1 yX1_pages yX1_pages, Cond.code yX1_pages cX1_pages 2 (some .int), Cond.methodLink RX1 72 yX1_isHymn, Cond.instanceMethod yX1_isHymn, Cond.selects RX1 yX1_isHymn yX1_isHymn, Cond.code yX1_isHymn cX1_isHymn 2 (some .boolean), Cond.methodLink RX1 76 yX1_pagesOf, Cond.instanceMethod yX1_pagesOf, Cond.selects RX1 yX1_pagesOf yX1_pagesOf, Cond.code yX1_pagesOf cX1_pagesOf 4 (some .int), Cond.methodLink RX1 68 yX1_nextPage, Cond.instanceMethod yX1_nextPage, Cond.selects RX1 yX1_nextPage yX1_nextPage]
def wsL_law0_r7 : List Cond := [Cond.code yX1_nextPage cX1_nextPage 6 (some .int), Cond.methodLink RX1 64 yX1_hasRest, Cond.instanceMethod yX1_hasRest, Cond.selects RX1 yX1_hasRest yX1_hasRest, Cond.code yX1_hasRest cX1_hasRest 3 (some .boolean), Cond.methodLink RL 90 yL_pageOf, Cond.static yL_pageOf, Cond.codeWith yL_pageOf cL_pageOf 5 (some .int) [(0, 10, 13, 13)], Cond.methodLink RL 23 yX0_pageOf, Cond.instanceMethod yX0_pageOf, Cond.selects RX0 yX0_pageOf yX0_pageOf, Cond.code yX0_pageOf cX0_pageOf 4 (some .int), Cond.methodLink RL 93 yX1_pageOf, Cond.instanceMethod yX1_pageOf, Cond.selects RX1 yX1_pageOf yX1_pageOf, Cond.code yX1_pageOf cX1_pageOf 5 (some .int), Cond.methodLink RL 94 yL_badTurns, Cond.static yL_badTurns, Cond.codeWith yL_badTurns cL_badTurns 4 (some .int) [(0, 9, 12, 13)], Cond.methodLink RL 27 yX0_badTurns, Cond.instanceMethod yX0_badTurns, Cond.selects RX0 yX0_badTurns yX0_badTurns, Cond.code yX0_badTurns cX0_badTurns 2 (some .int), Cond.methodLink RL 96 yX1_badTurns]
def wsL_law0_r8 : List Cond := [Cond.instanceMethod yX1_badTurns, Cond.selects RX1 yX1_badTurns yX1_badTurns, Cond.code yX1_badTurns cX1_badTurns 5 (some .int), Cond.methodLink RL 97 yL_right, Cond.static yL_right, Cond.codeWith yL_right cL_right 7 (some .int) [(0, 14, 17, 13), (0, 14, 21, 15), (0, 14, 25, 17)], Cond.methodLink RL 30 yX0_right, Cond.instanceMethod yX0_right, Cond.selects RX0 yX0_right yX0_right, Cond.code yX0_right cX0_right 6 (some .int), Cond.fieldLink RX0 100 "CanticlePress" "rightCount" "I", Cond.methodLink RX0 94 yX0_isUse, Cond.static yX0_isUse, Cond.code yX0_isUse cX0_isUse 1 (some .boolean), Cond.methodLink RX0 97 yX0_isDay, Cond.static yX0_isDay, Cond.code yX0_isDay cX0_isDay 1 (some .boolean), Cond.methodLink RL 99 yX1_right, Cond.instanceMethod yX1_right, Cond.selects RX1 yX1_right yX1_right, Cond.code yX1_right cX1_right 5 (some .int), Cond.fieldLink RX1 86 "CanticlePressModel" "rights" "I", Cond.methodLink RX1 80 yX1_isUse, Cond.static yX1_isUse]
def wsL_law0_r9 : List Cond := [Cond.code yX1_isUse cX1_isUse 1 (some .boolean), Cond.methodLink RX1 83 yX1_isDay, Cond.static yX1_isDay, Cond.code yX1_isDay cX1_isDay 1 (some .boolean), Cond.methodLink RL 100 yL_end, Cond.static yL_end, Cond.codeWith yL_end cL_end 5 (some .int) [(0, 10, 13, 13), (0, 10, 17, 15), (0, 10, 21, 17)], Cond.methodLink RL 33 yX0_end, Cond.instanceMethod yX0_end, Cond.selects RX0 yX0_end yX0_end, Cond.code yX0_end cX0_end 5 (some .int), Cond.fieldLink RX0 103 "CanticlePress" "today" "I", Cond.methodLink RX0 106 yX0_silenceServicesWithoutRight, Cond.instanceMethod yX0_silenceServicesWithoutRight, Cond.selects RX0 yX0_silenceServicesWithoutRight yX0_silenceServicesWithoutRight, Cond.code yX0_silenceServicesWithoutRight cX0_silenceServicesWithoutRight 4 (some .long), Cond.fieldLink RX0 131 "CanticlePress" "serviceCount" "I", Cond.methodLink RX0 165 yX0_hasLostItsRight, Cond.instanceMethod yX0_hasLostItsRight, Cond.selects RX0 yX0_hasLostItsRight yX0_hasLostItsRight, Cond.code yX0_hasLostItsRight cX0_hasLostItsRight 4 (some .boolean), Cond.methodLink RX0 119 yX0_isAllowed, Cond.instanceMethod yX0_isAllowed, Cond.selects RX0 yX0_isAllowed yX0_isAllowed]
def wsL_law0_r10 : List Cond := [Cond.code yX0_isAllowed cX0_isAllowed 5 (some .boolean), Cond.methodLink RX0 110 yX0_planEach, Cond.instanceMethod yX0_planEach, Cond.selects RX0 yX0_planEach yX0_planEach, Cond.code yX0_planEach cX0_planEach 4 none, Cond.methodLink RX0 138 yX0_planAnew, Cond.instanceMethod yX0_planAnew, Cond.selects RX0 yX0_planAnew yX0_planAnew, Cond.code yX0_planAnew cX0_planAnew 2 none, Cond.methodLink RX0 145 yX0_bestHymn, Cond.instanceMethod yX0_bestHymn, Cond.selects RX0 yX0_bestHymn yX0_bestHymn, Cond.code yX0_bestHymn cX0_bestHymn 7 (some .int), Cond.methodLink RX0 148 yX0_isSuitable, Cond.instanceMethod yX0_isSuitable, Cond.selects RX0 yX0_isSuitable yX0_isSuitable, Cond.code yX0_isSuitable cX0_isSuitable 4 (some .boolean), Cond.methodLink RX0 154 yX0_seasonOf, Cond.static yX0_seasonOf, Cond.code yX0_seasonOf cX0_seasonOf 1 (some .int), Cond.methodLink RX0 157 yX0_isRested, Cond.instanceMethod yX0_isRested, Cond.selects RX0 yX0_isRested yX0_isRested, Cond.code yX0_isRested cX0_isRested 5 (some .boolean)]
def wsL_law0_r11 : List Cond := [Cond.methodLink RX0 160 Lib.Math.abs.name, Cond.static Lib.Math.abs.name, Cond.initialized "java/lang/Math", Cond.code Lib.Math.abs.name Lib.Math.abs.code 1 (some .int), Cond.methodLink RX0 151 yX0_servicesWith, Cond.instanceMethod yX0_servicesWith, Cond.selects RX0 yX0_servicesWith yX0_servicesWith, Cond.code yX0_servicesWith cX0_servicesWith 4 (some .int), Cond.methodLink RX0 114 yJ13_bitCount_95d88, Cond.static yJ13_bitCount_95d88, Cond.initialized RJ13, Cond.code yJ13_bitCount_95d88 cJ13_bitCount_95d88 2 (some .int), Cond.constantLong RJ13 314 (6148914691236517205), Cond.constantLong RJ13 316 (3689348814741910323), Cond.constantLong RJ13 318 (1085102592571150095), Cond.methodLink RL 102 yX1_end, Cond.instanceMethod yX1_end, Cond.selects RX1 yX1_end yX1_end, Cond.code yX1_end cX1_end 5 (some .int), Cond.fieldLink RX1 89 "CanticlePressModel" "today" "I", Cond.fieldLink RX1 92 "CanticlePressModel" "services" "I", Cond.methodLink RX1 95 yX1_may, Cond.instanceMethod yX1_may, Cond.selects RX1 yX1_may yX1_may]
def wsL_law0_r12 : List Cond := [Cond.code yX1_may cX1_may 6 (some .boolean), Cond.methodLink RX1 98 yX1_plans, Cond.instanceMethod yX1_plans, Cond.selects RX1 yX1_plans yX1_plans, Cond.code yX1_plans cX1_plans 6 none, Cond.methodLink RX1 102 yX1_isRested, Cond.instanceMethod yX1_isRested, Cond.selects RX1 yX1_isRested yX1_isRested, Cond.code yX1_isRested cX1_isRested 6 (some .boolean), Cond.methodLink RX1 105 yX1_servicesWith, Cond.instanceMethod yX1_servicesWith, Cond.selects RX1 yX1_servicesWith yX1_servicesWith, Cond.code yX1_servicesWith cX1_servicesWith 4 (some .int), Cond.methodLink RL 103 yL_hasRight, Cond.static yL_hasRight, Cond.codeWith yL_hasRight cL_hasRight 6 (some .int) [(0, 19, 22, 13), (0, 19, 26, 15)], Cond.methodLink RL 36 yX0_hasRight, Cond.instanceMethod yX0_hasRight, Cond.selects RX0 yX0_hasRight yX0_hasRight, Cond.code yX0_hasRight cX0_hasRight 4 (some .boolean), Cond.methodLink RL 106 yX1_hasRight, Cond.instanceMethod yX1_hasRight, Cond.selects RX1 yX1_hasRight yX1_hasRight, Cond.code yX1_hasRight cX1_hasRight 4 (some .boolean)]
def wsL_law0_r13 : List Cond := [Cond.methodLink RL 107 yL_print, Cond.static yL_print, Cond.codeWith yL_print cL_print 5 (some .int) [(0, 10, 13, 13), (0, 10, 17, 15), (0, 10, 21, 17)], Cond.methodLink RL 40 yX0_print, Cond.instanceMethod yX0_print, Cond.selects RX0 yX0_print yX0_print, Cond.code yX0_print cX0_print 3 (some .int), Cond.methodLink RX0 122 yX0_yearOf, Cond.static yX0_yearOf, Cond.code yX0_yearOf cX0_yearOf 1 (some .int), Cond.methodLink RL 109 yX1_print, Cond.instanceMethod yX1_print, Cond.selects RX1 yX1_print yX1_print, Cond.code yX1_print cX1_print 3 (some .int), Cond.methodLink RL 110 yL_printed, Cond.static yL_printed, Cond.codeWith yL_printed cL_printed 5 (some .int) [(0, 10, 13, 13)], Cond.methodLink RL 43 yX0_printed, Cond.instanceMethod yX0_printed, Cond.selects RX0 yX0_printed yX0_printed, Cond.code yX0_printed cX0_printed 3 (some .int), Cond.methodLink RX0 125 yX0_isYear, Cond.static yX0_isYear, Cond.code yX0_isYear cX0_isYear 1 (some .boolean)]
def wsL_law0_r14 : List Cond := [Cond.methodLink RL 112 yX1_printed, Cond.instanceMethod yX1_printed, Cond.selects RX1 yX1_printed yX1_printed, Cond.code yX1_printed cX1_printed 3 (some .int), Cond.methodLink RL 113 yL_learn, Cond.static yL_learn, Cond.codeWith yL_learn cL_learn 5 (some .int) [(0, 17, 20, 13)], Cond.methodLink RL 46 yX0_learn, Cond.instanceMethod yX0_learn, Cond.selects RX0 yX0_learn yX0_learn, Cond.code yX0_learn cX0_learn 3 (some .boolean), Cond.methodLink RX0 128 yX0_isChoir, Cond.static yX0_isChoir, Cond.code yX0_isChoir cX0_isChoir 1 (some .boolean), Cond.methodLink RL 115 yX1_learn, Cond.instanceMethod yX1_learn, Cond.selects RX1 yX1_learn yX1_learn, Cond.code yX1_learn cX1_learn 3 (some .boolean), Cond.methodLink RL 116 yL_service, Cond.static yL_service, Cond.codeWith yL_service cL_service 5 (some .int) [(0, 10, 13, 13), (0, 10, 17, 15), (0, 10, 21, 17)], Cond.methodLink RL 50 yX0_service, Cond.instanceMethod yX0_service, Cond.selects RX0 yX0_service yX0_service]
def wsL_law0_r15 : List Cond := [Cond.code yX0_service cX0_service 4 (some .int), Cond.methodLink RX0 134 yX0_hasServiceOn, Cond.instanceMethod yX0_hasServiceOn, Cond.selects RX0 yX0_hasServiceOn yX0_hasServiceOn, Cond.code yX0_hasServiceOn cX0_hasServiceOn 4 (some .boolean), Cond.methodLink RL 118 yX1_service, Cond.instanceMethod yX1_service, Cond.selects RX1 yX1_service yX1_service, Cond.code yX1_service cX1_service 5 (some .int), Cond.methodLink RL 119 yL_plan, Cond.static yL_plan, Cond.codeWith yL_plan cL_plan 4 (some .int) [(0, 9, 12, 13), (0, 9, 15, 17)], Cond.methodLink RL 53 yX0_plan, Cond.instanceMethod yX0_plan, Cond.selects RX0 yX0_plan yX0_plan, Cond.code yX0_plan cX0_plan 2 (some .int), Cond.methodLink RX0 142 yX0_isService, Cond.instanceMethod yX0_isService, Cond.selects RX0 yX0_isService yX0_isService, Cond.code yX0_isService cX0_isService 2 (some .boolean), Cond.methodLink RL 121 yX1_plan, Cond.instanceMethod yX1_plan, Cond.selects RX1 yX1_plan yX1_plan, Cond.code yX1_plan cX1_plan 2 (some .int)]
def wsL_law0_r16 : List Cond := [Cond.methodLink RX1 108 yX1_isService, Cond.instanceMethod yX1_isService, Cond.selects RX1 yX1_isService yX1_isService, Cond.code yX1_isService cX1_isService 2 (some .boolean), Cond.methodLink RL 122 yL_hymnOf, Cond.static yL_hymnOf, Cond.codeWith yL_hymnOf cL_hymnOf 4 (some .int) [(0, 9, 12, 13)], Cond.methodLink RL 56 yX0_hymnOf, Cond.instanceMethod yX0_hymnOf, Cond.selects RX0 yX0_hymnOf yX0_hymnOf, Cond.code yX0_hymnOf cX0_hymnOf 2 (some .int), Cond.methodLink RL 124 yX1_hymnOf, Cond.instanceMethod yX1_hymnOf, Cond.selects RX1 yX1_hymnOf yX1_hymnOf, Cond.code yX1_hymnOf cX1_hymnOf 2 (some .int), Cond.methodLink RL 125 yX0_silent, Cond.instanceMethod yX0_silent, Cond.selects RX0 yX0_silent yX0_silent, Cond.code yX0_silent cX0_silent 3 (some .int), Cond.methodLink RL 128 yX1_silent, Cond.instanceMethod yX1_silent, Cond.selects RX1 yX1_silent yX1_silent, Cond.code yX1_silent cX1_silent 3 (some .int), Cond.methodLink RL 129 yL_sung]
def wsL_law0_r17 : List Cond := [Cond.static yL_sung, Cond.codeWith yL_sung cL_sung 5 (some .int) [(0, 10, 13, 13)], Cond.methodLink RL 59 yX0_sung, Cond.instanceMethod yX0_sung, Cond.selects RX0 yX0_sung yX0_sung, Cond.code yX0_sung cX0_sung 6 (some .int), Cond.methodLink RX0 168 yX0_isHeldIn, Cond.instanceMethod yX0_isHeldIn, Cond.selects RX0 yX0_isHeldIn yX0_isHeldIn, Cond.code yX0_isHeldIn cX0_isHeldIn 4 (some .boolean), Cond.methodLink RL 131 yX1_sung, Cond.instanceMethod yX1_sung, Cond.selects RX1 yX1_sung yX1_sung, Cond.code yX1_sung cX1_sung 3 (some .int), Cond.methodLink RX1 111 yX1_sungOf, Cond.instanceMethod yX1_sungOf, Cond.selects RX1 yX1_sungOf yX1_sungOf, Cond.code yX1_sungOf cX1_sungOf 6 (some .int), Cond.methodLink RL 132 yL_sungByHymns, Cond.static yL_sungByHymns, Cond.codeWith yL_sungByHymns cL_sungByHymns 5 (some .int) [(0, 10, 13, 13)], Cond.methodLink RL 62 yX0_sungByHymns, Cond.instanceMethod yX0_sungByHymns, Cond.selects RX0 yX0_sungByHymns yX0_sungByHymns]
def wsL_law0_r18 : List Cond := [Cond.code yX0_sungByHymns cX0_sungByHymns 5 (some .int), Cond.methodLink RX0 171 yX0_timesSung, Cond.instanceMethod yX0_timesSung, Cond.selects RX0 yX0_timesSung yX0_timesSung, Cond.code yX0_timesSung cX0_timesSung 5 (some .int), Cond.methodLink RL 134 yX1_sungByHymns, Cond.instanceMethod yX1_sungByHymns, Cond.selects RX1 yX1_sungByHymns yX1_sungByHymns, Cond.code yX1_sungByHymns cX1_sungByHymns 3 (some .int), Cond.methodLink RL 135 yL_pass, Cond.static yL_pass, Cond.codeWith yL_pass cL_pass 4 (some .int) [(0, 9, 12, 15), (0, 9, 15, 17)], Cond.methodLink RL 65 yX0_pass, Cond.instanceMethod yX0_pass, Cond.selects RX0 yX0_pass yX0_pass, Cond.code yX0_pass cX0_pass 2 (some .int), Cond.methodLink RL 137 yX1_pass, Cond.instanceMethod yX1_pass, Cond.selects RX1 yX1_pass yX1_pass, Cond.code yX1_pass cX1_pass 2 (some .int)]
def wsL_law0 : List Cond := (wsL_law0_r1 ++ (wsL_law0_r2 ++ (wsL_law0_r3 ++ (wsL_law0_r4 ++ (wsL_law0_r5 ++ (wsL_law0_r6 ++ (wsL_law0_r7 ++ (wsL_law0_r8 ++ (wsL_law0_r9 ++ (wsL_law0_r10 ++ (wsL_law0_r11 ++ (wsL_law0_r12 ++ (wsL_law0_r13 ++ (wsL_law0_r14 ++ (wsL_law0_r15 ++ (wsL_law0_r16 ++ (wsL_law0_r17 ++ wsL_law0_r18))))))))))))))))) ++ wsX00 ++ wsX10 ++ ([] : List Cond)
def wsL_law : List Cond := wsL_law0 ++ (vx_at0 RX0 176 "java/lang/IndexOutOfBoundsException" ["java/lang/RuntimeException", "java/lang/Exception"]).filter goodWord ++ (vx_at0 RX0 179 "java/lang/IllegalArgumentException" ["java/lang/RuntimeException", "java/lang/Exception"]).filter goodWord ++ (vx_at0 RX0 182 "java/lang/IllegalStateException" ["java/lang/RuntimeException", "java/lang/Exception"]).filter goodWord
set_option maxRecDepth 20000 in
theorem wsL_law0_r1_in : ∀ w ∈ wsL_law0_r1, w ∈ lw_tbl := fun w h => (goodIn_p wsL_law0_r1 [42, 45] (by decide +kernel) (by decide +kernel) w h).1
set_option maxRecDepth 20000 in
theorem wsL_law0_r2_in : ∀ w ∈ wsL_law0_r2, w ∈ lw_tbl := fun w h => (goodIn_p wsL_law0_r2 [436] (by decide +kernel) (by decide +kernel) w h).1
set_option maxRecDepth 20000 in
theorem wsL_law0_r3_in : ∀ w ∈ wsL_law0_r3, w ∈ lw_tbl := fun w h => (goodIn_p wsL_law0_r3 [119, 122, 125, 191] (by decide +kernel) (by decide +kernel) w h).1
set_option maxRecDepth 20000 in
theorem wsL_law0_r4_in : ∀ w ∈ wsL_law0_r4, w ∈ lw_tbl := fun w h => (goodIn_p wsL_law0_r4 [209, 227, 230, 233, 504, 507] (by decide +kernel) (by decide +kernel) w h).1
set_option maxRecDepth 20000 in
theorem wsL_law0_r5_in : ∀ w ∈ wsL_law0_r5, w ∈ lw_tbl := fun w h => (goodIn_p wsL_law0_r5 [500, 105, 511, 240, 244] (by decide +kernel) (by decide +kernel) w h).1
set_option maxRecDepth 20000 in
theorem wsL_law0_r6_in : ∀ w ∈ wsL_law0_r6, w ∈ lw_tbl := fun w h => (goodIn_p wsL_law0_r6 [248, 251, 515, 519, 523] (by decide +kernel) (by decide +kernel) w h).1
set_option maxRecDepth 20000 in
theorem wsL_law0_r7_in : ∀ w ∈ wsL_law0_r7, w ∈ lw_tbl := fun w h => (goodIn_p wsL_law0_r7 [527, 531, 261, 535, 268] (by decide +kernel) (by decide +kernel) w h).1
set_option maxRecDepth 20000 in
theorem wsL_law0_r8_in : ∀ w ∈ wsL_law0_r8, w ∈ lw_tbl := fun w h => (goodIn_p wsL_law0_r8 [539, 275, 278, 281, 543] (by decide +kernel) (by decide +kernel) w h).1
set_option maxRecDepth 20000 in
theorem wsL_law0_r9_in : ∀ w ∈ wsL_law0_r9, w ∈ lw_tbl := fun w h => (goodIn_p wsL_law0_r9 [546, 549, 288, 292, 296] (by decide +kernel) (by decide +kernel) w h).1
set_option maxRecDepth 20000 in
theorem wsL_law0_r10_in : ∀ w ∈ wsL_law0_r10, w ∈ lw_tbl := fun w h => (goodIn_p wsL_law0_r10 [300, 304, 308, 312, 316, 319, 323] (by decide +kernel) (by decide +kernel) w h).1
set_option maxRecDepth 20000 in
theorem wsL_law0_r11_in : ∀ w ∈ wsL_law0_r11, w ∈ lw_tbl := fun w h => (goodIn_p wsL_law0_r11 [326, 330, 333, 553] (by decide +kernel) (by decide +kernel) w h).1
set_option maxRecDepth 20000 in
theorem wsL_law0_r12_in : ∀ w ∈ wsL_law0_r12, w ∈ lw_tbl := fun w h => (goodIn_p wsL_law0_r12 [557, 561, 565, 569, 343, 573] (by decide +kernel) (by decide +kernel) w h).1
set_option maxRecDepth 20000 in
theorem wsL_law0_r13_in : ∀ w ∈ wsL_law0_r13, w ∈ lw_tbl := fun w h => (goodIn_p wsL_law0_r13 [350, 353, 577, 360, 363] (by decide +kernel) (by decide +kernel) w h).1
set_option maxRecDepth 20000 in
theorem wsL_law0_r14_in : ∀ w ∈ wsL_law0_r14, w ∈ lw_tbl := fun w h => (goodIn_p wsL_law0_r14 [581, 370, 373, 585] (by decide +kernel) (by decide +kernel) w h).1
set_option maxRecDepth 20000 in
theorem wsL_law0_r15_in : ∀ w ∈ wsL_law0_r15, w ∈ lw_tbl := fun w h => (goodIn_p wsL_law0_r15 [380, 384, 589, 391, 395, 593] (by decide +kernel) (by decide +kernel) w h).1
set_option maxRecDepth 20000 in
theorem wsL_law0_r16_in : ∀ w ∈ wsL_law0_r16, w ∈ lw_tbl := fun w h => (goodIn_p wsL_law0_r16 [597, 402, 601, 109, 605] (by decide +kernel) (by decide +kernel) w h).1
set_option maxRecDepth 20000 in
theorem wsL_law0_r17_in : ∀ w ∈ wsL_law0_r17, w ∈ lw_tbl := fun w h => (goodIn_p wsL_law0_r17 [409, 413, 609, 613] (by decide +kernel) (by decide +kernel) w h).1
set_option maxRecDepth 20000 in
theorem wsL_law0_r18_in : ∀ w ∈ wsL_law0_r18, w ∈ lw_tbl := fun w h => (goodIn_p wsL_law0_r18 [420, 424, 617, 431, 621] (by decide +kernel) (by decide +kernel) w h).1
set_option maxRecDepth 20000 in
theorem wsX00_in : ∀ w ∈ wsX00, w ∈ lw_tbl := by decide +kernel
set_option maxRecDepth 20000 in
theorem wsX10_in : ∀ w ∈ wsX10, w ∈ lw_tbl := by decide +kernel
theorem wsL_law_in0 : ∀ w ∈ wsL_law0, w ∈ lw_tbl := fun w h => (List.mem_append.mp h).elim (fun h => (List.mem_append.mp h).elim (fun h => (List.mem_append.mp h).elim (fun h => (List.mem_append.mp h).elim (fun h => wsL_law0_r1_in w h) (fun h => (List.mem_append.mp h).elim (fun h => wsL_law0_r2_in w h) (fun h => (List.mem_append.mp h).elim (fun h => wsL_law0_r3_in w h) (fun h => (List.mem_append.mp h).elim (fun h => wsL_law0_r4_in w h) (fun h => (List.mem_append.mp h).elim (fun h => wsL_law0_r5_in w h) (fun h => (List.mem_append.mp h).elim (fun h => wsL_law0_r6_in w h) (fun h => (List.mem_append.mp h).elim (fun h => wsL_law0_r7_in w h) (fun h => (List.mem_append.mp h).elim (fun h => wsL_law0_r8_in w h) (fun h => (List.mem_append.mp h).elim (fun h => wsL_law0_r9_in w h) (fun h => (List.mem_append.mp h).elim (fun h => wsL_law0_r10_in w h) (fun h => (List.mem_append.mp h).elim (fun h => wsL_law0_r11_in w h) (fun h => (List.mem_append.mp h).elim (fun h => wsL_law0_r12_in w h) (fun h => (List.mem_append.mp h).elim (fun h => wsL_law0_r13_in w h) (fun h => (List.mem_append.mp h).elim (fun h => wsL_law0_r14_in w h) (fun h => (List.mem_append.mp h).elim (fun h => wsL_law0_r15_in w h) (fun h => (List.mem_append.mp h).elim (fun h => wsL_law0_r16_in w h) (fun h => (List.mem_append.mp h).elim (fun h => wsL_law0_r17_in w h) (fun h => wsL_law0_r18_in w h)))))))))))))))))) (fun h => wsX00_in w h)) (fun h => wsX10_in w h)) (fun h => absurd h List.not_mem_nil)
theorem wsL_law_x0 : ∀ w ∈ (vx_at0 RX0 176 "java/lang/IndexOutOfBoundsException" ["java/lang/RuntimeException", "java/lang/Exception"]).filter goodWord, w ∈ lw_tbl := by decide +kernel
theorem wsL_law_x1 : ∀ w ∈ (vx_at0 RX0 179 "java/lang/IllegalArgumentException" ["java/lang/RuntimeException", "java/lang/Exception"]).filter goodWord, w ∈ lw_tbl := by decide +kernel
theorem wsL_law_x2 : ∀ w ∈ (vx_at0 RX0 182 "java/lang/IllegalStateException" ["java/lang/RuntimeException", "java/lang/Exception"]).filter goodWord, w ∈ lw_tbl := by decide +kernel
theorem wsL_law_in : ∀ w ∈ wsL_law, w ∈ lw_tbl := fun w h => (List.mem_append.mp h).elim (fun h => (List.mem_append.mp h).elim (fun h => (List.mem_append.mp h).elim (fun h => wsL_law_in0 w h) (fun h => wsL_law_x0 w h)) (fun h => wsL_law_x1 w h)) (fun h => wsL_law_x2 w h)
theorem inlX0 : ∀ w ∈ wsX00, w ∈ wsL_law := fun _ h => List.mem_append_left _ (List.mem_append_left _ (List.mem_append_left _ (List.mem_append_left _ (List.mem_append_left _ (List.mem_append_right _ h)))))
theorem inX0 : ∀ w ∈ wsX00, w ∈ lw_tbl := fun w h => wsL_law_in w (inlX0 w h)
theorem inlX1 : ∀ w ∈ wsX10, w ∈ wsL_law := fun _ h => List.mem_append_left _ (List.mem_append_left _ (List.mem_append_left _ (List.mem_append_left _ (List.mem_append_right _ h))))
theorem inX1 : ∀ w ∈ wsX10, w ∈ lw_tbl := fun w h => wsL_law_in w (inlX1 w h)
theorem inJ6 : ∀ w ∈ wsJ60, w ∈ lw_tbl := by decide +kernel
theorem inJ13 : ∀ w ∈ wsJ130, w ∈ lw_tbl := by decide +kernel
theorem inJ9 : ∀ w ∈ wsJ90, w ∈ lw_tbl := by decide +kernel
end
section
theorem dX0_init_0 : decode cX0_init 0 = .ok (.aload_n 0, 1) := by decide +kernel
theorem dX0_init_1 : decode cX0_init 1 = .ok (.invokespecial 1, 3) := by decide +kernel
theorem dX0_init_4 : decode cX0_init 4 = .ok (.aload_n 0, 1) := by decide +kernel
theorem dX0_init_5 : decode cX0_init 5 = .ok (.bipush 16, 2) := by decide +kernel
theorem dX0_init_7 : decode cX0_init 7 = .ok (.newarray .int, 2) := by decide +kernel
theorem dX0_init_9 : decode cX0_init 9 = .ok (.putfield 9, 3) := by decide +kernel
theorem dX0_init_12 : decode cX0_init 12 = .ok (.aload_n 0, 1) := by decide +kernel
theorem dX0_init_13 : decode cX0_init 13 = .ok (.bipush 16, 2) := by decide +kernel
theorem dX0_init_15 : decode cX0_init 15 = .ok (.newarray .int, 2) := by decide +kernel
theorem dX0_init_17 : decode cX0_init 17 = .ok (.putfield 13, 3) := by decide +kernel
theorem dX0_init_20 : decode cX0_init 20 = .ok (.aload_n 0, 1) := by decide +kernel
theorem dX0_init_21 : decode cX0_init 21 = .ok (.bipush 16, 2) := by decide +kernel
theorem dX0_init_23 : decode cX0_init 23 = .ok (.newarray .int, 2) := by decide +kernel
theorem dX0_init_25 : decode cX0_init 25 = .ok (.putfield 16, 3) := by decide +kernel
theorem dX0_init_28 : decode cX0_init 28 = .ok (.aload_n 0, 1) := by decide +kernel
theorem dX0_init_29 : decode cX0_init 29 = .ok (.bipush 16, 2) := by decide +kernel
theorem dX0_init_31 : decode cX0_init 31 = .ok (.newarray .int, 2) := by decide +kernel
theorem dX0_init_33 : decode cX0_init 33 = .ok (.putfield 19, 3) := by decide +kernel
theorem dX0_init_36 : decode cX0_init 36 = .ok (.aload_n 0, 1) := by decide +kernel
theorem dX0_init_37 : decode cX0_init 37 = .ok (.bipush 16, 2) := by decide +kernel
theorem dX0_init_39 : decode cX0_init 39 = .ok (.newarray .int, 2) := by decide +kernel
theorem dX0_init_41 : decode cX0_init 41 = .ok (.putfield 22, 3) := by decide +kernel
theorem dX0_init_44 : decode cX0_init 44 = .ok (.aload_n 0, 1) := by decide +kernel
theorem dX0_init_45 : decode cX0_init 45 = .ok (.bipush 16, 2) := by decide +kernel
theorem dX0_init_47 : decode cX0_init 47 = .ok (.newarray .int, 2) := by decide +kernel
theorem dX0_init_49 : decode cX0_init 49 = .ok (.putfield 25, 3) := by decide +kernel
theorem dX0_init_52 : decode cX0_init 52 = .ok (.aload_n 0, 1) := by decide +kernel
theorem dX0_init_53 : decode cX0_init 53 = .ok (.bipush 64, 2) := by decide +kernel
theorem dX0_init_55 : decode cX0_init 55 = .ok (.newarray .int, 2) := by decide +kernel
theorem dX0_init_57 : decode cX0_init 57 = .ok (.putfield 28, 3) := by decide +kernel
theorem dX0_init_60 : decode cX0_init 60 = .ok (.aload_n 0, 1) := by decide +kernel
theorem dX0_init_61 : decode cX0_init 61 = .ok (.bipush 40, 2) := by decide +kernel
theorem dX0_init_63 : decode cX0_init 63 = .ok (.newarray .int, 2) := by decide +kernel
theorem dX0_init_65 : decode cX0_init 65 = .ok (.putfield 31, 3) := by decide +kernel
theorem dX0_init_68 : decode cX0_init 68 = .ok (.aload_n 0, 1) := by decide +kernel
theorem dX0_init_69 : decode cX0_init 69 = .ok (.bipush 40, 2) := by decide +kernel
theorem dX0_init_71 : decode cX0_init 71 = .ok (.newarray .int, 2) := by decide +kernel
theorem dX0_init_73 : decode cX0_init 73 = .ok (.putfield 34, 3) := by decide +kernel
theorem dX0_init_76 : decode cX0_init 76 = .ok (.aload_n 0, 1) := by decide +kernel
theorem dX0_init_77 : decode cX0_init 77 = .ok (.bipush 40, 2) := by decide +kernel
theorem dX0_init_79 : decode cX0_init 79 = .ok (.newarray .int, 2) := by decide +kernel
theorem dX0_init_81 : decode cX0_init 81 = .ok (.putfield 37, 3) := by decide +kernel
theorem dX0_init_84 : decode cX0_init 84 = .ok (.aload_n 0, 1) := by decide +kernel
theorem dX0_init_85 : decode cX0_init 85 = .ok (.bipush 40, 2) := by decide +kernel
theorem dX0_init_87 : decode cX0_init 87 = .ok (.newarray .int, 2) := by decide +kernel
theorem dX0_init_89 : decode cX0_init 89 = .ok (.putfield 40, 3) := by decide +kernel
theorem dX0_init_92 : decode cX0_init 92 = .ok (.aload_n 0, 1) := by decide +kernel
theorem dX0_init_93 : decode cX0_init 93 = .ok (.bipush 40, 2) := by decide +kernel
theorem dX0_init_95 : decode cX0_init 95 = .ok (.newarray .int, 2) := by decide +kernel
theorem dX0_init_97 : decode cX0_init 97 = .ok (.putfield 43, 3) := by decide +kernel
theorem dX0_init_100 : decode cX0_init 100 = .ok (.aload_n 0, 1) := by decide +kernel
theorem dX0_init_101 : decode cX0_init 101 = .ok (.bipush 40, 2) := by decide +kernel
theorem dX0_init_103 : decode cX0_init 103 = .ok (.newarray .int, 2) := by decide +kernel
theorem dX0_init_105 : decode cX0_init 105 = .ok (.putfield 46, 3) := by decide +kernel
theorem dX0_init_108 : decode cX0_init 108 = .ok (.aload_n 0, 1) := by decide +kernel
theorem dX0_init_109 : decode cX0_init 109 = .ok (.bipush 40, 2) := by decide +kernel
theorem dX0_init_111 : decode cX0_init 111 = .ok (.newarray .int, 2) := by decide +kernel
theorem dX0_init_113 : decode cX0_init 113 = .ok (.putfield 49, 3) := by decide +kernel
theorem dX0_init_116 : decode cX0_init 116 = .ok (.return_, 1) := by decide +kernel
set_option maxRecDepth 20000 in
theorem ggX0_hymn_X0_isBetween : GoodIn wsX0_hymn wsX0_isBetween := goodIn_r _ [10] (by decide +kernel) (by decide +kernel)
set_option maxRecDepth 20000 in
theorem gX0_hymn_X0_isBetween : GoodIn wsX0_hymn (va_wsS RX0 52 yX0_isBetween wsX0_isBetween) := goodIn_app (goodIn_of _ (by decide +kernel)) ggX0_hymn_X0_isBetween
set_option maxRecDepth 20000 in
theorem ggX0_hymn_X0_needIndex : GoodIn wsX0_hymn wsX0_needIndex := goodIn_ca (goodIn_r _ [13, 14, 15] (by decide +kernel) (by decide +kernel)) (goodIn_sub (fun _ h => List.mem_cons_of_mem _ (List.mem_append_left _ (List.mem_append_left _ (List.mem_append_right _ h)))) (by decide +kernel))
set_option maxRecDepth 20000 in
theorem gX0_hymn_X0_needIndex : GoodIn wsX0_hymn (va_wsS RX0 56 yX0_needIndex wsX0_needIndex) := goodIn_app (goodIn_of _ (by decide +kernel)) ggX0_hymn_X0_needIndex
set_option maxRecDepth 20000 in
theorem ggX0_hymn_X0_needArgument : GoodIn wsX0_hymn wsX0_needArgument := goodIn_ca (goodIn_r _ [18, 19, 20] (by decide +kernel) (by decide +kernel)) (goodIn_sub (fun _ h => List.mem_cons_of_mem _ (List.mem_append_left _ (List.mem_append_right _ h))) (by decide +kernel))
set_option maxRecDepth 20000 in
theorem gX0_hymn_X0_needArgument : GoodIn wsX0_hymn (va_wsS RX0 60 yX0_needArgument wsX0_needArgument) := goodIn_app (goodIn_of _ (by decide +kernel)) ggX0_hymn_X0_needArgument
set_option maxRecDepth 20000 in
theorem ggX0_hymn_X0_needState : GoodIn wsX0_hymn wsX0_needState := goodIn_ca (goodIn_r _ [23, 24, 25] (by decide +kernel) (by decide +kernel)) (goodIn_sub (fun _ h => List.mem_cons_of_mem _ (List.mem_append_right _ h)) (by decide +kernel))
set_option maxRecDepth 20000 in
theorem gX0_hymn_X0_needState : GoodIn wsX0_hymn (va_wsS RX0 67 yX0_needState wsX0_needState) := goodIn_app (goodIn_of _ (by decide +kernel)) ggX0_hymn_X0_needState
set_option maxRecDepth 20000 in
theorem ggX0_hymn_X0_turns : GoodIn wsX0_hymn wsX0_turns := goodIn_r _ [28, 29, 30, 9, 31, 32, 33, 34] (by decide +kernel) (by decide +kernel)
set_option maxRecDepth 20000 in
theorem gX0_hymn_X0_turns : GoodIn wsX0_hymn (va_wsS RX0 70 yX0_turns wsX0_turns) := goodIn_app (goodIn_of _ (by decide +kernel)) ggX0_hymn_X0_turns
theorem dX0_hymn_0 : decode cX0_hymn 0 = .ok (.iload_n 1, 1) := by decide +kernel
theorem dX0_hymn_1 : decode cX0_hymn 1 = .ok (.iconst 0, 1) := by decide +kernel
theorem dX0_hymn_2 : decode cX0_hymn 2 = .ok (.iconst 4, 1) := by decide +kernel
theorem dX0_hymn_3 : decode cX0_hymn 3 = .ok (.invokestatic 52, 3) := by decide +kernel
theorem dX0_hymn_6 : decode cX0_hymn 6 = .ok (.invokestatic 56, 3) := by decide +kernel
theorem dX0_hymn_9 : decode cX0_hymn 9 = .ok (.iload_n 2, 1) := by decide +kernel
theorem dX0_hymn_10 : decode cX0_hymn 10 = .ok (.iconst 1, 1) := by decide +kernel
theorem dX0_hymn_11 : decode cX0_hymn 11 = .ok (.bipush 15, 2) := by decide +kernel
theorem dX0_hymn_13 : decode cX0_hymn 13 = .ok (.invokestatic 52, 3) := by decide +kernel
theorem dX0_hymn_16 : decode cX0_hymn 16 = .ok (.invokestatic 60, 3) := by decide +kernel
theorem dX0_hymn_19 : decode cX0_hymn 19 = .ok (.iload_n 3, 1) := by decide +kernel
theorem dX0_hymn_20 : decode cX0_hymn 20 = .ok (.iconst 1, 1) := by decide +kernel
theorem dX0_hymn_21 : decode cX0_hymn 21 = .ok (.bipush 30, 2) := by decide +kernel
theorem dX0_hymn_23 : decode cX0_hymn 23 = .ok (.invokestatic 52, 3) := by decide +kernel
theorem dX0_hymn_26 : decode cX0_hymn 26 = .ok (.invokestatic 60, 3) := by decide +kernel
theorem dX0_hymn_29 : decode cX0_hymn 29 = .ok (.iload 4, 2) := by decide +kernel
theorem dX0_hymn_31 : decode cX0_hymn 31 = .ok (.iconst 0, 1) := by decide +kernel
theorem dX0_hymn_32 : decode cX0_hymn 32 = .ok (.iconst 1, 1) := by decide +kernel
theorem dX0_hymn_33 : decode cX0_hymn 33 = .ok (.iload_n 3, 1) := by decide +kernel
theorem dX0_hymn_34 : decode cX0_hymn 34 = .ok (.ishl, 1) := by decide +kernel
theorem dX0_hymn_35 : decode cX0_hymn 35 = .ok (.iconst 1, 1) := by decide +kernel
theorem dX0_hymn_36 : decode cX0_hymn 36 = .ok (.isub, 1) := by decide +kernel
theorem dX0_hymn_37 : decode cX0_hymn 37 = .ok (.invokestatic 52, 3) := by decide +kernel
theorem dX0_hymn_40 : decode cX0_hymn 40 = .ok (.invokestatic 60, 3) := by decide +kernel
theorem dX0_hymn_43 : decode cX0_hymn 43 = .ok (.aload_n 0, 1) := by decide +kernel
theorem dX0_hymn_44 : decode cX0_hymn 44 = .ok (.getfield 63, 3) := by decide +kernel
theorem dX0_hymn_47 : decode cX0_hymn 47 = .ok (.bipush 16, 2) := by decide +kernel
theorem dX0_hymn_49 : decode cX0_hymn 49 = .ok (.if_icmp .ge 7, 3) := by decide +kernel
theorem dX0_hymn_52 : decode cX0_hymn 52 = .ok (.iconst 1, 1) := by decide +kernel
theorem dX0_hymn_53 : decode cX0_hymn 53 = .ok (.goto 4, 3) := by decide +kernel
theorem dX0_hymn_56 : decode cX0_hymn 56 = .ok (.iconst 0, 1) := by decide +kernel
theorem dX0_hymn_57 : decode cX0_hymn 57 = .ok (.invokestatic 67, 3) := by decide +kernel
theorem dX0_hymn_60 : decode cX0_hymn 60 = .ok (.aload_n 0, 1) := by decide +kernel
theorem dX0_hymn_61 : decode cX0_hymn 61 = .ok (.getfield 63, 3) := by decide +kernel
theorem dX0_hymn_64 : decode cX0_hymn 64 = .ok (.istore 5, 2) := by decide +kernel
theorem dX0_hymn_66 : decode cX0_hymn 66 = .ok (.aload_n 0, 1) := by decide +kernel
theorem dX0_hymn_67 : decode cX0_hymn 67 = .ok (.getfield 9, 3) := by decide +kernel
theorem dX0_hymn_70 : decode cX0_hymn 70 = .ok (.iload 5, 2) := by decide +kernel
theorem dX0_hymn_72 : decode cX0_hymn 72 = .ok (.iload_n 1, 1) := by decide +kernel
theorem dX0_hymn_73 : decode cX0_hymn 73 = .ok (.iastore, 1) := by decide +kernel
theorem dX0_hymn_74 : decode cX0_hymn 74 = .ok (.aload_n 0, 1) := by decide +kernel
theorem dX0_hymn_75 : decode cX0_hymn 75 = .ok (.getfield 13, 3) := by decide +kernel
theorem dX0_hymn_78 : decode cX0_hymn 78 = .ok (.iload 5, 2) := by decide +kernel
theorem dX0_hymn_80 : decode cX0_hymn 80 = .ok (.iload_n 2, 1) := by decide +kernel
theorem dX0_hymn_81 : decode cX0_hymn 81 = .ok (.iastore, 1) := by decide +kernel
theorem dX0_hymn_82 : decode cX0_hymn 82 = .ok (.aload_n 0, 1) := by decide +kernel
theorem dX0_hymn_83 : decode cX0_hymn 83 = .ok (.getfield 16, 3) := by decide +kernel
theorem dX0_hymn_86 : decode cX0_hymn 86 = .ok (.iload 5, 2) := by decide +kernel
theorem dX0_hymn_88 : decode cX0_hymn 88 = .ok (.iload_n 3, 1) := by decide +kernel
theorem dX0_hymn_89 : decode cX0_hymn 89 = .ok (.iastore, 1) := by decide +kernel
theorem dX0_hymn_90 : decode cX0_hymn 90 = .ok (.aload_n 0, 1) := by decide +kernel
theorem dX0_hymn_91 : decode cX0_hymn 91 = .ok (.getfield 19, 3) := by decide +kernel
theorem dX0_hymn_94 : decode cX0_hymn 94 = .ok (.iload 5, 2) := by decide +kernel
theorem dX0_hymn_96 : decode cX0_hymn 96 = .ok (.iload 4, 2) := by decide +kernel
theorem dX0_hymn_98 : decode cX0_hymn 98 = .ok (.iastore, 1) := by decide +kernel
theorem dX0_hymn_99 : decode cX0_hymn 99 = .ok (.aload_n 0, 1) := by decide +kernel
theorem dX0_hymn_100 : decode cX0_hymn 100 = .ok (.getfield 22, 3) := by decide +kernel
theorem dX0_hymn_103 : decode cX0_hymn 103 = .ok (.iload 5, 2) := by decide +kernel
theorem dX0_hymn_105 : decode cX0_hymn 105 = .ok (.iload_n 3, 1) := by decide +kernel
theorem dX0_hymn_106 : decode cX0_hymn 106 = .ok (.iload 4, 2) := by decide +kernel
theorem dX0_hymn_108 : decode cX0_hymn 108 = .ok (.invokestatic 70, 3) := by decide +kernel
theorem dX0_hymn_111 : decode cX0_hymn 111 = .ok (.iastore, 1) := by decide +kernel
theorem dX0_hymn_112 : decode cX0_hymn 112 = .ok (.aload_n 0, 1) := by decide +kernel
theorem dX0_hymn_113 : decode cX0_hymn 113 = .ok (.dup, 1) := by decide +kernel
theorem dX0_hymn_114 : decode cX0_hymn 114 = .ok (.getfield 63, 3) := by decide +kernel
theorem dX0_hymn_117 : decode cX0_hymn 117 = .ok (.iconst 1, 1) := by decide +kernel
theorem dX0_hymn_118 : decode cX0_hymn 118 = .ok (.iadd, 1) := by decide +kernel
theorem dX0_hymn_119 : decode cX0_hymn 119 = .ok (.putfield 63, 3) := by decide +kernel
theorem dX0_hymn_122 : decode cX0_hymn 122 = .ok (.iload 5, 2) := by decide +kernel
theorem dX0_hymn_124 : decode cX0_hymn 124 = .ok (.ireturn, 1) := by decide +kernel
theorem dX0_hymns_0 : decode cX0_hymns 0 = .ok (.aload_n 0, 1) := by decide +kernel
theorem dX0_hymns_1 : decode cX0_hymns 1 = .ok (.getfield 63, 3) := by decide +kernel
theorem dX0_hymns_4 : decode cX0_hymns 4 = .ok (.ireturn, 1) := by decide +kernel
set_option maxRecDepth 20000 in
theorem ggX0_pages_X0_isHymn : GoodIn wsX0_pages wsX0_isHymn := goodIn_r _ [5, 6, 7, 8, 4, 9, 27, 28, 29, 30, 31, 32, 33, 34, 35, 36, 37, 38, 39, 40, 41, 42, 43, 44] (by decide +kernel) (by decide +kernel)
set_option maxRecDepth 20000 in
theorem gX0_pages_X0_isHymn : GoodIn wsX0_pages (wsV RX0 74 RX0 yX0_isHymn wsX0_isHymn) := goodIn_app (goodIn_of _ (by decide +kernel)) ggX0_pages_X0_isHymn
set_option maxRecDepth 20000 in
theorem ggX0_pages_X0_needIndex : GoodIn wsX0_pages wsX0_needIndex := goodIn_ca (goodIn_r _ [12, 13, 14] (by decide +kernel) (by decide +kernel)) (goodIn_sub (fun _ h => List.mem_cons_of_mem _ (List.mem_append_right _ h)) (by decide +kernel))
set_option maxRecDepth 20000 in
theorem gX0_pages_X0_needIndex : GoodIn wsX0_pages (va_wsS RX0 56 yX0_needIndex wsX0_needIndex) := goodIn_app (goodIn_of _ (by decide +kernel)) ggX0_pages_X0_needIndex
set_option maxRecDepth 20000 in
theorem ggX0_pages_X0_pageCount : GoodIn wsX0_pages wsX0_pageCount := goodIn_r _ [18, 19, 20, 21, 22, 23, 24, 25, 26, 27, 28, 29, 30, 31, 32, 33, 34, 35, 36, 37, 38, 39, 40, 41, 42, 43, 44] (by decide +kernel) (by decide +kernel)
set_option maxRecDepth 20000 in
theorem gX0_pages_X0_pageCount : GoodIn wsX0_pages (wsV RX0 78 RX0 yX0_pageCount wsX0_pageCount) := goodIn_app (goodIn_of _ (by decide +kernel)) ggX0_pages_X0_pageCount
theorem dX0_pages_0 : decode cX0_pages 0 = .ok (.aload_n 0, 1) := by decide +kernel
theorem dX0_pages_1 : decode cX0_pages 1 = .ok (.iload_n 1, 1) := by decide +kernel
theorem dX0_pages_2 : decode cX0_pages 2 = .ok (.invokevirtual 74, 3) := by decide +kernel
theorem dX0_pages_5 : decode cX0_pages 5 = .ok (.invokestatic 56, 3) := by decide +kernel
theorem dX0_pages_8 : decode cX0_pages 8 = .ok (.aload_n 0, 1) := by decide +kernel
theorem dX0_pages_9 : decode cX0_pages 9 = .ok (.iload_n 1, 1) := by decide +kernel
theorem dX0_pages_10 : decode cX0_pages 10 = .ok (.invokevirtual 78, 3) := by decide +kernel
theorem dX0_pages_13 : decode cX0_pages 13 = .ok (.ireturn, 1) := by decide +kernel
set_option maxRecDepth 20000 in
theorem ggX0_pageOf_X0_isHymn : GoodIn wsX0_pageOf wsX0_isHymn := goodIn_r _ [7, 8, 9, 10, 6, 11, 24, 25, 26, 27, 28, 29, 30, 31, 32, 33, 34, 35, 36, 37, 38, 39, 40, 41] (by decide +kernel) (by decide +kernel)
set_option maxRecDepth 20000 in
theorem gX0_pageOf_X0_isHymn : GoodIn wsX0_pageOf (wsV RX0 74 RX0 yX0_isHymn wsX0_isHymn) := goodIn_app (goodIn_of _ (by decide +kernel)) ggX0_pageOf_X0_isHymn
set_option maxRecDepth 20000 in
theorem ggX0_pageOf_X0_needIndex : GoodIn wsX0_pageOf wsX0_needIndex := goodIn_ca (goodIn_r _ [14, 15, 16] (by decide +kernel) (by decide +kernel)) (goodIn_sub (fun _ h => List.mem_cons_of_mem _ (List.mem_append_right _ h)) (by decide +kernel))
set_option maxRecDepth 20000 in
theorem gX0_pageOf_X0_needIndex : GoodIn wsX0_pageOf (va_wsS RX0 56 yX0_needIndex wsX0_needIndex) := goodIn_app (goodIn_of _ (by decide +kernel)) ggX0_pageOf_X0_needIndex
set_option maxRecDepth 20000 in
theorem ggX0_pageOf_X0_isBetween : GoodIn wsX0_pageOf wsX0_isBetween := goodIn_r _ [11] (by decide +kernel) (by decide +kernel)
set_option maxRecDepth 20000 in
theorem gX0_pageOf_X0_isBetween : GoodIn wsX0_pageOf (va_wsS RX0 52 yX0_isBetween wsX0_isBetween) := goodIn_app (goodIn_of _ (by decide +kernel)) ggX0_pageOf_X0_isBetween
set_option maxRecDepth 20000 in
theorem ggX0_pageOf_J6_bitCount_0f7a4 : GoodIn wsX0_pageOf wsJ6_bitCount_0f7a4 := goodIn_r _ [20, 21, 22, 23] (by decide +kernel) (by decide +kernel)
set_option maxRecDepth 20000 in
theorem gX0_pageOf_J6_bitCount_0f7a4 : GoodIn wsX0_pageOf (va_wsS RX0 82 yJ6_bitCount_0f7a4 wsJ6_bitCount_0f7a4) := goodIn_app (goodIn_of _ (by decide +kernel)) ggX0_pageOf_J6_bitCount_0f7a4
theorem dX0_pageOf_0 : decode cX0_pageOf 0 = .ok (.aload_n 0, 1) := by decide +kernel
theorem dX0_pageOf_1 : decode cX0_pageOf 1 = .ok (.iload_n 1, 1) := by decide +kernel
theorem dX0_pageOf_2 : decode cX0_pageOf 2 = .ok (.invokevirtual 74, 3) := by decide +kernel
theorem dX0_pageOf_5 : decode cX0_pageOf 5 = .ok (.invokestatic 56, 3) := by decide +kernel
theorem dX0_pageOf_8 : decode cX0_pageOf 8 = .ok (.iload_n 2, 1) := by decide +kernel
theorem dX0_pageOf_9 : decode cX0_pageOf 9 = .ok (.iconst 0, 1) := by decide +kernel
theorem dX0_pageOf_10 : decode cX0_pageOf 10 = .ok (.aload_n 0, 1) := by decide +kernel
theorem dX0_pageOf_11 : decode cX0_pageOf 11 = .ok (.getfield 16, 3) := by decide +kernel
theorem dX0_pageOf_14 : decode cX0_pageOf 14 = .ok (.iload_n 1, 1) := by decide +kernel
theorem dX0_pageOf_15 : decode cX0_pageOf 15 = .ok (.iaload, 1) := by decide +kernel
theorem dX0_pageOf_16 : decode cX0_pageOf 16 = .ok (.iconst 1, 1) := by decide +kernel
theorem dX0_pageOf_17 : decode cX0_pageOf 17 = .ok (.isub, 1) := by decide +kernel
theorem dX0_pageOf_18 : decode cX0_pageOf 18 = .ok (.invokestatic 52, 3) := by decide +kernel
theorem dX0_pageOf_21 : decode cX0_pageOf 21 = .ok (.invokestatic 56, 3) := by decide +kernel
theorem dX0_pageOf_24 : decode cX0_pageOf 24 = .ok (.iconst 1, 1) := by decide +kernel
theorem dX0_pageOf_25 : decode cX0_pageOf 25 = .ok (.iload_n 2, 1) := by decide +kernel
theorem dX0_pageOf_26 : decode cX0_pageOf 26 = .ok (.ishl, 1) := by decide +kernel
theorem dX0_pageOf_27 : decode cX0_pageOf 27 = .ok (.iconst 1, 1) := by decide +kernel
theorem dX0_pageOf_28 : decode cX0_pageOf 28 = .ok (.isub, 1) := by decide +kernel
theorem dX0_pageOf_29 : decode cX0_pageOf 29 = .ok (.istore_n 3, 1) := by decide +kernel
theorem dX0_pageOf_30 : decode cX0_pageOf 30 = .ok (.aload_n 0, 1) := by decide +kernel
theorem dX0_pageOf_31 : decode cX0_pageOf 31 = .ok (.getfield 22, 3) := by decide +kernel
theorem dX0_pageOf_34 : decode cX0_pageOf 34 = .ok (.iload_n 1, 1) := by decide +kernel
theorem dX0_pageOf_35 : decode cX0_pageOf 35 = .ok (.iaload, 1) := by decide +kernel
theorem dX0_pageOf_36 : decode cX0_pageOf 36 = .ok (.iload_n 3, 1) := by decide +kernel
theorem dX0_pageOf_37 : decode cX0_pageOf 37 = .ok (.iand, 1) := by decide +kernel
theorem dX0_pageOf_38 : decode cX0_pageOf 38 = .ok (.invokestatic 82, 3) := by decide +kernel
theorem dX0_pageOf_41 : decode cX0_pageOf 41 = .ok (.ireturn, 1) := by decide +kernel
set_option maxRecDepth 20000 in
theorem ggX0_badTurns_X0_isHymn : GoodIn wsX0_badTurns wsX0_isHymn := goodIn_r _ [7, 8, 9, 10, 6, 11, 24, 25, 26, 27, 28, 29, 30, 31, 32, 33, 34, 35, 36, 37, 38, 39, 40, 41] (by decide +kernel) (by decide +kernel)
set_option maxRecDepth 20000 in
theorem gX0_badTurns_X0_isHymn : GoodIn wsX0_badTurns (wsV RX0 74 RX0 yX0_isHymn wsX0_isHymn) := goodIn_app (goodIn_of _ (by decide +kernel)) ggX0_badTurns_X0_isHymn
set_option maxRecDepth 20000 in
theorem ggX0_badTurns_X0_needIndex : GoodIn wsX0_badTurns wsX0_needIndex := goodIn_ca (goodIn_r _ [14, 15, 16] (by decide +kernel) (by decide +kernel)) (goodIn_sub (fun _ h => List.mem_cons_of_mem _ (List.mem_append_right _ h)) (by decide +kernel))
set_option maxRecDepth 20000 in
theorem gX0_badTurns_X0_needIndex : GoodIn wsX0_badTurns (va_wsS RX0 56 yX0_needIndex wsX0_needIndex) := goodIn_app (goodIn_of _ (by decide +kernel)) ggX0_badTurns_X0_needIndex
set_option maxRecDepth 20000 in
theorem ggX0_badTurns_J6_bitCount_0f7a4 : GoodIn wsX0_badTurns wsJ6_bitCount_0f7a4 := goodIn_r _ [20, 21, 22, 23] (by decide +kernel) (by decide +kernel)
set_option maxRecDepth 20000 in
theorem gX0_badTurns_J6_bitCount_0f7a4 : GoodIn wsX0_badTurns (va_wsS RX0 82 yJ6_bitCount_0f7a4 wsJ6_bitCount_0f7a4) := goodIn_app (goodIn_of _ (by decide +kernel)) ggX0_badTurns_J6_bitCount_0f7a4
theorem dX0_badTurns_0 : decode cX0_badTurns 0 = .ok (.aload_n 0, 1) := by decide +kernel
theorem dX0_badTurns_1 : decode cX0_badTurns 1 = .ok (.iload_n 1, 1) := by decide +kernel
theorem dX0_badTurns_2 : decode cX0_badTurns 2 = .ok (.invokevirtual 74, 3) := by decide +kernel
theorem dX0_badTurns_5 : decode cX0_badTurns 5 = .ok (.invokestatic 56, 3) := by decide +kernel
theorem dX0_badTurns_8 : decode cX0_badTurns 8 = .ok (.aload_n 0, 1) := by decide +kernel
theorem dX0_badTurns_9 : decode cX0_badTurns 9 = .ok (.getfield 22, 3) := by decide +kernel
theorem dX0_badTurns_12 : decode cX0_badTurns 12 = .ok (.iload_n 1, 1) := by decide +kernel
theorem dX0_badTurns_13 : decode cX0_badTurns 13 = .ok (.iaload, 1) := by decide +kernel
theorem dX0_badTurns_14 : decode cX0_badTurns 14 = .ok (.aload_n 0, 1) := by decide +kernel
theorem dX0_badTurns_15 : decode cX0_badTurns 15 = .ok (.getfield 19, 3) := by decide +kernel
theorem dX0_badTurns_18 : decode cX0_badTurns 18 = .ok (.iload_n 1, 1) := by decide +kernel
theorem dX0_badTurns_19 : decode cX0_badTurns 19 = .ok (.iaload, 1) := by decide +kernel
theorem dX0_badTurns_20 : decode cX0_badTurns 20 = .ok (.iconst (-1), 1) := by decide +kernel
theorem dX0_badTurns_21 : decode cX0_badTurns 21 = .ok (.ixor, 1) := by decide +kernel
theorem dX0_badTurns_22 : decode cX0_badTurns 22 = .ok (.iand, 1) := by decide +kernel
theorem dX0_badTurns_23 : decode cX0_badTurns 23 = .ok (.invokestatic 82, 3) := by decide +kernel
theorem dX0_badTurns_26 : decode cX0_badTurns 26 = .ok (.ireturn, 1) := by decide +kernel
set_option maxRecDepth 20000 in
theorem ggX0_pageCount_J6_bitCount_0f7a4 : GoodIn wsX0_pageCount wsJ6_bitCount_0f7a4 := goodIn_r _ [5, 6, 7, 8] (by decide +kernel) (by decide +kernel)
set_option maxRecDepth 20000 in
theorem gX0_pageCount_J6_bitCount_0f7a4 : GoodIn wsX0_pageCount (va_wsS RX0 82 yJ6_bitCount_0f7a4 wsJ6_bitCount_0f7a4) := goodIn_app (goodIn_of _ (by decide +kernel)) ggX0_pageCount_J6_bitCount_0f7a4
theorem dX0_pageCount_0 : decode cX0_pageCount 0 = .ok (.aload_n 0, 1) := by decide +kernel
theorem dX0_pageCount_1 : decode cX0_pageCount 1 = .ok (.getfield 22, 3) := by decide +kernel
theorem dX0_pageCount_4 : decode cX0_pageCount 4 = .ok (.iload_n 1, 1) := by decide +kernel
theorem dX0_pageCount_5 : decode cX0_pageCount 5 = .ok (.iaload, 1) := by decide +kernel
theorem dX0_pageCount_6 : decode cX0_pageCount 6 = .ok (.invokestatic 82, 3) := by decide +kernel
theorem dX0_pageCount_9 : decode cX0_pageCount 9 = .ok (.iconst 1, 1) := by decide +kernel
theorem dX0_pageCount_10 : decode cX0_pageCount 10 = .ok (.iadd, 1) := by decide +kernel
theorem dX0_pageCount_11 : decode cX0_pageCount 11 = .ok (.ireturn, 1) := by decide +kernel
set_option maxRecDepth 20000 in
theorem ggX0_turns_X0_lastLineOfFullPage : GoodIn wsX0_turns wsX0_lastLineOfFullPage := goodIn_r _ [4, 5, 6, 3, 7] (by decide +kernel) (by decide +kernel)
set_option maxRecDepth 20000 in
theorem gX0_turns_X0_lastLineOfFullPage : GoodIn wsX0_turns (va_wsS RX0 87 yX0_lastLineOfFullPage wsX0_lastLineOfFullPage) := goodIn_app (goodIn_of _ (by decide +kernel)) ggX0_turns_X0_lastLineOfFullPage
theorem dX0_turns_0 : decode cX0_turns 0 = .ok (.iconst 0, 1) := by decide +kernel
theorem dX0_turns_1 : decode cX0_turns 1 = .ok (.istore_n 2, 1) := by decide +kernel
theorem dX0_turns_2 : decode cX0_turns 2 = .ok (.iconst 0, 1) := by decide +kernel
theorem dX0_turns_3 : decode cX0_turns 3 = .ok (.istore_n 3, 1) := by decide +kernel
theorem dX0_turns_4 : decode cX0_turns 4 = .ok (.iconst 0, 1) := by decide +kernel
theorem dX0_turns_5 : decode cX0_turns 5 = .ok (.istore 4, 2) := by decide +kernel
theorem dX0_turns_7 : decode cX0_turns 7 = .ok (.iload 4, 2) := by decide +kernel
theorem dX0_turns_9 : decode cX0_turns 9 = .ok (.iload_n 0, 1) := by decide +kernel
theorem dX0_turns_10 : decode cX0_turns 10 = .ok (.if_icmp .ge 36, 3) := by decide +kernel
theorem dX0_turns_13 : decode cX0_turns 13 = .ok (.iload_n 0, 1) := by decide +kernel
theorem dX0_turns_14 : decode cX0_turns 14 = .ok (.iload_n 3, 1) := by decide +kernel
theorem dX0_turns_15 : decode cX0_turns 15 = .ok (.isub, 1) := by decide +kernel
theorem dX0_turns_16 : decode cX0_turns 16 = .ok (.bipush 8, 2) := by decide +kernel
theorem dX0_turns_18 : decode cX0_turns 18 = .ok (.if_icmp .le 28, 3) := by decide +kernel
theorem dX0_turns_21 : decode cX0_turns 21 = .ok (.iload_n 3, 1) := by decide +kernel
theorem dX0_turns_22 : decode cX0_turns 22 = .ok (.iload_n 1, 1) := by decide +kernel
theorem dX0_turns_23 : decode cX0_turns 23 = .ok (.invokestatic 87, 3) := by decide +kernel
theorem dX0_turns_26 : decode cX0_turns 26 = .ok (.istore 5, 2) := by decide +kernel
theorem dX0_turns_28 : decode cX0_turns 28 = .ok (.iload_n 2, 1) := by decide +kernel
theorem dX0_turns_29 : decode cX0_turns 29 = .ok (.iconst 1, 1) := by decide +kernel
theorem dX0_turns_30 : decode cX0_turns 30 = .ok (.iload 5, 2) := by decide +kernel
theorem dX0_turns_32 : decode cX0_turns 32 = .ok (.ishl, 1) := by decide +kernel
theorem dX0_turns_33 : decode cX0_turns 33 = .ok (.ior, 1) := by decide +kernel
theorem dX0_turns_34 : decode cX0_turns 34 = .ok (.istore_n 2, 1) := by decide +kernel
theorem dX0_turns_35 : decode cX0_turns 35 = .ok (.iload 5, 2) := by decide +kernel
theorem dX0_turns_37 : decode cX0_turns 37 = .ok (.iconst 1, 1) := by decide +kernel
theorem dX0_turns_38 : decode cX0_turns 38 = .ok (.iadd, 1) := by decide +kernel
theorem dX0_turns_39 : decode cX0_turns 39 = .ok (.istore_n 3, 1) := by decide +kernel
theorem dX0_turns_40 : decode cX0_turns 40 = .ok (.iinc 4 1, 3) := by decide +kernel
theorem dX0_turns_43 : decode cX0_turns 43 = .ok (.goto (-36), 3) := by decide +kernel
theorem dX0_turns_46 : decode cX0_turns 46 = .ok (.iload_n 2, 1) := by decide +kernel
theorem dX0_turns_47 : decode cX0_turns 47 = .ok (.ireturn, 1) := by decide +kernel
set_option maxRecDepth 20000 in
theorem ggX0_lastLineOfFullPage_X0_isInSet : GoodIn wsX0_lastLineOfFullPage wsX0_isInSet := goodIn_r _ [4] (by decide +kernel) (by decide +kernel)
set_option maxRecDepth 20000 in
theorem gX0_lastLineOfFullPage_X0_isInSet : GoodIn wsX0_lastLineOfFullPage (va_wsS RX0 90 yX0_isInSet wsX0_isInSet) := goodIn_app (goodIn_of _ (by decide +kernel)) ggX0_lastLineOfFullPage_X0_isInSet
theorem dX0_lastLineOfFullPage_0 : decode cX0_lastLineOfFullPage 0 = .ok (.iload_n 0, 1) := by decide +kernel
theorem dX0_lastLineOfFullPage_1 : decode cX0_lastLineOfFullPage 1 = .ok (.bipush 8, 2) := by decide +kernel
theorem dX0_lastLineOfFullPage_3 : decode cX0_lastLineOfFullPage 3 = .ok (.iadd, 1) := by decide +kernel
theorem dX0_lastLineOfFullPage_4 : decode cX0_lastLineOfFullPage 4 = .ok (.iconst 1, 1) := by decide +kernel
theorem dX0_lastLineOfFullPage_5 : decode cX0_lastLineOfFullPage 5 = .ok (.isub, 1) := by decide +kernel
theorem dX0_lastLineOfFullPage_6 : decode cX0_lastLineOfFullPage 6 = .ok (.istore_n 2, 1) := by decide +kernel
theorem dX0_lastLineOfFullPage_7 : decode cX0_lastLineOfFullPage 7 = .ok (.iload_n 2, 1) := by decide +kernel
theorem dX0_lastLineOfFullPage_8 : decode cX0_lastLineOfFullPage 8 = .ok (.istore_n 3, 1) := by decide +kernel
theorem dX0_lastLineOfFullPage_9 : decode cX0_lastLineOfFullPage 9 = .ok (.iload_n 3, 1) := by decide +kernel
theorem dX0_lastLineOfFullPage_10 : decode cX0_lastLineOfFullPage 10 = .ok (.iload_n 0, 1) := by decide +kernel
theorem dX0_lastLineOfFullPage_11 : decode cX0_lastLineOfFullPage 11 = .ok (.if_icmp .lt 20, 3) := by decide +kernel
theorem dX0_lastLineOfFullPage_14 : decode cX0_lastLineOfFullPage 14 = .ok (.iload_n 3, 1) := by decide +kernel
theorem dX0_lastLineOfFullPage_15 : decode cX0_lastLineOfFullPage 15 = .ok (.iload_n 1, 1) := by decide +kernel
theorem dX0_lastLineOfFullPage_16 : decode cX0_lastLineOfFullPage 16 = .ok (.i2l, 1) := by decide +kernel
theorem dX0_lastLineOfFullPage_17 : decode cX0_lastLineOfFullPage 17 = .ok (.invokestatic 90, 3) := by decide +kernel
theorem dX0_lastLineOfFullPage_20 : decode cX0_lastLineOfFullPage 20 = .ok (.ifCond .eq 5, 3) := by decide +kernel
theorem dX0_lastLineOfFullPage_23 : decode cX0_lastLineOfFullPage 23 = .ok (.iload_n 3, 1) := by decide +kernel
theorem dX0_lastLineOfFullPage_24 : decode cX0_lastLineOfFullPage 24 = .ok (.ireturn, 1) := by decide +kernel
theorem dX0_lastLineOfFullPage_25 : decode cX0_lastLineOfFullPage 25 = .ok (.iinc 3 (-1), 3) := by decide +kernel
theorem dX0_lastLineOfFullPage_28 : decode cX0_lastLineOfFullPage 28 = .ok (.goto (-19), 3) := by decide +kernel
theorem dX0_lastLineOfFullPage_31 : decode cX0_lastLineOfFullPage 31 = .ok (.iload_n 2, 1) := by decide +kernel
theorem dX0_lastLineOfFullPage_32 : decode cX0_lastLineOfFullPage 32 = .ok (.ireturn, 1) := by decide +kernel
set_option maxRecDepth 20000 in
theorem ggX0_right_X0_isHymn : GoodIn wsX0_right wsX0_isHymn := goodIn_r _ [10, 11, 12, 13, 9, 14, 36, 37, 38, 39, 40, 41, 42, 43, 44, 45, 46, 47, 48, 49, 50, 51, 52, 53] (by decide +kernel) (by decide +kernel)
set_option maxRecDepth 20000 in
theorem gX0_right_X0_isHymn : GoodIn wsX0_right (wsV RX0 74 RX0 yX0_isHymn wsX0_isHymn) := goodIn_app (goodIn_of _ (by decide +kernel)) ggX0_right_X0_isHymn
set_option maxRecDepth 20000 in
theorem ggX0_right_X0_needIndex : GoodIn wsX0_right wsX0_needIndex := goodIn_ca (goodIn_r _ [17, 18, 19] (by decide +kernel) (by decide +kernel)) (goodIn_sub (fun _ h => List.mem_cons_of_mem _ (List.mem_append_left _ (List.mem_append_left _ (List.mem_append_right _ h)))) (by decide +kernel))
set_option maxRecDepth 20000 in
theorem gX0_right_X0_needIndex : GoodIn wsX0_right (va_wsS RX0 56 yX0_needIndex wsX0_needIndex) := goodIn_app (goodIn_of _ (by decide +kernel)) ggX0_right_X0_needIndex
set_option maxRecDepth 20000 in
theorem ggX0_right_X0_isUse : GoodIn wsX0_right wsX0_isUse := goodIn_r _ [22, 12, 13, 9, 14] (by decide +kernel) (by decide +kernel)
set_option maxRecDepth 20000 in
theorem gX0_right_X0_isUse : GoodIn wsX0_right (va_wsS RX0 94 yX0_isUse wsX0_isUse) := goodIn_app (goodIn_of _ (by decide +kernel)) ggX0_right_X0_isUse
set_option maxRecDepth 20000 in
theorem ggX0_right_X0_isDay : GoodIn wsX0_right wsX0_isDay := goodIn_r _ [25, 12, 13, 9, 14] (by decide +kernel) (by decide +kernel)
set_option maxRecDepth 20000 in
theorem gX0_right_X0_isDay : GoodIn wsX0_right (va_wsS RX0 97 yX0_isDay wsX0_isDay) := goodIn_app (goodIn_of _ (by decide +kernel)) ggX0_right_X0_isDay
set_option maxRecDepth 20000 in
theorem ggX0_right_X0_needArgument : GoodIn wsX0_right wsX0_needArgument := goodIn_ca (goodIn_r _ [28, 29, 30] (by decide +kernel) (by decide +kernel)) (goodIn_sub (fun _ h => List.mem_cons_of_mem _ (List.mem_append_left _ (List.mem_append_right _ h))) (by decide +kernel))
set_option maxRecDepth 20000 in
theorem gX0_right_X0_needArgument : GoodIn wsX0_right (va_wsS RX0 60 yX0_needArgument wsX0_needArgument) := goodIn_app (goodIn_of _ (by decide +kernel)) ggX0_right_X0_needArgument
set_option maxRecDepth 20000 in
theorem ggX0_right_X0_isBetween : GoodIn wsX0_right wsX0_isBetween := goodIn_r _ [14] (by decide +kernel) (by decide +kernel)
set_option maxRecDepth 20000 in
theorem gX0_right_X0_isBetween : GoodIn wsX0_right (va_wsS RX0 52 yX0_isBetween wsX0_isBetween) := goodIn_app (goodIn_of _ (by decide +kernel)) ggX0_right_X0_isBetween
set_option maxRecDepth 20000 in
theorem ggX0_right_X0_needState : GoodIn wsX0_right wsX0_needState := goodIn_ca (goodIn_r _ [33, 34, 35] (by decide +kernel) (by decide +kernel)) (goodIn_sub (fun _ h => List.mem_cons_of_mem _ (List.mem_append_right _ h)) (by decide +kernel))
set_option maxRecDepth 20000 in
theorem gX0_right_X0_needState : GoodIn wsX0_right (va_wsS RX0 67 yX0_needState wsX0_needState) := goodIn_app (goodIn_of _ (by decide +kernel)) ggX0_right_X0_needState
theorem dX0_right_0 : decode cX0_right 0 = .ok (.aload_n 0, 1) := by decide +kernel
theorem dX0_right_1 : decode cX0_right 1 = .ok (.iload_n 1, 1) := by decide +kernel
theorem dX0_right_2 : decode cX0_right 2 = .ok (.invokevirtual 74, 3) := by decide +kernel
theorem dX0_right_5 : decode cX0_right 5 = .ok (.invokestatic 56, 3) := by decide +kernel
theorem dX0_right_8 : decode cX0_right 8 = .ok (.iload_n 2, 1) := by decide +kernel
theorem dX0_right_9 : decode cX0_right 9 = .ok (.invokestatic 94, 3) := by decide +kernel
theorem dX0_right_12 : decode cX0_right 12 = .ok (.invokestatic 56, 3) := by decide +kernel
theorem dX0_right_15 : decode cX0_right 15 = .ok (.iload_n 3, 1) := by decide +kernel
theorem dX0_right_16 : decode cX0_right 16 = .ok (.invokestatic 97, 3) := by decide +kernel
theorem dX0_right_19 : decode cX0_right 19 = .ok (.invokestatic 60, 3) := by decide +kernel
theorem dX0_right_22 : decode cX0_right 22 = .ok (.iload 4, 2) := by decide +kernel
theorem dX0_right_24 : decode cX0_right 24 = .ok (.iload_n 3, 1) := by decide +kernel
theorem dX0_right_25 : decode cX0_right 25 = .ok (.sipush 1459, 3) := by decide +kernel
theorem dX0_right_28 : decode cX0_right 28 = .ok (.invokestatic 52, 3) := by decide +kernel
theorem dX0_right_31 : decode cX0_right 31 = .ok (.invokestatic 60, 3) := by decide +kernel
theorem dX0_right_34 : decode cX0_right 34 = .ok (.aload_n 0, 1) := by decide +kernel
theorem dX0_right_35 : decode cX0_right 35 = .ok (.getfield 100, 3) := by decide +kernel
theorem dX0_right_38 : decode cX0_right 38 = .ok (.bipush 40, 2) := by decide +kernel
theorem dX0_right_40 : decode cX0_right 40 = .ok (.if_icmp .ge 7, 3) := by decide +kernel
theorem dX0_right_43 : decode cX0_right 43 = .ok (.iconst 1, 1) := by decide +kernel
theorem dX0_right_44 : decode cX0_right 44 = .ok (.goto 4, 3) := by decide +kernel
theorem dX0_right_47 : decode cX0_right 47 = .ok (.iconst 0, 1) := by decide +kernel
theorem dX0_right_48 : decode cX0_right 48 = .ok (.invokestatic 67, 3) := by decide +kernel
theorem dX0_right_51 : decode cX0_right 51 = .ok (.aload_n 0, 1) := by decide +kernel
theorem dX0_right_52 : decode cX0_right 52 = .ok (.getfield 100, 3) := by decide +kernel
theorem dX0_right_55 : decode cX0_right 55 = .ok (.istore 5, 2) := by decide +kernel
theorem dX0_right_57 : decode cX0_right 57 = .ok (.aload_n 0, 1) := by decide +kernel
theorem dX0_right_58 : decode cX0_right 58 = .ok (.getfield 31, 3) := by decide +kernel
theorem dX0_right_61 : decode cX0_right 61 = .ok (.iload 5, 2) := by decide +kernel
theorem dX0_right_63 : decode cX0_right 63 = .ok (.iload_n 1, 1) := by decide +kernel
theorem dX0_right_64 : decode cX0_right 64 = .ok (.iastore, 1) := by decide +kernel
theorem dX0_right_65 : decode cX0_right 65 = .ok (.aload_n 0, 1) := by decide +kernel
theorem dX0_right_66 : decode cX0_right 66 = .ok (.getfield 34, 3) := by decide +kernel
theorem dX0_right_69 : decode cX0_right 69 = .ok (.iload 5, 2) := by decide +kernel
theorem dX0_right_71 : decode cX0_right 71 = .ok (.iload_n 2, 1) := by decide +kernel
theorem dX0_right_72 : decode cX0_right 72 = .ok (.iastore, 1) := by decide +kernel
theorem dX0_right_73 : decode cX0_right 73 = .ok (.aload_n 0, 1) := by decide +kernel
theorem dX0_right_74 : decode cX0_right 74 = .ok (.getfield 37, 3) := by decide +kernel
theorem dX0_right_77 : decode cX0_right 77 = .ok (.iload 5, 2) := by decide +kernel
theorem dX0_right_79 : decode cX0_right 79 = .ok (.iload_n 3, 1) := by decide +kernel
theorem dX0_right_80 : decode cX0_right 80 = .ok (.iastore, 1) := by decide +kernel
theorem dX0_right_81 : decode cX0_right 81 = .ok (.aload_n 0, 1) := by decide +kernel
theorem dX0_right_82 : decode cX0_right 82 = .ok (.getfield 40, 3) := by decide +kernel
theorem dX0_right_85 : decode cX0_right 85 = .ok (.iload 5, 2) := by decide +kernel
theorem dX0_right_87 : decode cX0_right 87 = .ok (.iload 4, 2) := by decide +kernel
theorem dX0_right_89 : decode cX0_right 89 = .ok (.iastore, 1) := by decide +kernel
theorem dX0_right_90 : decode cX0_right 90 = .ok (.aload_n 0, 1) := by decide +kernel
theorem dX0_right_91 : decode cX0_right 91 = .ok (.dup, 1) := by decide +kernel
theorem dX0_right_92 : decode cX0_right 92 = .ok (.getfield 100, 3) := by decide +kernel
theorem dX0_right_95 : decode cX0_right 95 = .ok (.iconst 1, 1) := by decide +kernel
theorem dX0_right_96 : decode cX0_right 96 = .ok (.iadd, 1) := by decide +kernel
theorem dX0_right_97 : decode cX0_right 97 = .ok (.putfield 100, 3) := by decide +kernel
theorem dX0_right_100 : decode cX0_right 100 = .ok (.iload 5, 2) := by decide +kernel
theorem dX0_right_102 : decode cX0_right 102 = .ok (.ireturn, 1) := by decide +kernel
set_option maxRecDepth 20000 in
theorem ggX0_end_X0_isBetween : GoodIn wsX0_end wsX0_isBetween := goodIn_r _ [7] (by decide +kernel) (by decide +kernel)
set_option maxRecDepth 20000 in
theorem gX0_end_X0_isBetween : GoodIn wsX0_end (va_wsS RX0 52 yX0_isBetween wsX0_isBetween) := goodIn_app (goodIn_of _ (by decide +kernel)) ggX0_end_X0_isBetween
set_option maxRecDepth 20000 in
theorem ggX0_end_X0_needIndex : GoodIn wsX0_end wsX0_needIndex := goodIn_ca (goodIn_r _ [10, 11, 12] (by decide +kernel) (by decide +kernel)) (goodIn_sub (fun _ h => List.mem_cons_of_mem _ (List.mem_append_left _ (List.mem_append_left _ (List.mem_append_right _ h)))) (by decide +kernel))
set_option maxRecDepth 20000 in
theorem gX0_end_X0_needIndex : GoodIn wsX0_end (va_wsS RX0 56 yX0_needIndex wsX0_needIndex) := goodIn_app (goodIn_of _ (by decide +kernel)) ggX0_end_X0_needIndex
set_option maxRecDepth 20000 in
theorem ggX0_end_X0_needArgument : GoodIn wsX0_end wsX0_needArgument := goodIn_ca (goodIn_r _ [15, 16, 17] (by decide +kernel) (by decide +kernel)) (goodIn_sub (fun _ h => List.mem_cons_of_mem _ (List.mem_append_left _ (List.mem_append_right _ h))) (by decide +kernel))
set_option maxRecDepth 20000 in
theorem gX0_end_X0_needArgument : GoodIn wsX0_end (va_wsS RX0 60 yX0_needArgument wsX0_needArgument) := goodIn_app (goodIn_of _ (by decide +kernel)) ggX0_end_X0_needArgument
set_option maxRecDepth 20000 in
theorem ggX0_end_X0_needState : GoodIn wsX0_end wsX0_needState := goodIn_ca (goodIn_r _ [20, 21, 22] (by decide +kernel) (by decide +kernel)) (goodIn_sub (fun _ h => List.mem_cons_of_mem _ (List.mem_append_right _ h)) (by decide +kernel))
set_option maxRecDepth 20000 in
theorem gX0_end_X0_needState : GoodIn wsX0_end (va_wsS RX0 67 yX0_needState wsX0_needState) := goodIn_app (goodIn_of _ (by decide +kernel)) ggX0_end_X0_needState
set_option maxRecDepth 20000 in
theorem ggX0_end_X0_silenceServicesWithoutRight : GoodIn wsX0_end wsX0_silenceServicesWithoutRight := goodIn_r _ [26, 27, 28, 29, 30, 31, 6, 32, 33, 2, 34, 35, 36, 37, 1, 38, 39, 40, 3, 4, 5, 7, 86, 87, 88, 89, 90, 91, 92, 93, 94, 95, 96, 97, 98, 99, 100, 101, 102, 103] (by decide +kernel) (by decide +kernel)
set_option maxRecDepth 20000 in
theorem gX0_end_X0_silenceServicesWithoutRight : GoodIn wsX0_end (wsV RX0 106 RX0 yX0_silenceServicesWithoutRight wsX0_silenceServicesWithoutRight) := goodIn_app (goodIn_of _ (by decide +kernel)) ggX0_end_X0_silenceServicesWithoutRight
set_option maxRecDepth 20000 in
theorem ggX0_end_X0_planEach : GoodIn wsX0_end wsX0_planEach := goodIn_r _ [44, 27, 45, 46, 6, 47, 48, 49, 50, 51, 28, 52, 33, 53, 54, 55, 56, 57, 58, 59, 60, 61, 62, 63, 64, 65, 66, 34, 35, 36, 37, 1, 38, 39, 40, 3, 4, 5, 7, 67, 68, 69, 70, 71, 72, 73, 74, 75, 76, 77, 78, 86, 87, 88, 89, 90, 91, 92, 93, 94, 95, 96, 97, 98, 99, 100, 101, 102, 103] (by decide +kernel) (by decide +kernel)
set_option maxRecDepth 20000 in
theorem gX0_end_X0_planEach : GoodIn wsX0_end (wsV RX0 110 RX0 yX0_planEach wsX0_planEach) := goodIn_app (goodIn_of _ (by decide +kernel)) ggX0_end_X0_planEach
set_option maxRecDepth 20000 in
theorem ggX0_end_J13_bitCount_95d88 : GoodIn wsX0_end wsJ13_bitCount_95d88 := goodIn_r _ [82, 83, 84, 85] (by decide +kernel) (by decide +kernel)
set_option maxRecDepth 20000 in
theorem gX0_end_J13_bitCount_95d88 : GoodIn wsX0_end (va_wsS RX0 114 yJ13_bitCount_95d88 wsJ13_bitCount_95d88) := goodIn_app (goodIn_of _ (by decide +kernel)) ggX0_end_J13_bitCount_95d88
theorem dX0_end_0 : decode cX0_end 0 = .ok (.iload_n 1, 1) := by decide +kernel
theorem dX0_end_1 : decode cX0_end 1 = .ok (.iconst 0, 1) := by decide +kernel
theorem dX0_end_2 : decode cX0_end 2 = .ok (.aload_n 0, 1) := by decide +kernel
theorem dX0_end_3 : decode cX0_end 3 = .ok (.getfield 100, 3) := by decide +kernel
theorem dX0_end_6 : decode cX0_end 6 = .ok (.iconst 1, 1) := by decide +kernel
theorem dX0_end_7 : decode cX0_end 7 = .ok (.isub, 1) := by decide +kernel
theorem dX0_end_8 : decode cX0_end 8 = .ok (.invokestatic 52, 3) := by decide +kernel
theorem dX0_end_11 : decode cX0_end 11 = .ok (.invokestatic 56, 3) := by decide +kernel
theorem dX0_end_14 : decode cX0_end 14 = .ok (.iload_n 2, 1) := by decide +kernel
theorem dX0_end_15 : decode cX0_end 15 = .ok (.aload_n 0, 1) := by decide +kernel
theorem dX0_end_16 : decode cX0_end 16 = .ok (.getfield 103, 3) := by decide +kernel
theorem dX0_end_19 : decode cX0_end 19 = .ok (.iconst 1, 1) := by decide +kernel
theorem dX0_end_20 : decode cX0_end 20 = .ok (.isub, 1) := by decide +kernel
theorem dX0_end_21 : decode cX0_end 21 = .ok (.sipush 1459, 3) := by decide +kernel
theorem dX0_end_24 : decode cX0_end 24 = .ok (.invokestatic 52, 3) := by decide +kernel
theorem dX0_end_27 : decode cX0_end 27 = .ok (.invokestatic 60, 3) := by decide +kernel
theorem dX0_end_30 : decode cX0_end 30 = .ok (.aload_n 0, 1) := by decide +kernel
theorem dX0_end_31 : decode cX0_end 31 = .ok (.getfield 40, 3) := by decide +kernel
theorem dX0_end_34 : decode cX0_end 34 = .ok (.iload_n 1, 1) := by decide +kernel
theorem dX0_end_35 : decode cX0_end 35 = .ok (.iaload, 1) := by decide +kernel
theorem dX0_end_36 : decode cX0_end 36 = .ok (.iload_n 2, 1) := by decide +kernel
theorem dX0_end_37 : decode cX0_end 37 = .ok (.if_icmp .le 7, 3) := by decide +kernel
theorem dX0_end_40 : decode cX0_end 40 = .ok (.iconst 1, 1) := by decide +kernel
theorem dX0_end_41 : decode cX0_end 41 = .ok (.goto 4, 3) := by decide +kernel
theorem dX0_end_44 : decode cX0_end 44 = .ok (.iconst 0, 1) := by decide +kernel
theorem dX0_end_45 : decode cX0_end 45 = .ok (.invokestatic 67, 3) := by decide +kernel
theorem dX0_end_48 : decode cX0_end 48 = .ok (.aload_n 0, 1) := by decide +kernel
theorem dX0_end_49 : decode cX0_end 49 = .ok (.getfield 40, 3) := by decide +kernel
theorem dX0_end_52 : decode cX0_end 52 = .ok (.iload_n 1, 1) := by decide +kernel
theorem dX0_end_53 : decode cX0_end 53 = .ok (.iload_n 2, 1) := by decide +kernel
theorem dX0_end_54 : decode cX0_end 54 = .ok (.iastore, 1) := by decide +kernel
theorem dX0_end_55 : decode cX0_end 55 = .ok (.aload_n 0, 1) := by decide +kernel
theorem dX0_end_56 : decode cX0_end 56 = .ok (.invokevirtual 106, 3) := by decide +kernel
theorem dX0_end_59 : decode cX0_end 59 = .ok (.lstore_n 3, 1) := by decide +kernel
theorem dX0_end_60 : decode cX0_end 60 = .ok (.aload_n 0, 1) := by decide +kernel
theorem dX0_end_61 : decode cX0_end 61 = .ok (.lload_n 3, 1) := by decide +kernel
theorem dX0_end_62 : decode cX0_end 62 = .ok (.invokevirtual 110, 3) := by decide +kernel
theorem dX0_end_65 : decode cX0_end 65 = .ok (.lload_n 3, 1) := by decide +kernel
theorem dX0_end_66 : decode cX0_end 66 = .ok (.invokestatic 114, 3) := by decide +kernel
theorem dX0_end_69 : decode cX0_end 69 = .ok (.ireturn, 1) := by decide +kernel
set_option maxRecDepth 20000 in
theorem ggX0_hasRight_X0_isHymn : GoodIn wsX0_hasRight wsX0_isHymn := goodIn_r _ [5, 6, 7, 8, 4, 9, 35, 36, 37, 38, 39, 40, 41, 42, 43, 44, 45, 46, 47, 48, 49, 50, 51, 52] (by decide +kernel) (by decide +kernel)
set_option maxRecDepth 20000 in
theorem gX0_hasRight_X0_isHymn : GoodIn wsX0_hasRight (wsV RX0 74 RX0 yX0_isHymn wsX0_isHymn) := goodIn_app (goodIn_of _ (by decide +kernel)) ggX0_hasRight_X0_isHymn
set_option maxRecDepth 20000 in
theorem ggX0_hasRight_X0_needIndex : GoodIn wsX0_hasRight wsX0_needIndex := goodIn_ca (goodIn_r _ [12, 13, 14] (by decide +kernel) (by decide +kernel)) (goodIn_sub (fun _ h => List.mem_cons_of_mem _ (List.mem_append_left _ (List.mem_append_right _ h))) (by decide +kernel))
set_option maxRecDepth 20000 in
theorem gX0_hasRight_X0_needIndex : GoodIn wsX0_hasRight (va_wsS RX0 56 yX0_needIndex wsX0_needIndex) := goodIn_app (goodIn_of _ (by decide +kernel)) ggX0_hasRight_X0_needIndex
set_option maxRecDepth 20000 in
theorem ggX0_hasRight_X0_isUse : GoodIn wsX0_hasRight wsX0_isUse := goodIn_r _ [17, 7, 8, 4, 9] (by decide +kernel) (by decide +kernel)
set_option maxRecDepth 20000 in
theorem gX0_hasRight_X0_isUse : GoodIn wsX0_hasRight (va_wsS RX0 94 yX0_isUse wsX0_isUse) := goodIn_app (goodIn_of _ (by decide +kernel)) ggX0_hasRight_X0_isUse
set_option maxRecDepth 20000 in
theorem ggX0_hasRight_X0_isDay : GoodIn wsX0_hasRight wsX0_isDay := goodIn_r _ [20, 7, 8, 4, 9] (by decide +kernel) (by decide +kernel)
set_option maxRecDepth 20000 in
theorem gX0_hasRight_X0_isDay : GoodIn wsX0_hasRight (va_wsS RX0 97 yX0_isDay wsX0_isDay) := goodIn_app (goodIn_of _ (by decide +kernel)) ggX0_hasRight_X0_isDay
set_option maxRecDepth 20000 in
theorem ggX0_hasRight_X0_needArgument : GoodIn wsX0_hasRight wsX0_needArgument := goodIn_ca (goodIn_r _ [23, 24, 25] (by decide +kernel) (by decide +kernel)) (goodIn_sub (fun _ h => List.mem_cons_of_mem _ (List.mem_append_right _ h)) (by decide +kernel))
set_option maxRecDepth 20000 in
theorem gX0_hasRight_X0_needArgument : GoodIn wsX0_hasRight (va_wsS RX0 60 yX0_needArgument wsX0_needArgument) := goodIn_app (goodIn_of _ (by decide +kernel)) ggX0_hasRight_X0_needArgument
set_option maxRecDepth 20000 in
theorem ggX0_hasRight_X0_isAllowed : GoodIn wsX0_hasRight wsX0_isAllowed := goodIn_r _ [29, 30, 31, 32, 33, 34, 7, 8, 4, 9, 35, 36, 37, 38, 39, 40, 41, 42, 43, 44, 45, 46, 47, 48, 49, 50, 51, 52] (by decide +kernel) (by decide +kernel)
set_option maxRecDepth 20000 in
theorem gX0_hasRight_X0_isAllowed : GoodIn wsX0_hasRight (wsV RX0 119 RX0 yX0_isAllowed wsX0_isAllowed) := goodIn_app (goodIn_of _ (by decide +kernel)) ggX0_hasRight_X0_isAllowed
theorem dX0_hasRight_0 : decode cX0_hasRight 0 = .ok (.aload_n 0, 1) := by decide +kernel
theorem dX0_hasRight_1 : decode cX0_hasRight 1 = .ok (.iload_n 1, 1) := by decide +kernel
theorem dX0_hasRight_2 : decode cX0_hasRight 2 = .ok (.invokevirtual 74, 3) := by decide +kernel
theorem dX0_hasRight_5 : decode cX0_hasRight 5 = .ok (.invokestatic 56, 3) := by decide +kernel
theorem dX0_hasRight_8 : decode cX0_hasRight 8 = .ok (.iload_n 2, 1) := by decide +kernel
theorem dX0_hasRight_9 : decode cX0_hasRight 9 = .ok (.invokestatic 94, 3) := by decide +kernel
theorem dX0_hasRight_12 : decode cX0_hasRight 12 = .ok (.invokestatic 56, 3) := by decide +kernel
theorem dX0_hasRight_15 : decode cX0_hasRight 15 = .ok (.iload_n 3, 1) := by decide +kernel
theorem dX0_hasRight_16 : decode cX0_hasRight 16 = .ok (.invokestatic 97, 3) := by decide +kernel
theorem dX0_hasRight_19 : decode cX0_hasRight 19 = .ok (.invokestatic 60, 3) := by decide +kernel
theorem dX0_hasRight_22 : decode cX0_hasRight 22 = .ok (.aload_n 0, 1) := by decide +kernel
theorem dX0_hasRight_23 : decode cX0_hasRight 23 = .ok (.iload_n 1, 1) := by decide +kernel
theorem dX0_hasRight_24 : decode cX0_hasRight 24 = .ok (.iload_n 2, 1) := by decide +kernel
theorem dX0_hasRight_25 : decode cX0_hasRight 25 = .ok (.iload_n 3, 1) := by decide +kernel
theorem dX0_hasRight_26 : decode cX0_hasRight 26 = .ok (.invokevirtual 119, 3) := by decide +kernel
theorem dX0_hasRight_29 : decode cX0_hasRight 29 = .ok (.ireturn, 1) := by decide +kernel
set_option maxRecDepth 20000 in
theorem ggX0_print_X0_isHymn : GoodIn wsX0_print wsX0_isHymn := goodIn_r _ [7, 8, 9, 10, 6, 11, 51, 52, 53, 54, 55, 56, 57, 58, 59, 60, 61, 62, 63, 64, 65, 66, 67, 68] (by decide +kernel) (by decide +kernel)
set_option maxRecDepth 20000 in
theorem gX0_print_X0_isHymn : GoodIn wsX0_print (wsV RX0 74 RX0 yX0_isHymn wsX0_isHymn) := goodIn_app (goodIn_of _ (by decide +kernel)) ggX0_print_X0_isHymn
set_option maxRecDepth 20000 in
theorem ggX0_print_X0_needIndex : GoodIn wsX0_print wsX0_needIndex := goodIn_ca (goodIn_r _ [14, 15, 16] (by decide +kernel) (by decide +kernel)) (goodIn_sub (fun _ h => List.mem_cons_of_mem _ (List.mem_append_left _ (List.mem_append_left _ (List.mem_append_right _ h)))) (by decide +kernel))
set_option maxRecDepth 20000 in
theorem gX0_print_X0_needIndex : GoodIn wsX0_print (va_wsS RX0 56 yX0_needIndex wsX0_needIndex) := goodIn_app (goodIn_of _ (by decide +kernel)) ggX0_print_X0_needIndex
set_option maxRecDepth 20000 in
theorem ggX0_print_X0_isBetween : GoodIn wsX0_print wsX0_isBetween := goodIn_r _ [11] (by decide +kernel) (by decide +kernel)
set_option maxRecDepth 20000 in
theorem gX0_print_X0_isBetween : GoodIn wsX0_print (va_wsS RX0 52 yX0_isBetween wsX0_isBetween) := goodIn_app (goodIn_of _ (by decide +kernel)) ggX0_print_X0_isBetween
set_option maxRecDepth 20000 in
theorem ggX0_print_X0_needArgument : GoodIn wsX0_print wsX0_needArgument := goodIn_ca (goodIn_r _ [19, 20, 21] (by decide +kernel) (by decide +kernel)) (goodIn_sub (fun _ h => List.mem_cons_of_mem _ (List.mem_append_left _ (List.mem_append_right _ h))) (by decide +kernel))
set_option maxRecDepth 20000 in
theorem gX0_print_X0_needArgument : GoodIn wsX0_print (va_wsS RX0 60 yX0_needArgument wsX0_needArgument) := goodIn_app (goodIn_of _ (by decide +kernel)) ggX0_print_X0_needArgument
set_option maxRecDepth 20000 in
theorem ggX0_print_X0_isAllowed : GoodIn wsX0_print wsX0_isAllowed := goodIn_r _ [25, 26, 27, 28, 29, 30, 9, 10, 6, 11, 51, 52, 53, 54, 55, 56, 57, 58, 59, 60, 61, 62, 63, 64, 65, 66, 67, 68] (by decide +kernel) (by decide +kernel)
set_option maxRecDepth 20000 in
theorem gX0_print_X0_isAllowed : GoodIn wsX0_print (wsV RX0 119 RX0 yX0_isAllowed wsX0_isAllowed) := goodIn_app (goodIn_of _ (by decide +kernel)) ggX0_print_X0_isAllowed
set_option maxRecDepth 20000 in
theorem ggX0_print_X0_needState : GoodIn wsX0_print wsX0_needState := goodIn_ca (goodIn_r _ [33, 34, 35] (by decide +kernel) (by decide +kernel)) (goodIn_sub (fun _ h => List.mem_cons_of_mem _ (List.mem_append_right _ h)) (by decide +kernel))
set_option maxRecDepth 20000 in
theorem gX0_print_X0_needState : GoodIn wsX0_print (va_wsS RX0 67 yX0_needState wsX0_needState) := goodIn_app (goodIn_of _ (by decide +kernel)) ggX0_print_X0_needState
set_option maxRecDepth 20000 in
theorem ggX0_print_X0_yearOf : GoodIn wsX0_print wsX0_yearOf := goodIn_r _ [38] (by decide +kernel) (by decide +kernel)
set_option maxRecDepth 20000 in
theorem gX0_print_X0_yearOf : GoodIn wsX0_print (va_wsS RX0 122 yX0_yearOf wsX0_yearOf) := goodIn_app (goodIn_of _ (by decide +kernel)) ggX0_print_X0_yearOf
set_option maxRecDepth 20000 in
theorem ggX0_print_X0_pageCount : GoodIn wsX0_print wsX0_pageCount := goodIn_r _ [42, 43, 44, 45, 46, 47, 48, 49, 50, 51, 52, 53, 54, 55, 56, 57, 58, 59, 60, 61, 62, 63, 64, 65, 66, 67, 68] (by decide +kernel) (by decide +kernel)
set_option maxRecDepth 20000 in
theorem gX0_print_X0_pageCount : GoodIn wsX0_print (wsV RX0 78 RX0 yX0_pageCount wsX0_pageCount) := goodIn_app (goodIn_of _ (by decide +kernel)) ggX0_print_X0_pageCount
theorem dX0_print_0 : decode cX0_print 0 = .ok (.aload_n 0, 1) := by decide +kernel
theorem dX0_print_1 : decode cX0_print 1 = .ok (.iload_n 1, 1) := by decide +kernel
theorem dX0_print_2 : decode cX0_print 2 = .ok (.invokevirtual 74, 3) := by decide +kernel
theorem dX0_print_5 : decode cX0_print 5 = .ok (.invokestatic 56, 3) := by decide +kernel
theorem dX0_print_8 : decode cX0_print 8 = .ok (.iload_n 2, 1) := by decide +kernel
theorem dX0_print_9 : decode cX0_print 9 = .ok (.iconst 1, 1) := by decide +kernel
theorem dX0_print_10 : decode cX0_print 10 = .ok (.sipush 1000, 3) := by decide +kernel
theorem dX0_print_13 : decode cX0_print 13 = .ok (.invokestatic 52, 3) := by decide +kernel
theorem dX0_print_16 : decode cX0_print 16 = .ok (.invokestatic 60, 3) := by decide +kernel
theorem dX0_print_19 : decode cX0_print 19 = .ok (.aload_n 0, 1) := by decide +kernel
theorem dX0_print_20 : decode cX0_print 20 = .ok (.iload_n 1, 1) := by decide +kernel
theorem dX0_print_21 : decode cX0_print 21 = .ok (.iconst 1, 1) := by decide +kernel
theorem dX0_print_22 : decode cX0_print 22 = .ok (.aload_n 0, 1) := by decide +kernel
theorem dX0_print_23 : decode cX0_print 23 = .ok (.getfield 103, 3) := by decide +kernel
theorem dX0_print_26 : decode cX0_print 26 = .ok (.invokevirtual 119, 3) := by decide +kernel
theorem dX0_print_29 : decode cX0_print 29 = .ok (.invokestatic 67, 3) := by decide +kernel
theorem dX0_print_32 : decode cX0_print 32 = .ok (.aload_n 0, 1) := by decide +kernel
theorem dX0_print_33 : decode cX0_print 33 = .ok (.getfield 28, 3) := by decide +kernel
theorem dX0_print_36 : decode cX0_print 36 = .ok (.iload_n 1, 1) := by decide +kernel
theorem dX0_print_37 : decode cX0_print 37 = .ok (.iconst 4, 1) := by decide +kernel
theorem dX0_print_38 : decode cX0_print 38 = .ok (.imul, 1) := by decide +kernel
theorem dX0_print_39 : decode cX0_print 39 = .ok (.aload_n 0, 1) := by decide +kernel
theorem dX0_print_40 : decode cX0_print 40 = .ok (.getfield 103, 3) := by decide +kernel
theorem dX0_print_43 : decode cX0_print 43 = .ok (.invokestatic 122, 3) := by decide +kernel
theorem dX0_print_46 : decode cX0_print 46 = .ok (.iadd, 1) := by decide +kernel
theorem dX0_print_47 : decode cX0_print 47 = .ok (.dup2, 1) := by decide +kernel
theorem dX0_print_48 : decode cX0_print 48 = .ok (.iaload, 1) := by decide +kernel
theorem dX0_print_49 : decode cX0_print 49 = .ok (.iload_n 2, 1) := by decide +kernel
theorem dX0_print_50 : decode cX0_print 50 = .ok (.iadd, 1) := by decide +kernel
theorem dX0_print_51 : decode cX0_print 51 = .ok (.iastore, 1) := by decide +kernel
theorem dX0_print_52 : decode cX0_print 52 = .ok (.iload_n 2, 1) := by decide +kernel
theorem dX0_print_53 : decode cX0_print 53 = .ok (.aload_n 0, 1) := by decide +kernel
theorem dX0_print_54 : decode cX0_print 54 = .ok (.iload_n 1, 1) := by decide +kernel
theorem dX0_print_55 : decode cX0_print 55 = .ok (.invokevirtual 78, 3) := by decide +kernel
theorem dX0_print_58 : decode cX0_print 58 = .ok (.imul, 1) := by decide +kernel
theorem dX0_print_59 : decode cX0_print 59 = .ok (.ireturn, 1) := by decide +kernel
set_option maxRecDepth 20000 in
theorem ggX0_printed_X0_isHymn : GoodIn wsX0_printed wsX0_isHymn := goodIn_r _ [6, 7, 8, 9, 5, 10, 19, 20, 21, 22, 23, 24, 25, 26, 27, 28, 29, 30, 31, 32, 33, 34, 35, 36] (by decide +kernel) (by decide +kernel)
set_option maxRecDepth 20000 in
theorem gX0_printed_X0_isHymn : GoodIn wsX0_printed (wsV RX0 74 RX0 yX0_isHymn wsX0_isHymn) := goodIn_app (goodIn_of _ (by decide +kernel)) ggX0_printed_X0_isHymn
set_option maxRecDepth 20000 in
theorem ggX0_printed_X0_needIndex : GoodIn wsX0_printed wsX0_needIndex := goodIn_ca (goodIn_r _ [13, 14, 15] (by decide +kernel) (by decide +kernel)) (goodIn_sub (fun _ h => List.mem_cons_of_mem _ (List.mem_append_right _ h)) (by decide +kernel))
set_option maxRecDepth 20000 in
theorem gX0_printed_X0_needIndex : GoodIn wsX0_printed (va_wsS RX0 56 yX0_needIndex wsX0_needIndex) := goodIn_app (goodIn_of _ (by decide +kernel)) ggX0_printed_X0_needIndex
set_option maxRecDepth 20000 in
theorem ggX0_printed_X0_isYear : GoodIn wsX0_printed wsX0_isYear := goodIn_r _ [18, 8, 9, 5, 10] (by decide +kernel) (by decide +kernel)
set_option maxRecDepth 20000 in
theorem gX0_printed_X0_isYear : GoodIn wsX0_printed (va_wsS RX0 125 yX0_isYear wsX0_isYear) := goodIn_app (goodIn_of _ (by decide +kernel)) ggX0_printed_X0_isYear
theorem dX0_printed_0 : decode cX0_printed 0 = .ok (.aload_n 0, 1) := by decide +kernel
theorem dX0_printed_1 : decode cX0_printed 1 = .ok (.iload_n 1, 1) := by decide +kernel
theorem dX0_printed_2 : decode cX0_printed 2 = .ok (.invokevirtual 74, 3) := by decide +kernel
theorem dX0_printed_5 : decode cX0_printed 5 = .ok (.invokestatic 56, 3) := by decide +kernel
theorem dX0_printed_8 : decode cX0_printed 8 = .ok (.iload_n 2, 1) := by decide +kernel
theorem dX0_printed_9 : decode cX0_printed 9 = .ok (.invokestatic 125, 3) := by decide +kernel
theorem dX0_printed_12 : decode cX0_printed 12 = .ok (.invokestatic 56, 3) := by decide +kernel
theorem dX0_printed_15 : decode cX0_printed 15 = .ok (.aload_n 0, 1) := by decide +kernel
theorem dX0_printed_16 : decode cX0_printed 16 = .ok (.getfield 28, 3) := by decide +kernel
theorem dX0_printed_19 : decode cX0_printed 19 = .ok (.iload_n 1, 1) := by decide +kernel
theorem dX0_printed_20 : decode cX0_printed 20 = .ok (.iconst 4, 1) := by decide +kernel
theorem dX0_printed_21 : decode cX0_printed 21 = .ok (.imul, 1) := by decide +kernel
theorem dX0_printed_22 : decode cX0_printed 22 = .ok (.iload_n 2, 1) := by decide +kernel
theorem dX0_printed_23 : decode cX0_printed 23 = .ok (.iadd, 1) := by decide +kernel
theorem dX0_printed_24 : decode cX0_printed 24 = .ok (.iaload, 1) := by decide +kernel
theorem dX0_printed_25 : decode cX0_printed 25 = .ok (.ireturn, 1) := by decide +kernel
set_option maxRecDepth 20000 in
theorem ggX0_isAllowed_X0_isBetween : GoodIn wsX0_isAllowed wsX0_isBetween := goodIn_r _ [9] (by decide +kernel) (by decide +kernel)
set_option maxRecDepth 20000 in
theorem gX0_isAllowed_X0_isBetween : GoodIn wsX0_isAllowed (va_wsS RX0 52 yX0_isBetween wsX0_isBetween) := goodIn_app (goodIn_of _ (by decide +kernel)) ggX0_isAllowed_X0_isBetween
theorem dX0_isAllowed_0 : decode cX0_isAllowed 0 = .ok (.iconst 0, 1) := by decide +kernel
theorem dX0_isAllowed_1 : decode cX0_isAllowed 1 = .ok (.istore 4, 2) := by decide +kernel
theorem dX0_isAllowed_3 : decode cX0_isAllowed 3 = .ok (.iload 4, 2) := by decide +kernel
theorem dX0_isAllowed_5 : decode cX0_isAllowed 5 = .ok (.aload_n 0, 1) := by decide +kernel
theorem dX0_isAllowed_6 : decode cX0_isAllowed 6 = .ok (.getfield 100, 3) := by decide +kernel
theorem dX0_isAllowed_9 : decode cX0_isAllowed 9 = .ok (.if_icmp .ge 54, 3) := by decide +kernel
theorem dX0_isAllowed_12 : decode cX0_isAllowed 12 = .ok (.aload_n 0, 1) := by decide +kernel
theorem dX0_isAllowed_13 : decode cX0_isAllowed 13 = .ok (.getfield 31, 3) := by decide +kernel
theorem dX0_isAllowed_16 : decode cX0_isAllowed 16 = .ok (.iload 4, 2) := by decide +kernel
theorem dX0_isAllowed_18 : decode cX0_isAllowed 18 = .ok (.iaload, 1) := by decide +kernel
theorem dX0_isAllowed_19 : decode cX0_isAllowed 19 = .ok (.iload_n 1, 1) := by decide +kernel
theorem dX0_isAllowed_20 : decode cX0_isAllowed 20 = .ok (.if_icmp .ne 37, 3) := by decide +kernel
theorem dX0_isAllowed_23 : decode cX0_isAllowed 23 = .ok (.aload_n 0, 1) := by decide +kernel
theorem dX0_isAllowed_24 : decode cX0_isAllowed 24 = .ok (.getfield 34, 3) := by decide +kernel
theorem dX0_isAllowed_27 : decode cX0_isAllowed 27 = .ok (.iload 4, 2) := by decide +kernel
theorem dX0_isAllowed_29 : decode cX0_isAllowed 29 = .ok (.iaload, 1) := by decide +kernel
theorem dX0_isAllowed_30 : decode cX0_isAllowed 30 = .ok (.iload_n 2, 1) := by decide +kernel
theorem dX0_isAllowed_31 : decode cX0_isAllowed 31 = .ok (.if_icmp .ne 26, 3) := by decide +kernel
theorem dX0_isAllowed_34 : decode cX0_isAllowed 34 = .ok (.iload_n 3, 1) := by decide +kernel
theorem dX0_isAllowed_35 : decode cX0_isAllowed 35 = .ok (.aload_n 0, 1) := by decide +kernel
theorem dX0_isAllowed_36 : decode cX0_isAllowed 36 = .ok (.getfield 37, 3) := by decide +kernel
theorem dX0_isAllowed_39 : decode cX0_isAllowed 39 = .ok (.iload 4, 2) := by decide +kernel
theorem dX0_isAllowed_41 : decode cX0_isAllowed 41 = .ok (.iaload, 1) := by decide +kernel
theorem dX0_isAllowed_42 : decode cX0_isAllowed 42 = .ok (.aload_n 0, 1) := by decide +kernel
theorem dX0_isAllowed_43 : decode cX0_isAllowed 43 = .ok (.getfield 40, 3) := by decide +kernel
theorem dX0_isAllowed_46 : decode cX0_isAllowed 46 = .ok (.iload 4, 2) := by decide +kernel
theorem dX0_isAllowed_48 : decode cX0_isAllowed 48 = .ok (.iaload, 1) := by decide +kernel
theorem dX0_isAllowed_49 : decode cX0_isAllowed 49 = .ok (.invokestatic 52, 3) := by decide +kernel
theorem dX0_isAllowed_52 : decode cX0_isAllowed 52 = .ok (.ifCond .eq 5, 3) := by decide +kernel
theorem dX0_isAllowed_55 : decode cX0_isAllowed 55 = .ok (.iconst 1, 1) := by decide +kernel
theorem dX0_isAllowed_56 : decode cX0_isAllowed 56 = .ok (.ireturn, 1) := by decide +kernel
theorem dX0_isAllowed_57 : decode cX0_isAllowed 57 = .ok (.iinc 4 1, 3) := by decide +kernel
theorem dX0_isAllowed_60 : decode cX0_isAllowed 60 = .ok (.goto (-57), 3) := by decide +kernel
theorem dX0_isAllowed_63 : decode cX0_isAllowed 63 = .ok (.iconst 0, 1) := by decide +kernel
theorem dX0_isAllowed_64 : decode cX0_isAllowed 64 = .ok (.ireturn, 1) := by decide +kernel
set_option maxRecDepth 20000 in
theorem ggX0_learn_X0_isChoir : GoodIn wsX0_learn wsX0_isChoir := goodIn_r _ [5, 6, 7, 4, 8] (by decide +kernel) (by decide +kernel)
set_option maxRecDepth 20000 in
theorem gX0_learn_X0_isChoir : GoodIn wsX0_learn (va_wsS RX0 128 yX0_isChoir wsX0_isChoir) := goodIn_app (goodIn_of _ (by decide +kernel)) ggX0_learn_X0_isChoir
set_option maxRecDepth 20000 in
theorem ggX0_learn_X0_needIndex : GoodIn wsX0_learn wsX0_needIndex := goodIn_ca (goodIn_r _ [11, 12, 13] (by decide +kernel) (by decide +kernel)) (goodIn_sub (fun _ h => List.mem_cons_of_mem _ (List.mem_append_right _ h)) (by decide +kernel))
set_option maxRecDepth 20000 in
theorem gX0_learn_X0_needIndex : GoodIn wsX0_learn (va_wsS RX0 56 yX0_needIndex wsX0_needIndex) := goodIn_app (goodIn_of _ (by decide +kernel)) ggX0_learn_X0_needIndex
set_option maxRecDepth 20000 in
theorem ggX0_learn_X0_isHymn : GoodIn wsX0_learn wsX0_isHymn := goodIn_r _ [17, 18, 6, 7, 4, 8, 22, 23, 24, 25, 26, 27, 28, 29, 30, 31, 32, 33, 34, 35, 36, 37, 38, 39] (by decide +kernel) (by decide +kernel)
set_option maxRecDepth 20000 in
theorem gX0_learn_X0_isHymn : GoodIn wsX0_learn (wsV RX0 74 RX0 yX0_isHymn wsX0_isHymn) := goodIn_app (goodIn_of _ (by decide +kernel)) ggX0_learn_X0_isHymn
set_option maxRecDepth 20000 in
theorem ggX0_learn_X0_isInSet : GoodIn wsX0_learn wsX0_isInSet := goodIn_r _ [21] (by decide +kernel) (by decide +kernel)
set_option maxRecDepth 20000 in
theorem gX0_learn_X0_isInSet : GoodIn wsX0_learn (va_wsS RX0 90 yX0_isInSet wsX0_isInSet) := goodIn_app (goodIn_of _ (by decide +kernel)) ggX0_learn_X0_isInSet
theorem dX0_learn_0 : decode cX0_learn 0 = .ok (.iload_n 1, 1) := by decide +kernel
theorem dX0_learn_1 : decode cX0_learn 1 = .ok (.invokestatic 128, 3) := by decide +kernel
theorem dX0_learn_4 : decode cX0_learn 4 = .ok (.invokestatic 56, 3) := by decide +kernel
theorem dX0_learn_7 : decode cX0_learn 7 = .ok (.aload_n 0, 1) := by decide +kernel
theorem dX0_learn_8 : decode cX0_learn 8 = .ok (.iload_n 2, 1) := by decide +kernel
theorem dX0_learn_9 : decode cX0_learn 9 = .ok (.invokevirtual 74, 3) := by decide +kernel
theorem dX0_learn_12 : decode cX0_learn 12 = .ok (.invokestatic 56, 3) := by decide +kernel
theorem dX0_learn_15 : decode cX0_learn 15 = .ok (.aload_n 0, 1) := by decide +kernel
theorem dX0_learn_16 : decode cX0_learn 16 = .ok (.getfield 25, 3) := by decide +kernel
theorem dX0_learn_19 : decode cX0_learn 19 = .ok (.iload_n 2, 1) := by decide +kernel
theorem dX0_learn_20 : decode cX0_learn 20 = .ok (.dup2, 1) := by decide +kernel
theorem dX0_learn_21 : decode cX0_learn 21 = .ok (.iaload, 1) := by decide +kernel
theorem dX0_learn_22 : decode cX0_learn 22 = .ok (.iconst 1, 1) := by decide +kernel
theorem dX0_learn_23 : decode cX0_learn 23 = .ok (.iload_n 1, 1) := by decide +kernel
theorem dX0_learn_24 : decode cX0_learn 24 = .ok (.ishl, 1) := by decide +kernel
theorem dX0_learn_25 : decode cX0_learn 25 = .ok (.ixor, 1) := by decide +kernel
theorem dX0_learn_26 : decode cX0_learn 26 = .ok (.iastore, 1) := by decide +kernel
theorem dX0_learn_27 : decode cX0_learn 27 = .ok (.iload_n 1, 1) := by decide +kernel
theorem dX0_learn_28 : decode cX0_learn 28 = .ok (.aload_n 0, 1) := by decide +kernel
theorem dX0_learn_29 : decode cX0_learn 29 = .ok (.getfield 25, 3) := by decide +kernel
theorem dX0_learn_32 : decode cX0_learn 32 = .ok (.iload_n 2, 1) := by decide +kernel
theorem dX0_learn_33 : decode cX0_learn 33 = .ok (.iaload, 1) := by decide +kernel
theorem dX0_learn_34 : decode cX0_learn 34 = .ok (.i2l, 1) := by decide +kernel
theorem dX0_learn_35 : decode cX0_learn 35 = .ok (.invokestatic 90, 3) := by decide +kernel
theorem dX0_learn_38 : decode cX0_learn 38 = .ok (.ireturn, 1) := by decide +kernel
set_option maxRecDepth 20000 in
theorem ggX0_service_X0_isChoir : GoodIn wsX0_service wsX0_isChoir := goodIn_r _ [8, 9, 10, 7, 11] (by decide +kernel) (by decide +kernel)
set_option maxRecDepth 20000 in
theorem gX0_service_X0_isChoir : GoodIn wsX0_service (va_wsS RX0 128 yX0_isChoir wsX0_isChoir) := goodIn_app (goodIn_of _ (by decide +kernel)) ggX0_service_X0_isChoir
set_option maxRecDepth 20000 in
theorem ggX0_service_X0_needIndex : GoodIn wsX0_service wsX0_needIndex := goodIn_ca (goodIn_r _ [14, 15, 16] (by decide +kernel) (by decide +kernel)) (goodIn_sub (fun _ h => List.mem_cons_of_mem _ (List.mem_append_left _ (List.mem_append_left _ (List.mem_append_right _ h)))) (by decide +kernel))
set_option maxRecDepth 20000 in
theorem gX0_service_X0_needIndex : GoodIn wsX0_service (va_wsS RX0 56 yX0_needIndex wsX0_needIndex) := goodIn_app (goodIn_of _ (by decide +kernel)) ggX0_service_X0_needIndex
set_option maxRecDepth 20000 in
theorem ggX0_service_X0_isBetween : GoodIn wsX0_service wsX0_isBetween := goodIn_r _ [11] (by decide +kernel) (by decide +kernel)
set_option maxRecDepth 20000 in
theorem gX0_service_X0_isBetween : GoodIn wsX0_service (va_wsS RX0 52 yX0_isBetween wsX0_isBetween) := goodIn_app (goodIn_of _ (by decide +kernel)) ggX0_service_X0_isBetween
set_option maxRecDepth 20000 in
theorem ggX0_service_X0_needArgument : GoodIn wsX0_service wsX0_needArgument := goodIn_ca (goodIn_r _ [19, 20, 21] (by decide +kernel) (by decide +kernel)) (goodIn_sub (fun _ h => List.mem_cons_of_mem _ (List.mem_append_left _ (List.mem_append_right _ h))) (by decide +kernel))
set_option maxRecDepth 20000 in
theorem gX0_service_X0_needArgument : GoodIn wsX0_service (va_wsS RX0 60 yX0_needArgument wsX0_needArgument) := goodIn_app (goodIn_of _ (by decide +kernel)) ggX0_service_X0_needArgument
set_option maxRecDepth 20000 in
theorem ggX0_service_X0_needState : GoodIn wsX0_service wsX0_needState := goodIn_ca (goodIn_r _ [24, 25, 26] (by decide +kernel) (by decide +kernel)) (goodIn_sub (fun _ h => List.mem_cons_of_mem _ (List.mem_append_right _ h)) (by decide +kernel))
set_option maxRecDepth 20000 in
theorem gX0_service_X0_needState : GoodIn wsX0_service (va_wsS RX0 67 yX0_needState wsX0_needState) := goodIn_app (goodIn_of _ (by decide +kernel)) ggX0_service_X0_needState
set_option maxRecDepth 20000 in
theorem ggX0_service_X0_hasServiceOn : GoodIn wsX0_service wsX0_hasServiceOn := goodIn_r _ [30, 2, 3, 4, 74, 75, 76, 77, 78, 79, 80, 81, 82, 83, 84, 85, 86, 87, 88, 89, 90, 91] (by decide +kernel) (by decide +kernel)
set_option maxRecDepth 20000 in
theorem gX0_service_X0_hasServiceOn : GoodIn wsX0_service (wsV RX0 134 RX0 yX0_hasServiceOn wsX0_hasServiceOn) := goodIn_app (goodIn_of _ (by decide +kernel)) ggX0_service_X0_hasServiceOn
set_option maxRecDepth 20000 in
theorem ggX0_service_X0_planAnew : GoodIn wsX0_service wsX0_planAnew := goodIn_r _ [34, 35, 3, 4, 36, 37, 38, 7, 39, 40, 41, 42, 43, 44, 45, 46, 47, 48, 49, 50, 51, 52, 53, 54, 55, 56, 57, 58, 59, 60, 61, 9, 10, 11, 62, 63, 64, 65, 2, 66, 67, 68, 69, 70, 71, 72, 73, 74, 75, 76, 77, 78, 79, 80, 81, 82, 83, 84, 85, 86, 87, 88, 89, 90, 91] (by decide +kernel) (by decide +kernel)
set_option maxRecDepth 20000 in
theorem gX0_service_X0_planAnew : GoodIn wsX0_service (wsV RX0 138 RX0 yX0_planAnew wsX0_planAnew) := goodIn_app (goodIn_of _ (by decide +kernel)) ggX0_service_X0_planAnew
theorem dX0_service_0 : decode cX0_service 0 = .ok (.iload_n 1, 1) := by decide +kernel
theorem dX0_service_1 : decode cX0_service 1 = .ok (.invokestatic 128, 3) := by decide +kernel
theorem dX0_service_4 : decode cX0_service 4 = .ok (.invokestatic 56, 3) := by decide +kernel
theorem dX0_service_7 : decode cX0_service 7 = .ok (.iload_n 2, 1) := by decide +kernel
theorem dX0_service_8 : decode cX0_service 8 = .ok (.aload_n 0, 1) := by decide +kernel
theorem dX0_service_9 : decode cX0_service 9 = .ok (.getfield 103, 3) := by decide +kernel
theorem dX0_service_12 : decode cX0_service 12 = .ok (.sipush 1459, 3) := by decide +kernel
theorem dX0_service_15 : decode cX0_service 15 = .ok (.invokestatic 52, 3) := by decide +kernel
theorem dX0_service_18 : decode cX0_service 18 = .ok (.invokestatic 60, 3) := by decide +kernel
theorem dX0_service_21 : decode cX0_service 21 = .ok (.aload_n 0, 1) := by decide +kernel
theorem dX0_service_22 : decode cX0_service 22 = .ok (.getfield 131, 3) := by decide +kernel
theorem dX0_service_25 : decode cX0_service 25 = .ok (.bipush 40, 2) := by decide +kernel
theorem dX0_service_27 : decode cX0_service 27 = .ok (.if_icmp .ge 7, 3) := by decide +kernel
theorem dX0_service_30 : decode cX0_service 30 = .ok (.iconst 1, 1) := by decide +kernel
theorem dX0_service_31 : decode cX0_service 31 = .ok (.goto 4, 3) := by decide +kernel
theorem dX0_service_34 : decode cX0_service 34 = .ok (.iconst 0, 1) := by decide +kernel
theorem dX0_service_35 : decode cX0_service 35 = .ok (.invokestatic 67, 3) := by decide +kernel
theorem dX0_service_38 : decode cX0_service 38 = .ok (.aload_n 0, 1) := by decide +kernel
theorem dX0_service_39 : decode cX0_service 39 = .ok (.iload_n 1, 1) := by decide +kernel
theorem dX0_service_40 : decode cX0_service 40 = .ok (.iload_n 2, 1) := by decide +kernel
theorem dX0_service_41 : decode cX0_service 41 = .ok (.invokevirtual 134, 3) := by decide +kernel
theorem dX0_service_44 : decode cX0_service 44 = .ok (.ifCond .ne 7, 3) := by decide +kernel
theorem dX0_service_47 : decode cX0_service 47 = .ok (.iconst 1, 1) := by decide +kernel
theorem dX0_service_48 : decode cX0_service 48 = .ok (.goto 4, 3) := by decide +kernel
theorem dX0_service_51 : decode cX0_service 51 = .ok (.iconst 0, 1) := by decide +kernel
theorem dX0_service_52 : decode cX0_service 52 = .ok (.invokestatic 67, 3) := by decide +kernel
theorem dX0_service_55 : decode cX0_service 55 = .ok (.aload_n 0, 1) := by decide +kernel
theorem dX0_service_56 : decode cX0_service 56 = .ok (.getfield 131, 3) := by decide +kernel
theorem dX0_service_59 : decode cX0_service 59 = .ok (.istore_n 3, 1) := by decide +kernel
theorem dX0_service_60 : decode cX0_service 60 = .ok (.aload_n 0, 1) := by decide +kernel
theorem dX0_service_61 : decode cX0_service 61 = .ok (.getfield 43, 3) := by decide +kernel
theorem dX0_service_64 : decode cX0_service 64 = .ok (.iload_n 3, 1) := by decide +kernel
theorem dX0_service_65 : decode cX0_service 65 = .ok (.iload_n 1, 1) := by decide +kernel
theorem dX0_service_66 : decode cX0_service 66 = .ok (.iastore, 1) := by decide +kernel
theorem dX0_service_67 : decode cX0_service 67 = .ok (.aload_n 0, 1) := by decide +kernel
theorem dX0_service_68 : decode cX0_service 68 = .ok (.getfield 46, 3) := by decide +kernel
theorem dX0_service_71 : decode cX0_service 71 = .ok (.iload_n 3, 1) := by decide +kernel
theorem dX0_service_72 : decode cX0_service 72 = .ok (.iload_n 2, 1) := by decide +kernel
theorem dX0_service_73 : decode cX0_service 73 = .ok (.iastore, 1) := by decide +kernel
theorem dX0_service_74 : decode cX0_service 74 = .ok (.aload_n 0, 1) := by decide +kernel
theorem dX0_service_75 : decode cX0_service 75 = .ok (.dup, 1) := by decide +kernel
theorem dX0_service_76 : decode cX0_service 76 = .ok (.getfield 131, 3) := by decide +kernel
theorem dX0_service_79 : decode cX0_service 79 = .ok (.iconst 1, 1) := by decide +kernel
theorem dX0_service_80 : decode cX0_service 80 = .ok (.iadd, 1) := by decide +kernel
theorem dX0_service_81 : decode cX0_service 81 = .ok (.putfield 131, 3) := by decide +kernel
theorem dX0_service_84 : decode cX0_service 84 = .ok (.aload_n 0, 1) := by decide +kernel
theorem dX0_service_85 : decode cX0_service 85 = .ok (.iload_n 3, 1) := by decide +kernel
theorem dX0_service_86 : decode cX0_service 86 = .ok (.invokevirtual 138, 3) := by decide +kernel
theorem dX0_service_89 : decode cX0_service 89 = .ok (.iload_n 3, 1) := by decide +kernel
theorem dX0_service_90 : decode cX0_service 90 = .ok (.ireturn, 1) := by decide +kernel
set_option maxRecDepth 20000 in
theorem ggX0_plan_X0_isService : GoodIn wsX0_plan wsX0_isService := goodIn_r _ [8, 9, 10, 11, 7, 12, 66, 67, 68, 69, 70, 71, 72, 73, 74, 75, 76, 77, 78, 79, 80, 81, 82, 83] (by decide +kernel) (by decide +kernel)
set_option maxRecDepth 20000 in
theorem gX0_plan_X0_isService : GoodIn wsX0_plan (wsV RX0 142 RX0 yX0_isService wsX0_isService) := goodIn_app (goodIn_of _ (by decide +kernel)) ggX0_plan_X0_isService
set_option maxRecDepth 20000 in
theorem ggX0_plan_X0_needIndex : GoodIn wsX0_plan wsX0_needIndex := goodIn_ca (goodIn_r _ [15, 16, 17] (by decide +kernel) (by decide +kernel)) (goodIn_sub (fun _ h => List.mem_cons_of_mem _ (List.mem_append_left _ (List.mem_append_right _ h))) (by decide +kernel))
set_option maxRecDepth 20000 in
theorem gX0_plan_X0_needIndex : GoodIn wsX0_plan (va_wsS RX0 56 yX0_needIndex wsX0_needIndex) := goodIn_app (goodIn_of _ (by decide +kernel)) ggX0_plan_X0_needIndex
set_option maxRecDepth 20000 in
theorem ggX0_plan_X0_needState : GoodIn wsX0_plan wsX0_needState := goodIn_ca (goodIn_r _ [20, 21, 22] (by decide +kernel) (by decide +kernel)) (goodIn_sub (fun _ h => List.mem_cons_of_mem _ (List.mem_append_right _ h)) (by decide +kernel))
set_option maxRecDepth 20000 in
theorem gX0_plan_X0_needState : GoodIn wsX0_plan (va_wsS RX0 67 yX0_needState wsX0_needState) := goodIn_app (goodIn_of _ (by decide +kernel)) ggX0_plan_X0_needState
set_option maxRecDepth 20000 in
theorem ggX0_plan_X0_planAnew : GoodIn wsX0_plan wsX0_planAnew := goodIn_r _ [26, 3, 27, 1, 28, 29, 30, 7, 31, 32, 33, 34, 35, 36, 37, 38, 39, 40, 41, 42, 43, 44, 45, 46, 47, 48, 49, 50, 51, 52, 53, 10, 11, 12, 54, 55, 56, 57, 9, 58, 59, 60, 61, 62, 63, 64, 65, 66, 67, 68, 69, 70, 71, 72, 73, 74, 75, 76, 77, 78, 79, 80, 81, 82, 83] (by decide +kernel) (by decide +kernel)
set_option maxRecDepth 20000 in
theorem gX0_plan_X0_planAnew : GoodIn wsX0_plan (wsV RX0 138 RX0 yX0_planAnew wsX0_planAnew) := goodIn_app (goodIn_of _ (by decide +kernel)) ggX0_plan_X0_planAnew
theorem dX0_plan_0 : decode cX0_plan 0 = .ok (.aload_n 0, 1) := by decide +kernel
theorem dX0_plan_1 : decode cX0_plan 1 = .ok (.iload_n 1, 1) := by decide +kernel
theorem dX0_plan_2 : decode cX0_plan 2 = .ok (.invokevirtual 142, 3) := by decide +kernel
theorem dX0_plan_5 : decode cX0_plan 5 = .ok (.invokestatic 56, 3) := by decide +kernel
theorem dX0_plan_8 : decode cX0_plan 8 = .ok (.aload_n 0, 1) := by decide +kernel
theorem dX0_plan_9 : decode cX0_plan 9 = .ok (.getfield 46, 3) := by decide +kernel
theorem dX0_plan_12 : decode cX0_plan 12 = .ok (.iload_n 1, 1) := by decide +kernel
theorem dX0_plan_13 : decode cX0_plan 13 = .ok (.iaload, 1) := by decide +kernel
theorem dX0_plan_14 : decode cX0_plan 14 = .ok (.aload_n 0, 1) := by decide +kernel
theorem dX0_plan_15 : decode cX0_plan 15 = .ok (.getfield 103, 3) := by decide +kernel
theorem dX0_plan_18 : decode cX0_plan 18 = .ok (.if_icmp .lt 7, 3) := by decide +kernel
theorem dX0_plan_21 : decode cX0_plan 21 = .ok (.iconst 1, 1) := by decide +kernel
theorem dX0_plan_22 : decode cX0_plan 22 = .ok (.goto 4, 3) := by decide +kernel
theorem dX0_plan_25 : decode cX0_plan 25 = .ok (.iconst 0, 1) := by decide +kernel
theorem dX0_plan_26 : decode cX0_plan 26 = .ok (.invokestatic 67, 3) := by decide +kernel
theorem dX0_plan_29 : decode cX0_plan 29 = .ok (.aload_n 0, 1) := by decide +kernel
theorem dX0_plan_30 : decode cX0_plan 30 = .ok (.iload_n 1, 1) := by decide +kernel
theorem dX0_plan_31 : decode cX0_plan 31 = .ok (.invokevirtual 138, 3) := by decide +kernel
theorem dX0_plan_34 : decode cX0_plan 34 = .ok (.aload_n 0, 1) := by decide +kernel
theorem dX0_plan_35 : decode cX0_plan 35 = .ok (.getfield 49, 3) := by decide +kernel
theorem dX0_plan_38 : decode cX0_plan 38 = .ok (.iload_n 1, 1) := by decide +kernel
theorem dX0_plan_39 : decode cX0_plan 39 = .ok (.iaload, 1) := by decide +kernel
theorem dX0_plan_40 : decode cX0_plan 40 = .ok (.ireturn, 1) := by decide +kernel
set_option maxRecDepth 20000 in
theorem ggX0_hymnOf_X0_isService : GoodIn wsX0_hymnOf wsX0_isService := goodIn_r _ [6, 7, 8, 9, 5, 10, 16, 17, 18, 19, 20, 21, 22, 23, 24, 25, 26, 27, 28, 29, 30, 31, 32, 33] (by decide +kernel) (by decide +kernel)
set_option maxRecDepth 20000 in
theorem gX0_hymnOf_X0_isService : GoodIn wsX0_hymnOf (wsV RX0 142 RX0 yX0_isService wsX0_isService) := goodIn_app (goodIn_of _ (by decide +kernel)) ggX0_hymnOf_X0_isService
set_option maxRecDepth 20000 in
theorem ggX0_hymnOf_X0_needIndex : GoodIn wsX0_hymnOf wsX0_needIndex := goodIn_ca (goodIn_r _ [13, 14, 15] (by decide +kernel) (by decide +kernel)) (goodIn_sub (fun _ h => List.mem_cons_of_mem _ (List.mem_append_right _ h)) (by decide +kernel))
set_option maxRecDepth 20000 in
theorem gX0_hymnOf_X0_needIndex : GoodIn wsX0_hymnOf (va_wsS RX0 56 yX0_needIndex wsX0_needIndex) := goodIn_app (goodIn_of _ (by decide +kernel)) ggX0_hymnOf_X0_needIndex
theorem dX0_hymnOf_0 : decode cX0_hymnOf 0 = .ok (.aload_n 0, 1) := by decide +kernel
theorem dX0_hymnOf_1 : decode cX0_hymnOf 1 = .ok (.iload_n 1, 1) := by decide +kernel
theorem dX0_hymnOf_2 : decode cX0_hymnOf 2 = .ok (.invokevirtual 142, 3) := by decide +kernel
theorem dX0_hymnOf_5 : decode cX0_hymnOf 5 = .ok (.invokestatic 56, 3) := by decide +kernel
theorem dX0_hymnOf_8 : decode cX0_hymnOf 8 = .ok (.aload_n 0, 1) := by decide +kernel
theorem dX0_hymnOf_9 : decode cX0_hymnOf 9 = .ok (.getfield 49, 3) := by decide +kernel
theorem dX0_hymnOf_12 : decode cX0_hymnOf 12 = .ok (.iload_n 1, 1) := by decide +kernel
theorem dX0_hymnOf_13 : decode cX0_hymnOf 13 = .ok (.iaload, 1) := by decide +kernel
theorem dX0_hymnOf_14 : decode cX0_hymnOf 14 = .ok (.ireturn, 1) := by decide +kernel
theorem dX0_silent_0 : decode cX0_silent 0 = .ok (.iconst 0, 1) := by decide +kernel
theorem dX0_silent_1 : decode cX0_silent 1 = .ok (.istore_n 1, 1) := by decide +kernel
theorem dX0_silent_2 : decode cX0_silent 2 = .ok (.iconst 0, 1) := by decide +kernel
theorem dX0_silent_3 : decode cX0_silent 3 = .ok (.istore_n 2, 1) := by decide +kernel
theorem dX0_silent_4 : decode cX0_silent 4 = .ok (.iload_n 2, 1) := by decide +kernel
theorem dX0_silent_5 : decode cX0_silent 5 = .ok (.aload_n 0, 1) := by decide +kernel
theorem dX0_silent_6 : decode cX0_silent 6 = .ok (.getfield 131, 3) := by decide +kernel
theorem dX0_silent_9 : decode cX0_silent 9 = .ok (.if_icmp .ge 35, 3) := by decide +kernel
theorem dX0_silent_12 : decode cX0_silent 12 = .ok (.aload_n 0, 1) := by decide +kernel
theorem dX0_silent_13 : decode cX0_silent 13 = .ok (.getfield 46, 3) := by decide +kernel
theorem dX0_silent_16 : decode cX0_silent 16 = .ok (.iload_n 2, 1) := by decide +kernel
theorem dX0_silent_17 : decode cX0_silent 17 = .ok (.iaload, 1) := by decide +kernel
theorem dX0_silent_18 : decode cX0_silent 18 = .ok (.aload_n 0, 1) := by decide +kernel
theorem dX0_silent_19 : decode cX0_silent 19 = .ok (.getfield 103, 3) := by decide +kernel
theorem dX0_silent_22 : decode cX0_silent 22 = .ok (.if_icmp .gt 16, 3) := by decide +kernel
theorem dX0_silent_25 : decode cX0_silent 25 = .ok (.aload_n 0, 1) := by decide +kernel
theorem dX0_silent_26 : decode cX0_silent 26 = .ok (.getfield 49, 3) := by decide +kernel
theorem dX0_silent_29 : decode cX0_silent 29 = .ok (.iload_n 2, 1) := by decide +kernel
theorem dX0_silent_30 : decode cX0_silent 30 = .ok (.iaload, 1) := by decide +kernel
theorem dX0_silent_31 : decode cX0_silent 31 = .ok (.iconst (-1), 1) := by decide +kernel
theorem dX0_silent_32 : decode cX0_silent 32 = .ok (.if_icmp .ne 6, 3) := by decide +kernel
theorem dX0_silent_35 : decode cX0_silent 35 = .ok (.iinc 1 1, 3) := by decide +kernel
theorem dX0_silent_38 : decode cX0_silent 38 = .ok (.iinc 2 1, 3) := by decide +kernel
theorem dX0_silent_41 : decode cX0_silent 41 = .ok (.goto (-37), 3) := by decide +kernel
theorem dX0_silent_44 : decode cX0_silent 44 = .ok (.iload_n 1, 1) := by decide +kernel
theorem dX0_silent_45 : decode cX0_silent 45 = .ok (.ireturn, 1) := by decide +kernel
theorem dX0_hasServiceOn_0 : decode cX0_hasServiceOn 0 = .ok (.iconst 0, 1) := by decide +kernel
theorem dX0_hasServiceOn_1 : decode cX0_hasServiceOn 1 = .ok (.istore_n 3, 1) := by decide +kernel
theorem dX0_hasServiceOn_2 : decode cX0_hasServiceOn 2 = .ok (.iload_n 3, 1) := by decide +kernel
theorem dX0_hasServiceOn_3 : decode cX0_hasServiceOn 3 = .ok (.aload_n 0, 1) := by decide +kernel
theorem dX0_hasServiceOn_4 : decode cX0_hasServiceOn 4 = .ok (.getfield 131, 3) := by decide +kernel
theorem dX0_hasServiceOn_7 : decode cX0_hasServiceOn 7 = .ok (.if_icmp .ge 31, 3) := by decide +kernel
theorem dX0_hasServiceOn_10 : decode cX0_hasServiceOn 10 = .ok (.aload_n 0, 1) := by decide +kernel
theorem dX0_hasServiceOn_11 : decode cX0_hasServiceOn 11 = .ok (.getfield 43, 3) := by decide +kernel
theorem dX0_hasServiceOn_14 : decode cX0_hasServiceOn 14 = .ok (.iload_n 3, 1) := by decide +kernel
theorem dX0_hasServiceOn_15 : decode cX0_hasServiceOn 15 = .ok (.iaload, 1) := by decide +kernel
theorem dX0_hasServiceOn_16 : decode cX0_hasServiceOn 16 = .ok (.iload_n 1, 1) := by decide +kernel
theorem dX0_hasServiceOn_17 : decode cX0_hasServiceOn 17 = .ok (.if_icmp .ne 15, 3) := by decide +kernel
theorem dX0_hasServiceOn_20 : decode cX0_hasServiceOn 20 = .ok (.aload_n 0, 1) := by decide +kernel
theorem dX0_hasServiceOn_21 : decode cX0_hasServiceOn 21 = .ok (.getfield 46, 3) := by decide +kernel
theorem dX0_hasServiceOn_24 : decode cX0_hasServiceOn 24 = .ok (.iload_n 3, 1) := by decide +kernel
theorem dX0_hasServiceOn_25 : decode cX0_hasServiceOn 25 = .ok (.iaload, 1) := by decide +kernel
theorem dX0_hasServiceOn_26 : decode cX0_hasServiceOn 26 = .ok (.iload_n 2, 1) := by decide +kernel
theorem dX0_hasServiceOn_27 : decode cX0_hasServiceOn 27 = .ok (.if_icmp .ne 5, 3) := by decide +kernel
theorem dX0_hasServiceOn_30 : decode cX0_hasServiceOn 30 = .ok (.iconst 1, 1) := by decide +kernel
theorem dX0_hasServiceOn_31 : decode cX0_hasServiceOn 31 = .ok (.ireturn, 1) := by decide +kernel
theorem dX0_hasServiceOn_32 : decode cX0_hasServiceOn 32 = .ok (.iinc 3 1, 3) := by decide +kernel
theorem dX0_hasServiceOn_35 : decode cX0_hasServiceOn 35 = .ok (.goto (-33), 3) := by decide +kernel
theorem dX0_hasServiceOn_38 : decode cX0_hasServiceOn 38 = .ok (.iconst 0, 1) := by decide +kernel
theorem dX0_hasServiceOn_39 : decode cX0_hasServiceOn 39 = .ok (.ireturn, 1) := by decide +kernel
set_option maxRecDepth 20000 in
theorem ggX0_planAnew_X0_bestHymn : GoodIn wsX0_planAnew wsX0_bestHymn := goodIn_r _ [8, 9, 10, 11, 12, 7, 13, 14, 15, 16, 17, 18, 19, 20, 21, 22, 23, 24, 25, 26, 27, 28, 29, 30, 31, 32, 33, 34, 35, 36, 37, 38, 2, 1, 3, 39, 40, 41, 42, 43, 44, 45, 46, 47, 48, 49, 50, 51, 52, 53, 54, 55, 56, 57, 58, 59, 60, 61, 62, 63, 64] (by decide +kernel) (by decide +kernel)
set_option maxRecDepth 20000 in
theorem gX0_planAnew_X0_bestHymn : GoodIn wsX0_planAnew (wsV RX0 145 RX0 yX0_bestHymn wsX0_bestHymn) := goodIn_app (goodIn_of _ (by decide +kernel)) ggX0_planAnew_X0_bestHymn
theorem dX0_planAnew_0 : decode cX0_planAnew 0 = .ok (.aload_n 0, 1) := by decide +kernel
theorem dX0_planAnew_1 : decode cX0_planAnew 1 = .ok (.getfield 49, 3) := by decide +kernel
theorem dX0_planAnew_4 : decode cX0_planAnew 4 = .ok (.iload_n 1, 1) := by decide +kernel
theorem dX0_planAnew_5 : decode cX0_planAnew 5 = .ok (.iconst (-1), 1) := by decide +kernel
theorem dX0_planAnew_6 : decode cX0_planAnew 6 = .ok (.iastore, 1) := by decide +kernel
theorem dX0_planAnew_7 : decode cX0_planAnew 7 = .ok (.aload_n 0, 1) := by decide +kernel
theorem dX0_planAnew_8 : decode cX0_planAnew 8 = .ok (.getfield 49, 3) := by decide +kernel
theorem dX0_planAnew_11 : decode cX0_planAnew 11 = .ok (.iload_n 1, 1) := by decide +kernel
theorem dX0_planAnew_12 : decode cX0_planAnew 12 = .ok (.aload_n 0, 1) := by decide +kernel
theorem dX0_planAnew_13 : decode cX0_planAnew 13 = .ok (.aload_n 0, 1) := by decide +kernel
theorem dX0_planAnew_14 : decode cX0_planAnew 14 = .ok (.getfield 43, 3) := by decide +kernel
theorem dX0_planAnew_17 : decode cX0_planAnew 17 = .ok (.iload_n 1, 1) := by decide +kernel
theorem dX0_planAnew_18 : decode cX0_planAnew 18 = .ok (.iaload, 1) := by decide +kernel
theorem dX0_planAnew_19 : decode cX0_planAnew 19 = .ok (.aload_n 0, 1) := by decide +kernel
theorem dX0_planAnew_20 : decode cX0_planAnew 20 = .ok (.getfield 46, 3) := by decide +kernel
theorem dX0_planAnew_23 : decode cX0_planAnew 23 = .ok (.iload_n 1, 1) := by decide +kernel
theorem dX0_planAnew_24 : decode cX0_planAnew 24 = .ok (.iaload, 1) := by decide +kernel
theorem dX0_planAnew_25 : decode cX0_planAnew 25 = .ok (.invokevirtual 145, 3) := by decide +kernel
theorem dX0_planAnew_28 : decode cX0_planAnew 28 = .ok (.iastore, 1) := by decide +kernel
theorem dX0_planAnew_29 : decode cX0_planAnew 29 = .ok (.return_, 1) := by decide +kernel
set_option maxRecDepth 20000 in
theorem ggX0_bestHymn_X0_isSuitable : GoodIn wsX0_bestHymn wsX0_isSuitable := goodIn_r _ [6, 7, 8, 9, 10, 5, 11, 12, 13, 14, 15, 16, 17, 18, 19, 20, 21, 22, 23, 24, 25, 26, 27, 28, 29, 30, 31, 32, 33, 34, 35, 36, 37, 38, 43, 44, 45, 46, 47, 48, 49, 50, 51, 52, 53, 54, 55, 56, 57, 58, 59, 60] (by decide +kernel) (by decide +kernel)
set_option maxRecDepth 20000 in
theorem gX0_bestHymn_X0_isSuitable : GoodIn wsX0_bestHymn (wsV RX0 148 RX0 yX0_isSuitable wsX0_isSuitable) := goodIn_app (goodIn_of _ (by decide +kernel)) ggX0_bestHymn_X0_isSuitable
set_option maxRecDepth 20000 in
theorem ggX0_bestHymn_X0_servicesWith : GoodIn wsX0_bestHymn wsX0_servicesWith := goodIn_r _ [42, 31, 33, 43, 44, 45, 46, 47, 48, 49, 50, 51, 52, 53, 54, 55, 56, 57, 58, 59, 60] (by decide +kernel) (by decide +kernel)
set_option maxRecDepth 20000 in
theorem gX0_bestHymn_X0_servicesWith : GoodIn wsX0_bestHymn (wsV RX0 151 RX0 yX0_servicesWith wsX0_servicesWith) := goodIn_app (goodIn_of _ (by decide +kernel)) ggX0_bestHymn_X0_servicesWith
theorem dX0_bestHymn_0 : decode cX0_bestHymn 0 = .ok (.iconst (-1), 1) := by decide +kernel
theorem dX0_bestHymn_1 : decode cX0_bestHymn 1 = .ok (.istore_n 3, 1) := by decide +kernel
theorem dX0_bestHymn_2 : decode cX0_bestHymn 2 = .ok (.iconst 0, 1) := by decide +kernel
theorem dX0_bestHymn_3 : decode cX0_bestHymn 3 = .ok (.istore 4, 2) := by decide +kernel
theorem dX0_bestHymn_5 : decode cX0_bestHymn 5 = .ok (.iconst 0, 1) := by decide +kernel
theorem dX0_bestHymn_6 : decode cX0_bestHymn 6 = .ok (.istore 5, 2) := by decide +kernel
theorem dX0_bestHymn_8 : decode cX0_bestHymn 8 = .ok (.iload 5, 2) := by decide +kernel
theorem dX0_bestHymn_10 : decode cX0_bestHymn 10 = .ok (.aload_n 0, 1) := by decide +kernel
theorem dX0_bestHymn_11 : decode cX0_bestHymn 11 = .ok (.getfield 63, 3) := by decide +kernel
theorem dX0_bestHymn_14 : decode cX0_bestHymn 14 = .ok (.if_icmp .ge 47, 3) := by decide +kernel
theorem dX0_bestHymn_17 : decode cX0_bestHymn 17 = .ok (.aload_n 0, 1) := by decide +kernel
theorem dX0_bestHymn_18 : decode cX0_bestHymn 18 = .ok (.iload 5, 2) := by decide +kernel
theorem dX0_bestHymn_20 : decode cX0_bestHymn 20 = .ok (.iload_n 1, 1) := by decide +kernel
theorem dX0_bestHymn_21 : decode cX0_bestHymn 21 = .ok (.iload_n 2, 1) := by decide +kernel
theorem dX0_bestHymn_22 : decode cX0_bestHymn 22 = .ok (.invokevirtual 148, 3) := by decide +kernel
theorem dX0_bestHymn_25 : decode cX0_bestHymn 25 = .ok (.ifCond .eq 30, 3) := by decide +kernel
theorem dX0_bestHymn_28 : decode cX0_bestHymn 28 = .ok (.aload_n 0, 1) := by decide +kernel
theorem dX0_bestHymn_29 : decode cX0_bestHymn 29 = .ok (.iload 5, 2) := by decide +kernel
theorem dX0_bestHymn_31 : decode cX0_bestHymn 31 = .ok (.invokevirtual 151, 3) := by decide +kernel
theorem dX0_bestHymn_34 : decode cX0_bestHymn 34 = .ok (.istore 6, 2) := by decide +kernel
theorem dX0_bestHymn_36 : decode cX0_bestHymn 36 = .ok (.iload_n 3, 1) := by decide +kernel
theorem dX0_bestHymn_37 : decode cX0_bestHymn 37 = .ok (.iconst (-1), 1) := by decide +kernel
theorem dX0_bestHymn_38 : decode cX0_bestHymn 38 = .ok (.if_icmp .eq 10, 3) := by decide +kernel
theorem dX0_bestHymn_41 : decode cX0_bestHymn 41 = .ok (.iload 6, 2) := by decide +kernel
theorem dX0_bestHymn_43 : decode cX0_bestHymn 43 = .ok (.iload 4, 2) := by decide +kernel
theorem dX0_bestHymn_45 : decode cX0_bestHymn 45 = .ok (.if_icmp .ge 10, 3) := by decide +kernel
theorem dX0_bestHymn_48 : decode cX0_bestHymn 48 = .ok (.iload 5, 2) := by decide +kernel
theorem dX0_bestHymn_50 : decode cX0_bestHymn 50 = .ok (.istore_n 3, 1) := by decide +kernel
theorem dX0_bestHymn_51 : decode cX0_bestHymn 51 = .ok (.iload 6, 2) := by decide +kernel
theorem dX0_bestHymn_53 : decode cX0_bestHymn 53 = .ok (.istore 4, 2) := by decide +kernel
theorem dX0_bestHymn_55 : decode cX0_bestHymn 55 = .ok (.iinc 5 1, 3) := by decide +kernel
theorem dX0_bestHymn_58 : decode cX0_bestHymn 58 = .ok (.goto (-50), 3) := by decide +kernel
theorem dX0_bestHymn_61 : decode cX0_bestHymn 61 = .ok (.iload_n 3, 1) := by decide +kernel
theorem dX0_bestHymn_62 : decode cX0_bestHymn 62 = .ok (.ireturn, 1) := by decide +kernel
set_option maxRecDepth 20000 in
theorem ggX0_isSuitable_X0_isInSet : GoodIn wsX0_isSuitable wsX0_isInSet := goodIn_r _ [6] (by decide +kernel) (by decide +kernel)
set_option maxRecDepth 20000 in
theorem gX0_isSuitable_X0_isInSet : GoodIn wsX0_isSuitable (va_wsS RX0 90 yX0_isInSet wsX0_isInSet) := goodIn_app (goodIn_of _ (by decide +kernel)) ggX0_isSuitable_X0_isInSet
set_option maxRecDepth 20000 in
theorem ggX0_isSuitable_X0_seasonOf : GoodIn wsX0_isSuitable wsX0_seasonOf := goodIn_r _ [9] (by decide +kernel) (by decide +kernel)
set_option maxRecDepth 20000 in
theorem gX0_isSuitable_X0_seasonOf : GoodIn wsX0_isSuitable (va_wsS RX0 154 yX0_seasonOf wsX0_seasonOf) := goodIn_app (goodIn_of _ (by decide +kernel)) ggX0_isSuitable_X0_seasonOf
set_option maxRecDepth 20000 in
theorem ggX0_isSuitable_X0_isAllowed : GoodIn wsX0_isSuitable wsX0_isAllowed := goodIn_r _ [13, 14, 15, 16, 17, 18, 19, 20, 5, 21, 34, 35, 36, 37, 38, 39, 40, 41, 42, 43, 44, 45, 46, 47, 48, 49, 50, 51] (by decide +kernel) (by decide +kernel)
set_option maxRecDepth 20000 in
theorem gX0_isSuitable_X0_isAllowed : GoodIn wsX0_isSuitable (wsV RX0 119 RX0 yX0_isAllowed wsX0_isAllowed) := goodIn_app (goodIn_of _ (by decide +kernel)) ggX0_isSuitable_X0_isAllowed
set_option maxRecDepth 20000 in
theorem ggX0_isSuitable_X0_isRested : GoodIn wsX0_isSuitable wsX0_isRested := goodIn_r _ [25, 26, 27, 28, 29, 30, 31, 32, 33, 34, 35, 36, 37, 38, 39, 40, 41, 42, 43, 44, 45, 46, 47, 48, 49, 50, 51] (by decide +kernel) (by decide +kernel)
set_option maxRecDepth 20000 in
theorem gX0_isSuitable_X0_isRested : GoodIn wsX0_isSuitable (wsV RX0 157 RX0 yX0_isRested wsX0_isRested) := goodIn_app (goodIn_of _ (by decide +kernel)) ggX0_isSuitable_X0_isRested
theorem dX0_isSuitable_0 : decode cX0_isSuitable 0 = .ok (.iload_n 2, 1) := by decide +kernel
theorem dX0_isSuitable_1 : decode cX0_isSuitable 1 = .ok (.aload_n 0, 1) := by decide +kernel
theorem dX0_isSuitable_2 : decode cX0_isSuitable 2 = .ok (.getfield 25, 3) := by decide +kernel
theorem dX0_isSuitable_5 : decode cX0_isSuitable 5 = .ok (.iload_n 1, 1) := by decide +kernel
theorem dX0_isSuitable_6 : decode cX0_isSuitable 6 = .ok (.iaload, 1) := by decide +kernel
theorem dX0_isSuitable_7 : decode cX0_isSuitable 7 = .ok (.i2l, 1) := by decide +kernel
theorem dX0_isSuitable_8 : decode cX0_isSuitable 8 = .ok (.invokestatic 90, 3) := by decide +kernel
theorem dX0_isSuitable_11 : decode cX0_isSuitable 11 = .ok (.ifCond .eq 44, 3) := by decide +kernel
theorem dX0_isSuitable_14 : decode cX0_isSuitable 14 = .ok (.iload_n 3, 1) := by decide +kernel
theorem dX0_isSuitable_15 : decode cX0_isSuitable 15 = .ok (.invokestatic 154, 3) := by decide +kernel
theorem dX0_isSuitable_18 : decode cX0_isSuitable 18 = .ok (.aload_n 0, 1) := by decide +kernel
theorem dX0_isSuitable_19 : decode cX0_isSuitable 19 = .ok (.getfield 13, 3) := by decide +kernel
theorem dX0_isSuitable_22 : decode cX0_isSuitable 22 = .ok (.iload_n 1, 1) := by decide +kernel
theorem dX0_isSuitable_23 : decode cX0_isSuitable 23 = .ok (.iaload, 1) := by decide +kernel
theorem dX0_isSuitable_24 : decode cX0_isSuitable 24 = .ok (.i2l, 1) := by decide +kernel
theorem dX0_isSuitable_25 : decode cX0_isSuitable 25 = .ok (.invokestatic 90, 3) := by decide +kernel
theorem dX0_isSuitable_28 : decode cX0_isSuitable 28 = .ok (.ifCond .eq 27, 3) := by decide +kernel
theorem dX0_isSuitable_31 : decode cX0_isSuitable 31 = .ok (.aload_n 0, 1) := by decide +kernel
theorem dX0_isSuitable_32 : decode cX0_isSuitable 32 = .ok (.iload_n 1, 1) := by decide +kernel
theorem dX0_isSuitable_33 : decode cX0_isSuitable 33 = .ok (.iconst 0, 1) := by decide +kernel
theorem dX0_isSuitable_34 : decode cX0_isSuitable 34 = .ok (.iload_n 3, 1) := by decide +kernel
theorem dX0_isSuitable_35 : decode cX0_isSuitable 35 = .ok (.invokevirtual 119, 3) := by decide +kernel
theorem dX0_isSuitable_38 : decode cX0_isSuitable 38 = .ok (.ifCond .eq 17, 3) := by decide +kernel
theorem dX0_isSuitable_41 : decode cX0_isSuitable 41 = .ok (.aload_n 0, 1) := by decide +kernel
theorem dX0_isSuitable_42 : decode cX0_isSuitable 42 = .ok (.iload_n 1, 1) := by decide +kernel
theorem dX0_isSuitable_43 : decode cX0_isSuitable 43 = .ok (.iload_n 2, 1) := by decide +kernel
theorem dX0_isSuitable_44 : decode cX0_isSuitable 44 = .ok (.iload_n 3, 1) := by decide +kernel
theorem dX0_isSuitable_45 : decode cX0_isSuitable 45 = .ok (.invokevirtual 157, 3) := by decide +kernel
theorem dX0_isSuitable_48 : decode cX0_isSuitable 48 = .ok (.ifCond .eq 7, 3) := by decide +kernel
theorem dX0_isSuitable_51 : decode cX0_isSuitable 51 = .ok (.iconst 1, 1) := by decide +kernel
theorem dX0_isSuitable_52 : decode cX0_isSuitable 52 = .ok (.goto 4, 3) := by decide +kernel
theorem dX0_isSuitable_55 : decode cX0_isSuitable 55 = .ok (.iconst 0, 1) := by decide +kernel
theorem dX0_isSuitable_56 : decode cX0_isSuitable 56 = .ok (.ireturn, 1) := by decide +kernel
theorem dX0_isRested_0 : decode cX0_isRested 0 = .ok (.iconst 0, 1) := by decide +kernel
theorem dX0_isRested_1 : decode cX0_isRested 1 = .ok (.istore 4, 2) := by decide +kernel
theorem dX0_isRested_3 : decode cX0_isRested 3 = .ok (.iload 4, 2) := by decide +kernel
theorem dX0_isRested_5 : decode cX0_isRested 5 = .ok (.aload_n 0, 1) := by decide +kernel
theorem dX0_isRested_6 : decode cX0_isRested 6 = .ok (.getfield 131, 3) := by decide +kernel
theorem dX0_isRested_9 : decode cX0_isRested 9 = .ok (.if_icmp .ge 50, 3) := by decide +kernel
theorem dX0_isRested_12 : decode cX0_isRested 12 = .ok (.aload_n 0, 1) := by decide +kernel
theorem dX0_isRested_13 : decode cX0_isRested 13 = .ok (.getfield 43, 3) := by decide +kernel
theorem dX0_isRested_16 : decode cX0_isRested 16 = .ok (.iload 4, 2) := by decide +kernel
theorem dX0_isRested_18 : decode cX0_isRested 18 = .ok (.iaload, 1) := by decide +kernel
theorem dX0_isRested_19 : decode cX0_isRested 19 = .ok (.iload_n 2, 1) := by decide +kernel
theorem dX0_isRested_20 : decode cX0_isRested 20 = .ok (.if_icmp .ne 33, 3) := by decide +kernel
theorem dX0_isRested_23 : decode cX0_isRested 23 = .ok (.aload_n 0, 1) := by decide +kernel
theorem dX0_isRested_24 : decode cX0_isRested 24 = .ok (.getfield 49, 3) := by decide +kernel
theorem dX0_isRested_27 : decode cX0_isRested 27 = .ok (.iload 4, 2) := by decide +kernel
theorem dX0_isRested_29 : decode cX0_isRested 29 = .ok (.iaload, 1) := by decide +kernel
theorem dX0_isRested_30 : decode cX0_isRested 30 = .ok (.iload_n 1, 1) := by decide +kernel
theorem dX0_isRested_31 : decode cX0_isRested 31 = .ok (.if_icmp .ne 22, 3) := by decide +kernel
theorem dX0_isRested_34 : decode cX0_isRested 34 = .ok (.aload_n 0, 1) := by decide +kernel
theorem dX0_isRested_35 : decode cX0_isRested 35 = .ok (.getfield 46, 3) := by decide +kernel
theorem dX0_isRested_38 : decode cX0_isRested 38 = .ok (.iload 4, 2) := by decide +kernel
theorem dX0_isRested_40 : decode cX0_isRested 40 = .ok (.iaload, 1) := by decide +kernel
theorem dX0_isRested_41 : decode cX0_isRested 41 = .ok (.iload_n 3, 1) := by decide +kernel
theorem dX0_isRested_42 : decode cX0_isRested 42 = .ok (.isub, 1) := by decide +kernel
theorem dX0_isRested_43 : decode cX0_isRested 43 = .ok (.invokestatic 160, 3) := by decide +kernel
theorem dX0_isRested_46 : decode cX0_isRested 46 = .ok (.bipush 28, 2) := by decide +kernel
theorem dX0_isRested_48 : decode cX0_isRested 48 = .ok (.if_icmp .ge 5, 3) := by decide +kernel
theorem dX0_isRested_51 : decode cX0_isRested 51 = .ok (.iconst 0, 1) := by decide +kernel
theorem dX0_isRested_52 : decode cX0_isRested 52 = .ok (.ireturn, 1) := by decide +kernel
theorem dX0_isRested_53 : decode cX0_isRested 53 = .ok (.iinc 4 1, 3) := by decide +kernel
theorem dX0_isRested_56 : decode cX0_isRested 56 = .ok (.goto (-53), 3) := by decide +kernel
theorem dX0_isRested_59 : decode cX0_isRested 59 = .ok (.iconst 1, 1) := by decide +kernel
theorem dX0_isRested_60 : decode cX0_isRested 60 = .ok (.ireturn, 1) := by decide +kernel
theorem dX0_servicesWith_0 : decode cX0_servicesWith 0 = .ok (.iconst 0, 1) := by decide +kernel
theorem dX0_servicesWith_1 : decode cX0_servicesWith 1 = .ok (.istore_n 2, 1) := by decide +kernel
theorem dX0_servicesWith_2 : decode cX0_servicesWith 2 = .ok (.iconst 0, 1) := by decide +kernel
theorem dX0_servicesWith_3 : decode cX0_servicesWith 3 = .ok (.istore_n 3, 1) := by decide +kernel
theorem dX0_servicesWith_4 : decode cX0_servicesWith 4 = .ok (.iload_n 3, 1) := by decide +kernel
theorem dX0_servicesWith_5 : decode cX0_servicesWith 5 = .ok (.aload_n 0, 1) := by decide +kernel
theorem dX0_servicesWith_6 : decode cX0_servicesWith 6 = .ok (.getfield 131, 3) := by decide +kernel
theorem dX0_servicesWith_9 : decode cX0_servicesWith 9 = .ok (.if_icmp .ge 22, 3) := by decide +kernel
theorem dX0_servicesWith_12 : decode cX0_servicesWith 12 = .ok (.aload_n 0, 1) := by decide +kernel
theorem dX0_servicesWith_13 : decode cX0_servicesWith 13 = .ok (.getfield 49, 3) := by decide +kernel
theorem dX0_servicesWith_16 : decode cX0_servicesWith 16 = .ok (.iload_n 3, 1) := by decide +kernel
theorem dX0_servicesWith_17 : decode cX0_servicesWith 17 = .ok (.iaload, 1) := by decide +kernel
theorem dX0_servicesWith_18 : decode cX0_servicesWith 18 = .ok (.iload_n 1, 1) := by decide +kernel
theorem dX0_servicesWith_19 : decode cX0_servicesWith 19 = .ok (.if_icmp .ne 6, 3) := by decide +kernel
theorem dX0_servicesWith_22 : decode cX0_servicesWith 22 = .ok (.iinc 2 1, 3) := by decide +kernel
theorem dX0_servicesWith_25 : decode cX0_servicesWith 25 = .ok (.iinc 3 1, 3) := by decide +kernel
theorem dX0_servicesWith_28 : decode cX0_servicesWith 28 = .ok (.goto (-24), 3) := by decide +kernel
theorem dX0_servicesWith_31 : decode cX0_servicesWith 31 = .ok (.iload_n 2, 1) := by decide +kernel
theorem dX0_servicesWith_32 : decode cX0_servicesWith 32 = .ok (.ireturn, 1) := by decide +kernel
set_option maxRecDepth 20000 in
theorem ggX0_silenceServicesWithoutRight_X0_hasLostItsRight : GoodIn wsX0_silenceServicesWithoutRight wsX0_hasLostItsRight := goodIn_r _ [7, 2, 8, 9, 10, 11, 12, 6, 13, 14, 15, 16, 17, 18, 19, 20, 21, 22, 23, 24, 25, 26, 27, 28, 29, 30, 31, 32, 33, 34, 35, 36, 37, 38, 39] (by decide +kernel) (by decide +kernel)
set_option maxRecDepth 20000 in
theorem gX0_silenceServicesWithoutRight_X0_hasLostItsRight : GoodIn wsX0_silenceServicesWithoutRight (wsV RX0 165 RX0 yX0_hasLostItsRight wsX0_hasLostItsRight) := goodIn_app (goodIn_of _ (by decide +kernel)) ggX0_silenceServicesWithoutRight_X0_hasLostItsRight
theorem dX0_silenceServicesWithoutRight_0 : decode cX0_silenceServicesWithoutRight 0 = .ok (.lconst 0, 1) := by decide +kernel
theorem dX0_silenceServicesWithoutRight_1 : decode cX0_silenceServicesWithoutRight 1 = .ok (.lstore_n 1, 1) := by decide +kernel
theorem dX0_silenceServicesWithoutRight_2 : decode cX0_silenceServicesWithoutRight 2 = .ok (.iconst 0, 1) := by decide +kernel
theorem dX0_silenceServicesWithoutRight_3 : decode cX0_silenceServicesWithoutRight 3 = .ok (.istore_n 3, 1) := by decide +kernel
theorem dX0_silenceServicesWithoutRight_4 : decode cX0_silenceServicesWithoutRight 4 = .ok (.iload_n 3, 1) := by decide +kernel
theorem dX0_silenceServicesWithoutRight_5 : decode cX0_silenceServicesWithoutRight 5 = .ok (.aload_n 0, 1) := by decide +kernel
theorem dX0_silenceServicesWithoutRight_6 : decode cX0_silenceServicesWithoutRight 6 = .ok (.getfield 131, 3) := by decide +kernel
theorem dX0_silenceServicesWithoutRight_9 : decode cX0_silenceServicesWithoutRight 9 = .ok (.if_icmp .ge 30, 3) := by decide +kernel
theorem dX0_silenceServicesWithoutRight_12 : decode cX0_silenceServicesWithoutRight 12 = .ok (.aload_n 0, 1) := by decide +kernel
theorem dX0_silenceServicesWithoutRight_13 : decode cX0_silenceServicesWithoutRight 13 = .ok (.iload_n 3, 1) := by decide +kernel
theorem dX0_silenceServicesWithoutRight_14 : decode cX0_silenceServicesWithoutRight 14 = .ok (.invokevirtual 165, 3) := by decide +kernel
theorem dX0_silenceServicesWithoutRight_17 : decode cX0_silenceServicesWithoutRight 17 = .ok (.ifCond .eq 16, 3) := by decide +kernel
theorem dX0_silenceServicesWithoutRight_20 : decode cX0_silenceServicesWithoutRight 20 = .ok (.aload_n 0, 1) := by decide +kernel
theorem dX0_silenceServicesWithoutRight_21 : decode cX0_silenceServicesWithoutRight 21 = .ok (.getfield 49, 3) := by decide +kernel
theorem dX0_silenceServicesWithoutRight_24 : decode cX0_silenceServicesWithoutRight 24 = .ok (.iload_n 3, 1) := by decide +kernel
theorem dX0_silenceServicesWithoutRight_25 : decode cX0_silenceServicesWithoutRight 25 = .ok (.iconst (-1), 1) := by decide +kernel
theorem dX0_silenceServicesWithoutRight_26 : decode cX0_silenceServicesWithoutRight 26 = .ok (.iastore, 1) := by decide +kernel
theorem dX0_silenceServicesWithoutRight_27 : decode cX0_silenceServicesWithoutRight 27 = .ok (.lload_n 1, 1) := by decide +kernel
theorem dX0_silenceServicesWithoutRight_28 : decode cX0_silenceServicesWithoutRight 28 = .ok (.lconst 1, 1) := by decide +kernel
theorem dX0_silenceServicesWithoutRight_29 : decode cX0_silenceServicesWithoutRight 29 = .ok (.iload_n 3, 1) := by decide +kernel
theorem dX0_silenceServicesWithoutRight_30 : decode cX0_silenceServicesWithoutRight 30 = .ok (.lshl, 1) := by decide +kernel
theorem dX0_silenceServicesWithoutRight_31 : decode cX0_silenceServicesWithoutRight 31 = .ok (.lor, 1) := by decide +kernel
theorem dX0_silenceServicesWithoutRight_32 : decode cX0_silenceServicesWithoutRight 32 = .ok (.lstore_n 1, 1) := by decide +kernel
theorem dX0_silenceServicesWithoutRight_33 : decode cX0_silenceServicesWithoutRight 33 = .ok (.iinc 3 1, 3) := by decide +kernel
theorem dX0_silenceServicesWithoutRight_36 : decode cX0_silenceServicesWithoutRight 36 = .ok (.goto (-32), 3) := by decide +kernel
theorem dX0_silenceServicesWithoutRight_39 : decode cX0_silenceServicesWithoutRight 39 = .ok (.lload_n 1, 1) := by decide +kernel
theorem dX0_silenceServicesWithoutRight_40 : decode cX0_silenceServicesWithoutRight 40 = .ok (.lreturn, 1) := by decide +kernel
set_option maxRecDepth 20000 in
theorem ggX0_hasLostItsRight_X0_isAllowed : GoodIn wsX0_hasLostItsRight wsX0_isAllowed := goodIn_r _ [8, 9, 10, 11, 12, 13, 14, 15, 7, 16, 17, 18, 19, 20, 21, 22, 23, 24, 25, 26, 27, 28, 29, 30, 31, 32, 33, 34] (by decide +kernel) (by decide +kernel)
set_option maxRecDepth 20000 in
theorem gX0_hasLostItsRight_X0_isAllowed : GoodIn wsX0_hasLostItsRight (wsV RX0 119 RX0 yX0_isAllowed wsX0_isAllowed) := goodIn_app (goodIn_of _ (by decide +kernel)) ggX0_hasLostItsRight_X0_isAllowed
theorem dX0_hasLostItsRight_0 : decode cX0_hasLostItsRight 0 = .ok (.aload_n 0, 1) := by decide +kernel
theorem dX0_hasLostItsRight_1 : decode cX0_hasLostItsRight 1 = .ok (.getfield 49, 3) := by decide +kernel
theorem dX0_hasLostItsRight_4 : decode cX0_hasLostItsRight 4 = .ok (.iload_n 1, 1) := by decide +kernel
theorem dX0_hasLostItsRight_5 : decode cX0_hasLostItsRight 5 = .ok (.iaload, 1) := by decide +kernel
theorem dX0_hasLostItsRight_6 : decode cX0_hasLostItsRight 6 = .ok (.istore_n 2, 1) := by decide +kernel
theorem dX0_hasLostItsRight_7 : decode cX0_hasLostItsRight 7 = .ok (.aload_n 0, 1) := by decide +kernel
theorem dX0_hasLostItsRight_8 : decode cX0_hasLostItsRight 8 = .ok (.getfield 46, 3) := by decide +kernel
theorem dX0_hasLostItsRight_11 : decode cX0_hasLostItsRight 11 = .ok (.iload_n 1, 1) := by decide +kernel
theorem dX0_hasLostItsRight_12 : decode cX0_hasLostItsRight 12 = .ok (.iaload, 1) := by decide +kernel
theorem dX0_hasLostItsRight_13 : decode cX0_hasLostItsRight 13 = .ok (.istore_n 3, 1) := by decide +kernel
theorem dX0_hasLostItsRight_14 : decode cX0_hasLostItsRight 14 = .ok (.iload_n 3, 1) := by decide +kernel
theorem dX0_hasLostItsRight_15 : decode cX0_hasLostItsRight 15 = .ok (.aload_n 0, 1) := by decide +kernel
theorem dX0_hasLostItsRight_16 : decode cX0_hasLostItsRight 16 = .ok (.getfield 103, 3) := by decide +kernel
theorem dX0_hasLostItsRight_19 : decode cX0_hasLostItsRight 19 = .ok (.if_icmp .lt 22, 3) := by decide +kernel
theorem dX0_hasLostItsRight_22 : decode cX0_hasLostItsRight 22 = .ok (.iload_n 2, 1) := by decide +kernel
theorem dX0_hasLostItsRight_23 : decode cX0_hasLostItsRight 23 = .ok (.iconst (-1), 1) := by decide +kernel
theorem dX0_hasLostItsRight_24 : decode cX0_hasLostItsRight 24 = .ok (.if_icmp .eq 17, 3) := by decide +kernel
theorem dX0_hasLostItsRight_27 : decode cX0_hasLostItsRight 27 = .ok (.aload_n 0, 1) := by decide +kernel
theorem dX0_hasLostItsRight_28 : decode cX0_hasLostItsRight 28 = .ok (.iload_n 2, 1) := by decide +kernel
theorem dX0_hasLostItsRight_29 : decode cX0_hasLostItsRight 29 = .ok (.iconst 0, 1) := by decide +kernel
theorem dX0_hasLostItsRight_30 : decode cX0_hasLostItsRight 30 = .ok (.iload_n 3, 1) := by decide +kernel
theorem dX0_hasLostItsRight_31 : decode cX0_hasLostItsRight 31 = .ok (.invokevirtual 119, 3) := by decide +kernel
theorem dX0_hasLostItsRight_34 : decode cX0_hasLostItsRight 34 = .ok (.ifCond .ne 7, 3) := by decide +kernel
theorem dX0_hasLostItsRight_37 : decode cX0_hasLostItsRight 37 = .ok (.iconst 1, 1) := by decide +kernel
theorem dX0_hasLostItsRight_38 : decode cX0_hasLostItsRight 38 = .ok (.goto 4, 3) := by decide +kernel
theorem dX0_hasLostItsRight_41 : decode cX0_hasLostItsRight 41 = .ok (.iconst 0, 1) := by decide +kernel
theorem dX0_hasLostItsRight_42 : decode cX0_hasLostItsRight 42 = .ok (.ireturn, 1) := by decide +kernel
set_option maxRecDepth 20000 in
theorem ggX0_planEach_X0_isInSet : GoodIn wsX0_planEach wsX0_isInSet := goodIn_r _ [5] (by decide +kernel) (by decide +kernel)
set_option maxRecDepth 20000 in
theorem gX0_planEach_X0_isInSet : GoodIn wsX0_planEach (va_wsS RX0 90 yX0_isInSet wsX0_isInSet) := goodIn_app (goodIn_of _ (by decide +kernel)) ggX0_planEach_X0_isInSet
set_option maxRecDepth 20000 in
theorem ggX0_planEach_X0_planAnew : GoodIn wsX0_planEach wsX0_planAnew := goodIn_r _ [9, 10, 11, 12, 13, 14, 15, 4, 16, 17, 18, 19, 20, 21, 22, 23, 2, 3, 5, 24, 25, 26, 27, 28, 29, 30, 31, 32, 33, 34, 35, 36, 37, 38, 39, 40, 41, 42, 1, 43, 44, 45, 46, 47, 48, 49, 50, 51, 52, 53, 54, 55, 56, 57, 58, 59, 60, 61, 62, 63, 64, 65, 66, 67, 68] (by decide +kernel) (by decide +kernel)
set_option maxRecDepth 20000 in
theorem gX0_planEach_X0_planAnew : GoodIn wsX0_planEach (wsV RX0 138 RX0 yX0_planAnew wsX0_planAnew) := goodIn_app (goodIn_of _ (by decide +kernel)) ggX0_planEach_X0_planAnew
theorem dX0_planEach_0 : decode cX0_planEach 0 = .ok (.iconst 0, 1) := by decide +kernel
theorem dX0_planEach_1 : decode cX0_planEach 1 = .ok (.istore_n 3, 1) := by decide +kernel
theorem dX0_planEach_2 : decode cX0_planEach 2 = .ok (.iload_n 3, 1) := by decide +kernel
theorem dX0_planEach_3 : decode cX0_planEach 3 = .ok (.aload_n 0, 1) := by decide +kernel
theorem dX0_planEach_4 : decode cX0_planEach 4 = .ok (.getfield 131, 3) := by decide +kernel
theorem dX0_planEach_7 : decode cX0_planEach 7 = .ok (.if_icmp .ge 22, 3) := by decide +kernel
theorem dX0_planEach_10 : decode cX0_planEach 10 = .ok (.iload_n 3, 1) := by decide +kernel
theorem dX0_planEach_11 : decode cX0_planEach 11 = .ok (.lload_n 1, 1) := by decide +kernel
theorem dX0_planEach_12 : decode cX0_planEach 12 = .ok (.invokestatic 90, 3) := by decide +kernel
theorem dX0_planEach_15 : decode cX0_planEach 15 = .ok (.ifCond .eq 8, 3) := by decide +kernel
theorem dX0_planEach_18 : decode cX0_planEach 18 = .ok (.aload_n 0, 1) := by decide +kernel
theorem dX0_planEach_19 : decode cX0_planEach 19 = .ok (.iload_n 3, 1) := by decide +kernel
theorem dX0_planEach_20 : decode cX0_planEach 20 = .ok (.invokevirtual 138, 3) := by decide +kernel
theorem dX0_planEach_23 : decode cX0_planEach 23 = .ok (.iinc 3 1, 3) := by decide +kernel
theorem dX0_planEach_26 : decode cX0_planEach 26 = .ok (.goto (-24), 3) := by decide +kernel
theorem dX0_planEach_29 : decode cX0_planEach 29 = .ok (.return_, 1) := by decide +kernel
set_option maxRecDepth 20000 in
theorem ggX0_sung_X0_isBetween : GoodIn wsX0_sung wsX0_isBetween := goodIn_r _ [7] (by decide +kernel) (by decide +kernel)
set_option maxRecDepth 20000 in
theorem gX0_sung_X0_isBetween : GoodIn wsX0_sung (va_wsS RX0 52 yX0_isBetween wsX0_isBetween) := goodIn_app (goodIn_of _ (by decide +kernel)) ggX0_sung_X0_isBetween
set_option maxRecDepth 20000 in
theorem ggX0_sung_X0_needIndex : GoodIn wsX0_sung wsX0_needIndex := goodIn_ca (goodIn_r _ [10, 11, 12] (by decide +kernel) (by decide +kernel)) (goodIn_sub (fun _ h => List.mem_cons_of_mem _ (List.mem_append_right _ h)) (by decide +kernel))
set_option maxRecDepth 20000 in
theorem gX0_sung_X0_needIndex : GoodIn wsX0_sung (va_wsS RX0 56 yX0_needIndex wsX0_needIndex) := goodIn_app (goodIn_of _ (by decide +kernel)) ggX0_sung_X0_needIndex
set_option maxRecDepth 20000 in
theorem ggX0_sung_X0_isYear : GoodIn wsX0_sung wsX0_isYear := goodIn_r _ [15, 4, 5, 6, 7] (by decide +kernel) (by decide +kernel)
set_option maxRecDepth 20000 in
theorem gX0_sung_X0_isYear : GoodIn wsX0_sung (va_wsS RX0 125 yX0_isYear wsX0_isYear) := goodIn_app (goodIn_of _ (by decide +kernel)) ggX0_sung_X0_isYear
set_option maxRecDepth 20000 in
theorem ggX0_sung_X0_isHeldIn : GoodIn wsX0_sung wsX0_isHeldIn := goodIn_r _ [19, 20, 21, 22, 23, 6, 24, 30, 31, 32, 33, 34, 35, 36, 37, 38, 39, 40, 41, 42, 43, 44, 45, 46, 47] (by decide +kernel) (by decide +kernel)
set_option maxRecDepth 20000 in
theorem gX0_sung_X0_isHeldIn : GoodIn wsX0_sung (wsV RX0 168 RX0 yX0_isHeldIn wsX0_isHeldIn) := goodIn_app (goodIn_of _ (by decide +kernel)) ggX0_sung_X0_isHeldIn
set_option maxRecDepth 20000 in
theorem ggX0_sung_X0_isHymn : GoodIn wsX0_sung wsX0_isHymn := goodIn_r _ [28, 29, 4, 5, 6, 7, 30, 31, 32, 33, 34, 35, 36, 37, 38, 39, 40, 41, 42, 43, 44, 45, 46, 47] (by decide +kernel) (by decide +kernel)
set_option maxRecDepth 20000 in
theorem gX0_sung_X0_isHymn : GoodIn wsX0_sung (wsV RX0 74 RX0 yX0_isHymn wsX0_isHymn) := goodIn_app (goodIn_of _ (by decide +kernel)) ggX0_sung_X0_isHymn
theorem dX0_sung_0 : decode cX0_sung 0 = .ok (.iload_n 1, 1) := by decide +kernel
theorem dX0_sung_1 : decode cX0_sung 1 = .ok (.iconst 0, 1) := by decide +kernel
theorem dX0_sung_2 : decode cX0_sung 2 = .ok (.iconst 4, 1) := by decide +kernel
theorem dX0_sung_3 : decode cX0_sung 3 = .ok (.invokestatic 52, 3) := by decide +kernel
theorem dX0_sung_6 : decode cX0_sung 6 = .ok (.invokestatic 56, 3) := by decide +kernel
theorem dX0_sung_9 : decode cX0_sung 9 = .ok (.iload_n 2, 1) := by decide +kernel
theorem dX0_sung_10 : decode cX0_sung 10 = .ok (.invokestatic 125, 3) := by decide +kernel
theorem dX0_sung_13 : decode cX0_sung 13 = .ok (.invokestatic 56, 3) := by decide +kernel
theorem dX0_sung_16 : decode cX0_sung 16 = .ok (.iconst 0, 1) := by decide +kernel
theorem dX0_sung_17 : decode cX0_sung 17 = .ok (.istore_n 3, 1) := by decide +kernel
theorem dX0_sung_18 : decode cX0_sung 18 = .ok (.iconst 0, 1) := by decide +kernel
theorem dX0_sung_19 : decode cX0_sung 19 = .ok (.istore 4, 2) := by decide +kernel
theorem dX0_sung_21 : decode cX0_sung 21 = .ok (.iload 4, 2) := by decide +kernel
theorem dX0_sung_23 : decode cX0_sung 23 = .ok (.aload_n 0, 1) := by decide +kernel
theorem dX0_sung_24 : decode cX0_sung 24 = .ok (.getfield 131, 3) := by decide +kernel
theorem dX0_sung_27 : decode cX0_sung 27 = .ok (.if_icmp .ge 51, 3) := by decide +kernel
theorem dX0_sung_30 : decode cX0_sung 30 = .ok (.aload_n 0, 1) := by decide +kernel
theorem dX0_sung_31 : decode cX0_sung 31 = .ok (.getfield 49, 3) := by decide +kernel
theorem dX0_sung_34 : decode cX0_sung 34 = .ok (.iload 4, 2) := by decide +kernel
theorem dX0_sung_36 : decode cX0_sung 36 = .ok (.iaload, 1) := by decide +kernel
theorem dX0_sung_37 : decode cX0_sung 37 = .ok (.istore 5, 2) := by decide +kernel
theorem dX0_sung_39 : decode cX0_sung 39 = .ok (.aload_n 0, 1) := by decide +kernel
theorem dX0_sung_40 : decode cX0_sung 40 = .ok (.iload 4, 2) := by decide +kernel
theorem dX0_sung_42 : decode cX0_sung 42 = .ok (.iload_n 2, 1) := by decide +kernel
theorem dX0_sung_43 : decode cX0_sung 43 = .ok (.invokevirtual 168, 3) := by decide +kernel
theorem dX0_sung_46 : decode cX0_sung 46 = .ok (.ifCond .eq 26, 3) := by decide +kernel
theorem dX0_sung_49 : decode cX0_sung 49 = .ok (.aload_n 0, 1) := by decide +kernel
theorem dX0_sung_50 : decode cX0_sung 50 = .ok (.iload 5, 2) := by decide +kernel
theorem dX0_sung_52 : decode cX0_sung 52 = .ok (.invokevirtual 74, 3) := by decide +kernel
theorem dX0_sung_55 : decode cX0_sung 55 = .ok (.ifCond .eq 17, 3) := by decide +kernel
theorem dX0_sung_58 : decode cX0_sung 58 = .ok (.aload_n 0, 1) := by decide +kernel
theorem dX0_sung_59 : decode cX0_sung 59 = .ok (.getfield 9, 3) := by decide +kernel
theorem dX0_sung_62 : decode cX0_sung 62 = .ok (.iload 5, 2) := by decide +kernel
theorem dX0_sung_64 : decode cX0_sung 64 = .ok (.iaload, 1) := by decide +kernel
theorem dX0_sung_65 : decode cX0_sung 65 = .ok (.iload_n 1, 1) := by decide +kernel
theorem dX0_sung_66 : decode cX0_sung 66 = .ok (.if_icmp .ne 6, 3) := by decide +kernel
theorem dX0_sung_69 : decode cX0_sung 69 = .ok (.iinc 3 1, 3) := by decide +kernel
theorem dX0_sung_72 : decode cX0_sung 72 = .ok (.iinc 4 1, 3) := by decide +kernel
theorem dX0_sung_75 : decode cX0_sung 75 = .ok (.goto (-54), 3) := by decide +kernel
theorem dX0_sung_78 : decode cX0_sung 78 = .ok (.iload_n 3, 1) := by decide +kernel
theorem dX0_sung_79 : decode cX0_sung 79 = .ok (.ireturn, 1) := by decide +kernel
set_option maxRecDepth 20000 in
theorem ggX0_sungByHymns_X0_isBetween : GoodIn wsX0_sungByHymns wsX0_isBetween := goodIn_r _ [6] (by decide +kernel) (by decide +kernel)
set_option maxRecDepth 20000 in
theorem gX0_sungByHymns_X0_isBetween : GoodIn wsX0_sungByHymns (va_wsS RX0 52 yX0_isBetween wsX0_isBetween) := goodIn_app (goodIn_of _ (by decide +kernel)) ggX0_sungByHymns_X0_isBetween
set_option maxRecDepth 20000 in
theorem ggX0_sungByHymns_X0_needIndex : GoodIn wsX0_sungByHymns wsX0_needIndex := goodIn_ca (goodIn_r _ [9, 10, 11] (by decide +kernel) (by decide +kernel)) (goodIn_sub (fun _ h => List.mem_cons_of_mem _ (List.mem_append_right _ h)) (by decide +kernel))
set_option maxRecDepth 20000 in
theorem gX0_sungByHymns_X0_needIndex : GoodIn wsX0_sungByHymns (va_wsS RX0 56 yX0_needIndex wsX0_needIndex) := goodIn_app (goodIn_of _ (by decide +kernel)) ggX0_sungByHymns_X0_needIndex
set_option maxRecDepth 20000 in
theorem ggX0_sungByHymns_X0_isYear : GoodIn wsX0_sungByHymns wsX0_isYear := goodIn_r _ [14, 3, 4, 5, 6] (by decide +kernel) (by decide +kernel)
set_option maxRecDepth 20000 in
theorem gX0_sungByHymns_X0_isYear : GoodIn wsX0_sungByHymns (va_wsS RX0 125 yX0_isYear wsX0_isYear) := goodIn_app (goodIn_of _ (by decide +kernel)) ggX0_sungByHymns_X0_isYear
set_option maxRecDepth 20000 in
theorem ggX0_sungByHymns_X0_timesSung : GoodIn wsX0_sungByHymns wsX0_timesSung := goodIn_r _ [18, 19, 20, 21, 22, 23, 5, 24, 25, 26, 27, 28, 29, 30, 31, 32, 33, 34, 35, 36, 37, 38, 39, 40, 41, 42, 43, 44, 45, 46, 47] (by decide +kernel) (by decide +kernel)
set_option maxRecDepth 20000 in
theorem gX0_sungByHymns_X0_timesSung : GoodIn wsX0_sungByHymns (wsV RX0 171 RX0 yX0_timesSung wsX0_timesSung) := goodIn_app (goodIn_of _ (by decide +kernel)) ggX0_sungByHymns_X0_timesSung
theorem dX0_sungByHymns_0 : decode cX0_sungByHymns 0 = .ok (.iload_n 1, 1) := by decide +kernel
theorem dX0_sungByHymns_1 : decode cX0_sungByHymns 1 = .ok (.iconst 0, 1) := by decide +kernel
theorem dX0_sungByHymns_2 : decode cX0_sungByHymns 2 = .ok (.iconst 4, 1) := by decide +kernel
theorem dX0_sungByHymns_3 : decode cX0_sungByHymns 3 = .ok (.invokestatic 52, 3) := by decide +kernel
theorem dX0_sungByHymns_6 : decode cX0_sungByHymns 6 = .ok (.invokestatic 56, 3) := by decide +kernel
theorem dX0_sungByHymns_9 : decode cX0_sungByHymns 9 = .ok (.iload_n 2, 1) := by decide +kernel
theorem dX0_sungByHymns_10 : decode cX0_sungByHymns 10 = .ok (.invokestatic 125, 3) := by decide +kernel
theorem dX0_sungByHymns_13 : decode cX0_sungByHymns 13 = .ok (.invokestatic 56, 3) := by decide +kernel
theorem dX0_sungByHymns_16 : decode cX0_sungByHymns 16 = .ok (.iconst 0, 1) := by decide +kernel
theorem dX0_sungByHymns_17 : decode cX0_sungByHymns 17 = .ok (.istore_n 3, 1) := by decide +kernel
theorem dX0_sungByHymns_18 : decode cX0_sungByHymns 18 = .ok (.iconst 0, 1) := by decide +kernel
theorem dX0_sungByHymns_19 : decode cX0_sungByHymns 19 = .ok (.istore 4, 2) := by decide +kernel
theorem dX0_sungByHymns_21 : decode cX0_sungByHymns 21 = .ok (.iload 4, 2) := by decide +kernel
theorem dX0_sungByHymns_23 : decode cX0_sungByHymns 23 = .ok (.aload_n 0, 1) := by decide +kernel
theorem dX0_sungByHymns_24 : decode cX0_sungByHymns 24 = .ok (.getfield 63, 3) := by decide +kernel
theorem dX0_sungByHymns_27 : decode cX0_sungByHymns 27 = .ok (.if_icmp .ge 30, 3) := by decide +kernel
theorem dX0_sungByHymns_30 : decode cX0_sungByHymns 30 = .ok (.aload_n 0, 1) := by decide +kernel
theorem dX0_sungByHymns_31 : decode cX0_sungByHymns 31 = .ok (.getfield 9, 3) := by decide +kernel
theorem dX0_sungByHymns_34 : decode cX0_sungByHymns 34 = .ok (.iload 4, 2) := by decide +kernel
theorem dX0_sungByHymns_36 : decode cX0_sungByHymns 36 = .ok (.iaload, 1) := by decide +kernel
theorem dX0_sungByHymns_37 : decode cX0_sungByHymns 37 = .ok (.iload_n 1, 1) := by decide +kernel
theorem dX0_sungByHymns_38 : decode cX0_sungByHymns 38 = .ok (.if_icmp .ne 13, 3) := by decide +kernel
theorem dX0_sungByHymns_41 : decode cX0_sungByHymns 41 = .ok (.iload_n 3, 1) := by decide +kernel
theorem dX0_sungByHymns_42 : decode cX0_sungByHymns 42 = .ok (.aload_n 0, 1) := by decide +kernel
theorem dX0_sungByHymns_43 : decode cX0_sungByHymns 43 = .ok (.iload 4, 2) := by decide +kernel
theorem dX0_sungByHymns_45 : decode cX0_sungByHymns 45 = .ok (.iload_n 2, 1) := by decide +kernel
theorem dX0_sungByHymns_46 : decode cX0_sungByHymns 46 = .ok (.invokevirtual 171, 3) := by decide +kernel
theorem dX0_sungByHymns_49 : decode cX0_sungByHymns 49 = .ok (.iadd, 1) := by decide +kernel
theorem dX0_sungByHymns_50 : decode cX0_sungByHymns 50 = .ok (.istore_n 3, 1) := by decide +kernel
theorem dX0_sungByHymns_51 : decode cX0_sungByHymns 51 = .ok (.iinc 4 1, 3) := by decide +kernel
theorem dX0_sungByHymns_54 : decode cX0_sungByHymns 54 = .ok (.goto (-33), 3) := by decide +kernel
theorem dX0_sungByHymns_57 : decode cX0_sungByHymns 57 = .ok (.iload_n 3, 1) := by decide +kernel
theorem dX0_sungByHymns_58 : decode cX0_sungByHymns 58 = .ok (.ireturn, 1) := by decide +kernel
set_option maxRecDepth 20000 in
theorem ggX0_pass_X0_isBetween : GoodIn wsX0_pass wsX0_isBetween := goodIn_r _ [5] (by decide +kernel) (by decide +kernel)
set_option maxRecDepth 20000 in
theorem gX0_pass_X0_isBetween : GoodIn wsX0_pass (va_wsS RX0 52 yX0_isBetween wsX0_isBetween) := goodIn_app (goodIn_of _ (by decide +kernel)) ggX0_pass_X0_isBetween
set_option maxRecDepth 20000 in
theorem ggX0_pass_X0_needArgument : GoodIn wsX0_pass wsX0_needArgument := goodIn_ca (goodIn_r _ [8, 9, 10] (by decide +kernel) (by decide +kernel)) (goodIn_sub (fun _ h => List.mem_cons_of_mem _ (List.mem_append_left _ (List.mem_append_right _ h))) (by decide +kernel))
set_option maxRecDepth 20000 in
theorem gX0_pass_X0_needArgument : GoodIn wsX0_pass (va_wsS RX0 60 yX0_needArgument wsX0_needArgument) := goodIn_app (goodIn_of _ (by decide +kernel)) ggX0_pass_X0_needArgument
set_option maxRecDepth 20000 in
theorem ggX0_pass_X0_needState : GoodIn wsX0_pass wsX0_needState := goodIn_ca (goodIn_r _ [13, 14, 15] (by decide +kernel) (by decide +kernel)) (goodIn_sub (fun _ h => List.mem_cons_of_mem _ (List.mem_append_right _ h)) (by decide +kernel))
set_option maxRecDepth 20000 in
theorem gX0_pass_X0_needState : GoodIn wsX0_pass (va_wsS RX0 67 yX0_needState wsX0_needState) := goodIn_app (goodIn_of _ (by decide +kernel)) ggX0_pass_X0_needState
theorem dX0_pass_0 : decode cX0_pass 0 = .ok (.iload_n 1, 1) := by decide +kernel
theorem dX0_pass_1 : decode cX0_pass 1 = .ok (.iconst 1, 1) := by decide +kernel
theorem dX0_pass_2 : decode cX0_pass 2 = .ok (.sipush 200, 3) := by decide +kernel
theorem dX0_pass_5 : decode cX0_pass 5 = .ok (.invokestatic 52, 3) := by decide +kernel
theorem dX0_pass_8 : decode cX0_pass 8 = .ok (.invokestatic 60, 3) := by decide +kernel
theorem dX0_pass_11 : decode cX0_pass 11 = .ok (.aload_n 0, 1) := by decide +kernel
theorem dX0_pass_12 : decode cX0_pass 12 = .ok (.getfield 103, 3) := by decide +kernel
theorem dX0_pass_15 : decode cX0_pass 15 = .ok (.iload_n 1, 1) := by decide +kernel
theorem dX0_pass_16 : decode cX0_pass 16 = .ok (.iadd, 1) := by decide +kernel
theorem dX0_pass_17 : decode cX0_pass 17 = .ok (.sipush 1459, 3) := by decide +kernel
theorem dX0_pass_20 : decode cX0_pass 20 = .ok (.if_icmp .gt 7, 3) := by decide +kernel
theorem dX0_pass_23 : decode cX0_pass 23 = .ok (.iconst 1, 1) := by decide +kernel
theorem dX0_pass_24 : decode cX0_pass 24 = .ok (.goto 4, 3) := by decide +kernel
theorem dX0_pass_27 : decode cX0_pass 27 = .ok (.iconst 0, 1) := by decide +kernel
theorem dX0_pass_28 : decode cX0_pass 28 = .ok (.invokestatic 67, 3) := by decide +kernel
theorem dX0_pass_31 : decode cX0_pass 31 = .ok (.aload_n 0, 1) := by decide +kernel
theorem dX0_pass_32 : decode cX0_pass 32 = .ok (.dup, 1) := by decide +kernel
theorem dX0_pass_33 : decode cX0_pass 33 = .ok (.getfield 103, 3) := by decide +kernel
theorem dX0_pass_36 : decode cX0_pass 36 = .ok (.iload_n 1, 1) := by decide +kernel
theorem dX0_pass_37 : decode cX0_pass 37 = .ok (.iadd, 1) := by decide +kernel
theorem dX0_pass_38 : decode cX0_pass 38 = .ok (.putfield 103, 3) := by decide +kernel
theorem dX0_pass_41 : decode cX0_pass 41 = .ok (.aload_n 0, 1) := by decide +kernel
theorem dX0_pass_42 : decode cX0_pass 42 = .ok (.getfield 103, 3) := by decide +kernel
theorem dX0_pass_45 : decode cX0_pass 45 = .ok (.ireturn, 1) := by decide +kernel
set_option maxRecDepth 20000 in
theorem ggX0_timesSung_X0_isHeldIn : GoodIn wsX0_timesSung wsX0_isHeldIn := goodIn_r _ [7, 8, 9, 10, 11, 6, 12, 13, 14, 15, 16, 17, 18, 19, 20, 21, 22, 23, 24, 25, 26, 27, 28, 29, 30] (by decide +kernel) (by decide +kernel)
set_option maxRecDepth 20000 in
theorem gX0_timesSung_X0_isHeldIn : GoodIn wsX0_timesSung (wsV RX0 168 RX0 yX0_isHeldIn wsX0_isHeldIn) := goodIn_app (goodIn_of _ (by decide +kernel)) ggX0_timesSung_X0_isHeldIn
theorem dX0_timesSung_0 : decode cX0_timesSung 0 = .ok (.iconst 0, 1) := by decide +kernel
theorem dX0_timesSung_1 : decode cX0_timesSung 1 = .ok (.istore_n 3, 1) := by decide +kernel
theorem dX0_timesSung_2 : decode cX0_timesSung 2 = .ok (.iconst 0, 1) := by decide +kernel
theorem dX0_timesSung_3 : decode cX0_timesSung 3 = .ok (.istore 4, 2) := by decide +kernel
theorem dX0_timesSung_5 : decode cX0_timesSung 5 = .ok (.iload 4, 2) := by decide +kernel
theorem dX0_timesSung_7 : decode cX0_timesSung 7 = .ok (.aload_n 0, 1) := by decide +kernel
theorem dX0_timesSung_8 : decode cX0_timesSung 8 = .ok (.getfield 131, 3) := by decide +kernel
theorem dX0_timesSung_11 : decode cX0_timesSung 11 = .ok (.if_icmp .ge 33, 3) := by decide +kernel
theorem dX0_timesSung_14 : decode cX0_timesSung 14 = .ok (.aload_n 0, 1) := by decide +kernel
theorem dX0_timesSung_15 : decode cX0_timesSung 15 = .ok (.iload 4, 2) := by decide +kernel
theorem dX0_timesSung_17 : decode cX0_timesSung 17 = .ok (.iload_n 2, 1) := by decide +kernel
theorem dX0_timesSung_18 : decode cX0_timesSung 18 = .ok (.invokevirtual 168, 3) := by decide +kernel
theorem dX0_timesSung_21 : decode cX0_timesSung 21 = .ok (.ifCond .eq 17, 3) := by decide +kernel
theorem dX0_timesSung_24 : decode cX0_timesSung 24 = .ok (.aload_n 0, 1) := by decide +kernel
theorem dX0_timesSung_25 : decode cX0_timesSung 25 = .ok (.getfield 49, 3) := by decide +kernel
theorem dX0_timesSung_28 : decode cX0_timesSung 28 = .ok (.iload 4, 2) := by decide +kernel
theorem dX0_timesSung_30 : decode cX0_timesSung 30 = .ok (.iaload, 1) := by decide +kernel
theorem dX0_timesSung_31 : decode cX0_timesSung 31 = .ok (.iload_n 1, 1) := by decide +kernel
theorem dX0_timesSung_32 : decode cX0_timesSung 32 = .ok (.if_icmp .ne 6, 3) := by decide +kernel
theorem dX0_timesSung_35 : decode cX0_timesSung 35 = .ok (.iinc 3 1, 3) := by decide +kernel
theorem dX0_timesSung_38 : decode cX0_timesSung 38 = .ok (.iinc 4 1, 3) := by decide +kernel
theorem dX0_timesSung_41 : decode cX0_timesSung 41 = .ok (.goto (-36), 3) := by decide +kernel
theorem dX0_timesSung_44 : decode cX0_timesSung 44 = .ok (.iload_n 3, 1) := by decide +kernel
theorem dX0_timesSung_45 : decode cX0_timesSung 45 = .ok (.ireturn, 1) := by decide +kernel
set_option maxRecDepth 20000 in
theorem ggX0_isHeldIn_X0_yearOf : GoodIn wsX0_isHeldIn wsX0_yearOf := goodIn_r _ [6] (by decide +kernel) (by decide +kernel)
set_option maxRecDepth 20000 in
theorem gX0_isHeldIn_X0_yearOf : GoodIn wsX0_isHeldIn (va_wsS RX0 122 yX0_yearOf wsX0_yearOf) := goodIn_app (goodIn_of _ (by decide +kernel)) ggX0_isHeldIn_X0_yearOf
theorem dX0_isHeldIn_0 : decode cX0_isHeldIn 0 = .ok (.aload_n 0, 1) := by decide +kernel
theorem dX0_isHeldIn_1 : decode cX0_isHeldIn 1 = .ok (.getfield 46, 3) := by decide +kernel
theorem dX0_isHeldIn_4 : decode cX0_isHeldIn 4 = .ok (.iload_n 1, 1) := by decide +kernel
theorem dX0_isHeldIn_5 : decode cX0_isHeldIn 5 = .ok (.iaload, 1) := by decide +kernel
theorem dX0_isHeldIn_6 : decode cX0_isHeldIn 6 = .ok (.istore_n 3, 1) := by decide +kernel
theorem dX0_isHeldIn_7 : decode cX0_isHeldIn 7 = .ok (.iload_n 3, 1) := by decide +kernel
theorem dX0_isHeldIn_8 : decode cX0_isHeldIn 8 = .ok (.aload_n 0, 1) := by decide +kernel
theorem dX0_isHeldIn_9 : decode cX0_isHeldIn 9 = .ok (.getfield 103, 3) := by decide +kernel
theorem dX0_isHeldIn_12 : decode cX0_isHeldIn 12 = .ok (.if_icmp .gt 15, 3) := by decide +kernel
theorem dX0_isHeldIn_15 : decode cX0_isHeldIn 15 = .ok (.iload_n 3, 1) := by decide +kernel
theorem dX0_isHeldIn_16 : decode cX0_isHeldIn 16 = .ok (.invokestatic 122, 3) := by decide +kernel
theorem dX0_isHeldIn_19 : decode cX0_isHeldIn 19 = .ok (.iload_n 2, 1) := by decide +kernel
theorem dX0_isHeldIn_20 : decode cX0_isHeldIn 20 = .ok (.if_icmp .ne 7, 3) := by decide +kernel
theorem dX0_isHeldIn_23 : decode cX0_isHeldIn 23 = .ok (.iconst 1, 1) := by decide +kernel
theorem dX0_isHeldIn_24 : decode cX0_isHeldIn 24 = .ok (.goto 4, 3) := by decide +kernel
theorem dX0_isHeldIn_27 : decode cX0_isHeldIn 27 = .ok (.iconst 0, 1) := by decide +kernel
theorem dX0_isHeldIn_28 : decode cX0_isHeldIn 28 = .ok (.ireturn, 1) := by decide +kernel
theorem dX0_yearOf_0 : decode cX0_yearOf 0 = .ok (.iload_n 0, 1) := by decide +kernel
theorem dX0_yearOf_1 : decode cX0_yearOf 1 = .ok (.sipush 365, 3) := by decide +kernel
theorem dX0_yearOf_4 : decode cX0_yearOf 4 = .ok (.idiv, 1) := by decide +kernel
theorem dX0_yearOf_5 : decode cX0_yearOf 5 = .ok (.ireturn, 1) := by decide +kernel
theorem dX0_seasonOf_0 : decode cX0_seasonOf 0 = .ok (.iload_n 0, 1) := by decide +kernel
theorem dX0_seasonOf_1 : decode cX0_seasonOf 1 = .ok (.sipush 365, 3) := by decide +kernel
theorem dX0_seasonOf_4 : decode cX0_seasonOf 4 = .ok (.irem, 1) := by decide +kernel
theorem dX0_seasonOf_5 : decode cX0_seasonOf 5 = .ok (.bipush 92, 2) := by decide +kernel
theorem dX0_seasonOf_7 : decode cX0_seasonOf 7 = .ok (.idiv, 1) := by decide +kernel
theorem dX0_seasonOf_8 : decode cX0_seasonOf 8 = .ok (.ireturn, 1) := by decide +kernel
set_option maxRecDepth 20000 in
theorem ggX0_isHymn_X0_isBetween : GoodIn wsX0_isHymn wsX0_isBetween := goodIn_r _ [5] (by decide +kernel) (by decide +kernel)
set_option maxRecDepth 20000 in
theorem gX0_isHymn_X0_isBetween : GoodIn wsX0_isHymn (va_wsS RX0 52 yX0_isBetween wsX0_isBetween) := goodIn_app (goodIn_of _ (by decide +kernel)) ggX0_isHymn_X0_isBetween
theorem dX0_isHymn_0 : decode cX0_isHymn 0 = .ok (.iload_n 1, 1) := by decide +kernel
theorem dX0_isHymn_1 : decode cX0_isHymn 1 = .ok (.iconst 0, 1) := by decide +kernel
theorem dX0_isHymn_2 : decode cX0_isHymn 2 = .ok (.aload_n 0, 1) := by decide +kernel
theorem dX0_isHymn_3 : decode cX0_isHymn 3 = .ok (.getfield 63, 3) := by decide +kernel
theorem dX0_isHymn_6 : decode cX0_isHymn 6 = .ok (.iconst 1, 1) := by decide +kernel
theorem dX0_isHymn_7 : decode cX0_isHymn 7 = .ok (.isub, 1) := by decide +kernel
theorem dX0_isHymn_8 : decode cX0_isHymn 8 = .ok (.invokestatic 52, 3) := by decide +kernel
theorem dX0_isHymn_11 : decode cX0_isHymn 11 = .ok (.ireturn, 1) := by decide +kernel
set_option maxRecDepth 20000 in
theorem ggX0_isService_X0_isBetween : GoodIn wsX0_isService wsX0_isBetween := goodIn_r _ [5] (by decide +kernel) (by decide +kernel)
set_option maxRecDepth 20000 in
theorem gX0_isService_X0_isBetween : GoodIn wsX0_isService (va_wsS RX0 52 yX0_isBetween wsX0_isBetween) := goodIn_app (goodIn_of _ (by decide +kernel)) ggX0_isService_X0_isBetween
theorem dX0_isService_0 : decode cX0_isService 0 = .ok (.iload_n 1, 1) := by decide +kernel
theorem dX0_isService_1 : decode cX0_isService 1 = .ok (.iconst 0, 1) := by decide +kernel
theorem dX0_isService_2 : decode cX0_isService 2 = .ok (.aload_n 0, 1) := by decide +kernel
theorem dX0_isService_3 : decode cX0_isService 3 = .ok (.getfield 131, 3) := by decide +kernel
theorem dX0_isService_6 : decode cX0_isService 6 = .ok (.iconst 1, 1) := by decide +kernel
theorem dX0_isService_7 : decode cX0_isService 7 = .ok (.isub, 1) := by decide +kernel
theorem dX0_isService_8 : decode cX0_isService 8 = .ok (.invokestatic 52, 3) := by decide +kernel
theorem dX0_isService_11 : decode cX0_isService 11 = .ok (.ireturn, 1) := by decide +kernel
set_option maxRecDepth 20000 in
theorem ggX0_isChoir_X0_isBetween : GoodIn wsX0_isChoir wsX0_isBetween := goodIn_r _ [4] (by decide +kernel) (by decide +kernel)
set_option maxRecDepth 20000 in
theorem gX0_isChoir_X0_isBetween : GoodIn wsX0_isChoir (va_wsS RX0 52 yX0_isBetween wsX0_isBetween) := goodIn_app (goodIn_of _ (by decide +kernel)) ggX0_isChoir_X0_isBetween
theorem dX0_isChoir_0 : decode cX0_isChoir 0 = .ok (.iload_n 0, 1) := by decide +kernel
theorem dX0_isChoir_1 : decode cX0_isChoir 1 = .ok (.iconst 0, 1) := by decide +kernel
theorem dX0_isChoir_2 : decode cX0_isChoir 2 = .ok (.iconst 3, 1) := by decide +kernel
theorem dX0_isChoir_3 : decode cX0_isChoir 3 = .ok (.invokestatic 52, 3) := by decide +kernel
theorem dX0_isChoir_6 : decode cX0_isChoir 6 = .ok (.ireturn, 1) := by decide +kernel
set_option maxRecDepth 20000 in
theorem ggX0_isUse_X0_isBetween : GoodIn wsX0_isUse wsX0_isBetween := goodIn_r _ [4] (by decide +kernel) (by decide +kernel)
set_option maxRecDepth 20000 in
theorem gX0_isUse_X0_isBetween : GoodIn wsX0_isUse (va_wsS RX0 52 yX0_isBetween wsX0_isBetween) := goodIn_app (goodIn_of _ (by decide +kernel)) ggX0_isUse_X0_isBetween
theorem dX0_isUse_0 : decode cX0_isUse 0 = .ok (.iload_n 0, 1) := by decide +kernel
theorem dX0_isUse_1 : decode cX0_isUse 1 = .ok (.iconst 0, 1) := by decide +kernel
theorem dX0_isUse_2 : decode cX0_isUse 2 = .ok (.iconst 1, 1) := by decide +kernel
theorem dX0_isUse_3 : decode cX0_isUse 3 = .ok (.invokestatic 52, 3) := by decide +kernel
theorem dX0_isUse_6 : decode cX0_isUse 6 = .ok (.ireturn, 1) := by decide +kernel
set_option maxRecDepth 20000 in
theorem ggX0_isDay_X0_isBetween : GoodIn wsX0_isDay wsX0_isBetween := goodIn_r _ [4] (by decide +kernel) (by decide +kernel)
set_option maxRecDepth 20000 in
theorem gX0_isDay_X0_isBetween : GoodIn wsX0_isDay (va_wsS RX0 52 yX0_isBetween wsX0_isBetween) := goodIn_app (goodIn_of _ (by decide +kernel)) ggX0_isDay_X0_isBetween
theorem dX0_isDay_0 : decode cX0_isDay 0 = .ok (.iload_n 0, 1) := by decide +kernel
theorem dX0_isDay_1 : decode cX0_isDay 1 = .ok (.iconst 0, 1) := by decide +kernel
theorem dX0_isDay_2 : decode cX0_isDay 2 = .ok (.sipush 1459, 3) := by decide +kernel
theorem dX0_isDay_5 : decode cX0_isDay 5 = .ok (.invokestatic 52, 3) := by decide +kernel
theorem dX0_isDay_8 : decode cX0_isDay 8 = .ok (.ireturn, 1) := by decide +kernel
set_option maxRecDepth 20000 in
theorem ggX0_isYear_X0_isBetween : GoodIn wsX0_isYear wsX0_isBetween := goodIn_r _ [4] (by decide +kernel) (by decide +kernel)
set_option maxRecDepth 20000 in
theorem gX0_isYear_X0_isBetween : GoodIn wsX0_isYear (va_wsS RX0 52 yX0_isBetween wsX0_isBetween) := goodIn_app (goodIn_of _ (by decide +kernel)) ggX0_isYear_X0_isBetween
theorem dX0_isYear_0 : decode cX0_isYear 0 = .ok (.iload_n 0, 1) := by decide +kernel
theorem dX0_isYear_1 : decode cX0_isYear 1 = .ok (.iconst 0, 1) := by decide +kernel
theorem dX0_isYear_2 : decode cX0_isYear 2 = .ok (.iconst 3, 1) := by decide +kernel
theorem dX0_isYear_3 : decode cX0_isYear 3 = .ok (.invokestatic 52, 3) := by decide +kernel
theorem dX0_isYear_6 : decode cX0_isYear 6 = .ok (.ireturn, 1) := by decide +kernel
theorem dX0_isBetween_0 : decode cX0_isBetween 0 = .ok (.iload_n 1, 1) := by decide +kernel
theorem dX0_isBetween_1 : decode cX0_isBetween 1 = .ok (.iload_n 0, 1) := by decide +kernel
theorem dX0_isBetween_2 : decode cX0_isBetween 2 = .ok (.if_icmp .gt 12, 3) := by decide +kernel
theorem dX0_isBetween_5 : decode cX0_isBetween 5 = .ok (.iload_n 0, 1) := by decide +kernel
theorem dX0_isBetween_6 : decode cX0_isBetween 6 = .ok (.iload_n 2, 1) := by decide +kernel
theorem dX0_isBetween_7 : decode cX0_isBetween 7 = .ok (.if_icmp .gt 7, 3) := by decide +kernel
theorem dX0_isBetween_10 : decode cX0_isBetween 10 = .ok (.iconst 1, 1) := by decide +kernel
theorem dX0_isBetween_11 : decode cX0_isBetween 11 = .ok (.goto 4, 3) := by decide +kernel
theorem dX0_isBetween_14 : decode cX0_isBetween 14 = .ok (.iconst 0, 1) := by decide +kernel
theorem dX0_isBetween_15 : decode cX0_isBetween 15 = .ok (.ireturn, 1) := by decide +kernel
theorem dX0_isInSet_0 : decode cX0_isInSet 0 = .ok (.lload_n 1, 1) := by decide +kernel
theorem dX0_isInSet_1 : decode cX0_isInSet 1 = .ok (.iload_n 0, 1) := by decide +kernel
theorem dX0_isInSet_2 : decode cX0_isInSet 2 = .ok (.lshr, 1) := by decide +kernel
theorem dX0_isInSet_3 : decode cX0_isInSet 3 = .ok (.lconst 1, 1) := by decide +kernel
theorem dX0_isInSet_4 : decode cX0_isInSet 4 = .ok (.land, 1) := by decide +kernel
theorem dX0_isInSet_5 : decode cX0_isInSet 5 = .ok (.lconst 1, 1) := by decide +kernel
theorem dX0_isInSet_6 : decode cX0_isInSet 6 = .ok (.lcmp, 1) := by decide +kernel
theorem dX0_isInSet_7 : decode cX0_isInSet 7 = .ok (.ifCond .ne 7, 3) := by decide +kernel
theorem dX0_isInSet_10 : decode cX0_isInSet 10 = .ok (.iconst 1, 1) := by decide +kernel
theorem dX0_isInSet_11 : decode cX0_isInSet 11 = .ok (.goto 4, 3) := by decide +kernel
theorem dX0_isInSet_14 : decode cX0_isInSet 14 = .ok (.iconst 0, 1) := by decide +kernel
theorem dX0_isInSet_15 : decode cX0_isInSet 15 = .ok (.ireturn, 1) := by decide +kernel
theorem dX0_needIndex_0 : decode cX0_needIndex 0 = .ok (.iload_n 0, 1) := by decide +kernel
theorem dX0_needIndex_1 : decode cX0_needIndex 1 = .ok (.ifCond .ne 11, 3) := by decide +kernel
theorem dX0_needIndex_4 : decode cX0_needIndex 4 = .ok (.new 174, 3) := by decide +kernel
theorem dX0_needIndex_7 : decode cX0_needIndex 7 = .ok (.dup, 1) := by decide +kernel
theorem dX0_needIndex_8 : decode cX0_needIndex 8 = .ok (.invokespecial 176, 3) := by decide +kernel
theorem dX0_needIndex_11 : decode cX0_needIndex 11 = .ok (.athrow, 1) := by decide +kernel
theorem dX0_needIndex_12 : decode cX0_needIndex 12 = .ok (.return_, 1) := by decide +kernel
theorem dX0_needArgument_0 : decode cX0_needArgument 0 = .ok (.iload_n 0, 1) := by decide +kernel
theorem dX0_needArgument_1 : decode cX0_needArgument 1 = .ok (.ifCond .ne 11, 3) := by decide +kernel
theorem dX0_needArgument_4 : decode cX0_needArgument 4 = .ok (.new 177, 3) := by decide +kernel
theorem dX0_needArgument_7 : decode cX0_needArgument 7 = .ok (.dup, 1) := by decide +kernel
theorem dX0_needArgument_8 : decode cX0_needArgument 8 = .ok (.invokespecial 179, 3) := by decide +kernel
theorem dX0_needArgument_11 : decode cX0_needArgument 11 = .ok (.athrow, 1) := by decide +kernel
theorem dX0_needArgument_12 : decode cX0_needArgument 12 = .ok (.return_, 1) := by decide +kernel
theorem dX0_needState_0 : decode cX0_needState 0 = .ok (.iload_n 0, 1) := by decide +kernel
theorem dX0_needState_1 : decode cX0_needState 1 = .ok (.ifCond .ne 11, 3) := by decide +kernel
theorem dX0_needState_4 : decode cX0_needState 4 = .ok (.new 180, 3) := by decide +kernel
theorem dX0_needState_7 : decode cX0_needState 7 = .ok (.dup, 1) := by decide +kernel
theorem dX0_needState_8 : decode cX0_needState 8 = .ok (.invokespecial 182, 3) := by decide +kernel
theorem dX0_needState_11 : decode cX0_needState 11 = .ok (.athrow, 1) := by decide +kernel
theorem dX0_needState_12 : decode cX0_needState 12 = .ok (.return_, 1) := by decide +kernel
end
section
theorem dX1_init_0 : decode cX1_init 0 = .ok (.aload_n 0, 1) := by decide +kernel
theorem dX1_init_1 : decode cX1_init 1 = .ok (.invokespecial 1, 3) := by decide +kernel
theorem dX1_init_4 : decode cX1_init 4 = .ok (.aload_n 0, 1) := by decide +kernel
theorem dX1_init_5 : decode cX1_init 5 = .ok (.bipush 16, 2) := by decide +kernel
theorem dX1_init_7 : decode cX1_init 7 = .ok (.newarray .int, 2) := by decide +kernel
theorem dX1_init_9 : decode cX1_init 9 = .ok (.putfield 7, 3) := by decide +kernel
theorem dX1_init_12 : decode cX1_init 12 = .ok (.aload_n 0, 1) := by decide +kernel
theorem dX1_init_13 : decode cX1_init 13 = .ok (.bipush 16, 2) := by decide +kernel
theorem dX1_init_15 : decode cX1_init 15 = .ok (.newarray .int, 2) := by decide +kernel
theorem dX1_init_17 : decode cX1_init 17 = .ok (.putfield 13, 3) := by decide +kernel
theorem dX1_init_20 : decode cX1_init 20 = .ok (.aload_n 0, 1) := by decide +kernel
theorem dX1_init_21 : decode cX1_init 21 = .ok (.bipush 16, 2) := by decide +kernel
theorem dX1_init_23 : decode cX1_init 23 = .ok (.newarray .int, 2) := by decide +kernel
theorem dX1_init_25 : decode cX1_init 25 = .ok (.putfield 16, 3) := by decide +kernel
theorem dX1_init_28 : decode cX1_init 28 = .ok (.aload_n 0, 1) := by decide +kernel
theorem dX1_init_29 : decode cX1_init 29 = .ok (.bipush 16, 2) := by decide +kernel
theorem dX1_init_31 : decode cX1_init 31 = .ok (.newarray .int, 2) := by decide +kernel
theorem dX1_init_33 : decode cX1_init 33 = .ok (.putfield 19, 3) := by decide +kernel
theorem dX1_init_36 : decode cX1_init 36 = .ok (.aload_n 0, 1) := by decide +kernel
theorem dX1_init_37 : decode cX1_init 37 = .ok (.bipush 64, 2) := by decide +kernel
theorem dX1_init_39 : decode cX1_init 39 = .ok (.newarray .int, 2) := by decide +kernel
theorem dX1_init_41 : decode cX1_init 41 = .ok (.putfield 22, 3) := by decide +kernel
theorem dX1_init_44 : decode cX1_init 44 = .ok (.aload_n 0, 1) := by decide +kernel
theorem dX1_init_45 : decode cX1_init 45 = .ok (.bipush 40, 2) := by decide +kernel
theorem dX1_init_47 : decode cX1_init 47 = .ok (.newarray .int, 2) := by decide +kernel
theorem dX1_init_49 : decode cX1_init 49 = .ok (.putfield 25, 3) := by decide +kernel
theorem dX1_init_52 : decode cX1_init 52 = .ok (.aload_n 0, 1) := by decide +kernel
theorem dX1_init_53 : decode cX1_init 53 = .ok (.bipush 40, 2) := by decide +kernel
theorem dX1_init_55 : decode cX1_init 55 = .ok (.newarray .int, 2) := by decide +kernel
theorem dX1_init_57 : decode cX1_init 57 = .ok (.putfield 28, 3) := by decide +kernel
theorem dX1_init_60 : decode cX1_init 60 = .ok (.aload_n 0, 1) := by decide +kernel
theorem dX1_init_61 : decode cX1_init 61 = .ok (.bipush 40, 2) := by decide +kernel
theorem dX1_init_63 : decode cX1_init 63 = .ok (.newarray .int, 2) := by decide +kernel
theorem dX1_init_65 : decode cX1_init 65 = .ok (.putfield 31, 3) := by decide +kernel
theorem dX1_init_68 : decode cX1_init 68 = .ok (.aload_n 0, 1) := by decide +kernel
theorem dX1_init_69 : decode cX1_init 69 = .ok (.bipush 40, 2) := by decide +kernel
theorem dX1_init_71 : decode cX1_init 71 = .ok (.newarray .int, 2) := by decide +kernel
theorem dX1_init_73 : decode cX1_init 73 = .ok (.putfield 34, 3) := by decide +kernel
theorem dX1_init_76 : decode cX1_init 76 = .ok (.aload_n 0, 1) := by decide +kernel
theorem dX1_init_77 : decode cX1_init 77 = .ok (.iconst 4, 1) := by decide +kernel
theorem dX1_init_78 : decode cX1_init 78 = .ok (.newarray .int, 2) := by decide +kernel
theorem dX1_init_80 : decode cX1_init 80 = .ok (.putfield 37, 3) := by decide +kernel
theorem dX1_init_83 : decode cX1_init 83 = .ok (.aload_n 0, 1) := by decide +kernel
theorem dX1_init_84 : decode cX1_init 84 = .ok (.bipush 40, 2) := by decide +kernel
theorem dX1_init_86 : decode cX1_init 86 = .ok (.newarray .int, 2) := by decide +kernel
theorem dX1_init_88 : decode cX1_init 88 = .ok (.putfield 40, 3) := by decide +kernel
theorem dX1_init_91 : decode cX1_init 91 = .ok (.aload_n 0, 1) := by decide +kernel
theorem dX1_init_92 : decode cX1_init 92 = .ok (.bipush 40, 2) := by decide +kernel
theorem dX1_init_94 : decode cX1_init 94 = .ok (.newarray .int, 2) := by decide +kernel
theorem dX1_init_96 : decode cX1_init 96 = .ok (.putfield 43, 3) := by decide +kernel
theorem dX1_init_99 : decode cX1_init 99 = .ok (.aload_n 0, 1) := by decide +kernel
theorem dX1_init_100 : decode cX1_init 100 = .ok (.bipush 40, 2) := by decide +kernel
theorem dX1_init_102 : decode cX1_init 102 = .ok (.newarray .int, 2) := by decide +kernel
theorem dX1_init_104 : decode cX1_init 104 = .ok (.putfield 46, 3) := by decide +kernel
theorem dX1_init_107 : decode cX1_init 107 = .ok (.aload_n 0, 1) := by decide +kernel
theorem dX1_init_108 : decode cX1_init 108 = .ok (.bipush 40, 2) := by decide +kernel
theorem dX1_init_110 : decode cX1_init 110 = .ok (.newarray .boolean, 2) := by decide +kernel
theorem dX1_init_112 : decode cX1_init 112 = .ok (.putfield 49, 3) := by decide +kernel
theorem dX1_init_115 : decode cX1_init 115 = .ok (.return_, 1) := by decide +kernel
theorem dX1_thrown_0 : decode cX1_thrown 0 = .ok (.aload_n 0, 1) := by decide +kernel
theorem dX1_thrown_1 : decode cX1_thrown 1 = .ok (.getfield 53, 3) := by decide +kernel
theorem dX1_thrown_4 : decode cX1_thrown 4 = .ok (.ireturn, 1) := by decide +kernel
theorem dX1_isIn_0 : decode cX1_isIn 0 = .ok (.iload_n 0, 1) := by decide +kernel
theorem dX1_isIn_1 : decode cX1_isIn 1 = .ok (.iload_n 1, 1) := by decide +kernel
theorem dX1_isIn_2 : decode cX1_isIn 2 = .ok (.if_icmp .lt 12, 3) := by decide +kernel
theorem dX1_isIn_5 : decode cX1_isIn 5 = .ok (.iload_n 0, 1) := by decide +kernel
theorem dX1_isIn_6 : decode cX1_isIn 6 = .ok (.iload_n 2, 1) := by decide +kernel
theorem dX1_isIn_7 : decode cX1_isIn 7 = .ok (.if_icmp .gt 7, 3) := by decide +kernel
theorem dX1_isIn_10 : decode cX1_isIn 10 = .ok (.iconst 1, 1) := by decide +kernel
theorem dX1_isIn_11 : decode cX1_isIn 11 = .ok (.goto 4, 3) := by decide +kernel
theorem dX1_isIn_14 : decode cX1_isIn 14 = .ok (.iconst 0, 1) := by decide +kernel
theorem dX1_isIn_15 : decode cX1_isIn 15 = .ok (.ireturn, 1) := by decide +kernel
set_option maxRecDepth 20000 in
theorem ggX1_isHymn_X1_isIn : GoodIn wsX1_isHymn wsX1_isIn := goodIn_r _ [5] (by decide +kernel) (by decide +kernel)
set_option maxRecDepth 20000 in
theorem gX1_isHymn_X1_isIn : GoodIn wsX1_isHymn (va_wsS RX1 60 yX1_isIn wsX1_isIn) := goodIn_app (goodIn_of _ (by decide +kernel)) ggX1_isHymn_X1_isIn
theorem dX1_isHymn_0 : decode cX1_isHymn 0 = .ok (.iload_n 1, 1) := by decide +kernel
theorem dX1_isHymn_1 : decode cX1_isHymn 1 = .ok (.iconst 0, 1) := by decide +kernel
theorem dX1_isHymn_2 : decode cX1_isHymn 2 = .ok (.aload_n 0, 1) := by decide +kernel
theorem dX1_isHymn_3 : decode cX1_isHymn 3 = .ok (.getfield 57, 3) := by decide +kernel
theorem dX1_isHymn_6 : decode cX1_isHymn 6 = .ok (.iconst 1, 1) := by decide +kernel
theorem dX1_isHymn_7 : decode cX1_isHymn 7 = .ok (.isub, 1) := by decide +kernel
theorem dX1_isHymn_8 : decode cX1_isHymn 8 = .ok (.invokestatic 60, 3) := by decide +kernel
theorem dX1_isHymn_11 : decode cX1_isHymn 11 = .ok (.ireturn, 1) := by decide +kernel
set_option maxRecDepth 20000 in
theorem ggX1_isUse_X1_isIn : GoodIn wsX1_isUse wsX1_isIn := goodIn_r _ [4] (by decide +kernel) (by decide +kernel)
set_option maxRecDepth 20000 in
theorem gX1_isUse_X1_isIn : GoodIn wsX1_isUse (va_wsS RX1 60 yX1_isIn wsX1_isIn) := goodIn_app (goodIn_of _ (by decide +kernel)) ggX1_isUse_X1_isIn
theorem dX1_isUse_0 : decode cX1_isUse 0 = .ok (.iload_n 0, 1) := by decide +kernel
theorem dX1_isUse_1 : decode cX1_isUse 1 = .ok (.iconst 0, 1) := by decide +kernel
theorem dX1_isUse_2 : decode cX1_isUse 2 = .ok (.iconst 1, 1) := by decide +kernel
theorem dX1_isUse_3 : decode cX1_isUse 3 = .ok (.invokestatic 60, 3) := by decide +kernel
theorem dX1_isUse_6 : decode cX1_isUse 6 = .ok (.ireturn, 1) := by decide +kernel
set_option maxRecDepth 20000 in
theorem ggX1_isDay_X1_isIn : GoodIn wsX1_isDay wsX1_isIn := goodIn_r _ [4] (by decide +kernel) (by decide +kernel)
set_option maxRecDepth 20000 in
theorem gX1_isDay_X1_isIn : GoodIn wsX1_isDay (va_wsS RX1 60 yX1_isIn wsX1_isIn) := goodIn_app (goodIn_of _ (by decide +kernel)) ggX1_isDay_X1_isIn
theorem dX1_isDay_0 : decode cX1_isDay 0 = .ok (.iload_n 0, 1) := by decide +kernel
theorem dX1_isDay_1 : decode cX1_isDay 1 = .ok (.iconst 0, 1) := by decide +kernel
theorem dX1_isDay_2 : decode cX1_isDay 2 = .ok (.sipush 1459, 3) := by decide +kernel
theorem dX1_isDay_5 : decode cX1_isDay 5 = .ok (.invokestatic 60, 3) := by decide +kernel
theorem dX1_isDay_8 : decode cX1_isDay 8 = .ok (.ireturn, 1) := by decide +kernel
set_option maxRecDepth 20000 in
theorem ggX1_hymn_X1_isIn : GoodIn wsX1_hymn wsX1_isIn := goodIn_r _ [10] (by decide +kernel) (by decide +kernel)
set_option maxRecDepth 20000 in
theorem gX1_hymn_X1_isIn : GoodIn wsX1_hymn (va_wsS RX1 60 yX1_isIn wsX1_isIn) := goodIn_app (goodIn_of _ (by decide +kernel)) ggX1_hymn_X1_isIn
theorem dX1_hymn_0 : decode cX1_hymn 0 = .ok (.iload_n 2, 1) := by decide +kernel
theorem dX1_hymn_1 : decode cX1_hymn 1 = .ok (.iconst 1, 1) := by decide +kernel
theorem dX1_hymn_2 : decode cX1_hymn 2 = .ok (.bipush 15, 2) := by decide +kernel
theorem dX1_hymn_4 : decode cX1_hymn 4 = .ok (.invokestatic 60, 3) := by decide +kernel
theorem dX1_hymn_7 : decode cX1_hymn 7 = .ok (.ifCond .eq 43, 3) := by decide +kernel
theorem dX1_hymn_10 : decode cX1_hymn 10 = .ok (.iload_n 3, 1) := by decide +kernel
theorem dX1_hymn_11 : decode cX1_hymn 11 = .ok (.iconst 1, 1) := by decide +kernel
theorem dX1_hymn_12 : decode cX1_hymn 12 = .ok (.bipush 30, 2) := by decide +kernel
theorem dX1_hymn_14 : decode cX1_hymn 14 = .ok (.invokestatic 60, 3) := by decide +kernel
theorem dX1_hymn_17 : decode cX1_hymn 17 = .ok (.ifCond .eq 33, 3) := by decide +kernel
theorem dX1_hymn_20 : decode cX1_hymn 20 = .ok (.iload 4, 2) := by decide +kernel
theorem dX1_hymn_22 : decode cX1_hymn 22 = .ok (.ifCond .lt 28, 3) := by decide +kernel
theorem dX1_hymn_25 : decode cX1_hymn 25 = .ok (.iload 4, 2) := by decide +kernel
theorem dX1_hymn_27 : decode cX1_hymn 27 = .ok (.iload_n 3, 1) := by decide +kernel
theorem dX1_hymn_28 : decode cX1_hymn 28 = .ok (.iconst 1, 1) := by decide +kernel
theorem dX1_hymn_29 : decode cX1_hymn 29 = .ok (.bipush 30, 2) := by decide +kernel
theorem dX1_hymn_31 : decode cX1_hymn 31 = .ok (.invokestatic 60, 3) := by decide +kernel
theorem dX1_hymn_34 : decode cX1_hymn 34 = .ok (.ifCond .eq 7, 3) := by decide +kernel
theorem dX1_hymn_37 : decode cX1_hymn 37 = .ok (.iload_n 3, 1) := by decide +kernel
theorem dX1_hymn_38 : decode cX1_hymn 38 = .ok (.goto 4, 3) := by decide +kernel
theorem dX1_hymn_41 : decode cX1_hymn 41 = .ok (.iconst 1, 1) := by decide +kernel
theorem dX1_hymn_42 : decode cX1_hymn 42 = .ok (.ishr, 1) := by decide +kernel
theorem dX1_hymn_43 : decode cX1_hymn 43 = .ok (.ifCond .ne 7, 3) := by decide +kernel
theorem dX1_hymn_46 : decode cX1_hymn 46 = .ok (.iconst 1, 1) := by decide +kernel
theorem dX1_hymn_47 : decode cX1_hymn 47 = .ok (.goto 4, 3) := by decide +kernel
theorem dX1_hymn_50 : decode cX1_hymn 50 = .ok (.iconst 0, 1) := by decide +kernel
theorem dX1_hymn_51 : decode cX1_hymn 51 = .ok (.istore 5, 2) := by decide +kernel
theorem dX1_hymn_53 : decode cX1_hymn 53 = .ok (.aload_n 0, 1) := by decide +kernel
theorem dX1_hymn_54 : decode cX1_hymn 54 = .ok (.iload_n 1, 1) := by decide +kernel
theorem dX1_hymn_55 : decode cX1_hymn 55 = .ok (.iconst 0, 1) := by decide +kernel
theorem dX1_hymn_56 : decode cX1_hymn 56 = .ok (.iconst 4, 1) := by decide +kernel
theorem dX1_hymn_57 : decode cX1_hymn 57 = .ok (.invokestatic 60, 3) := by decide +kernel
theorem dX1_hymn_60 : decode cX1_hymn 60 = .ok (.ifCond .ne 7, 3) := by decide +kernel
theorem dX1_hymn_63 : decode cX1_hymn 63 = .ok (.iconst 1, 1) := by decide +kernel
theorem dX1_hymn_64 : decode cX1_hymn 64 = .ok (.goto 26, 3) := by decide +kernel
theorem dX1_hymn_67 : decode cX1_hymn 67 = .ok (.iload 5, 2) := by decide +kernel
theorem dX1_hymn_69 : decode cX1_hymn 69 = .ok (.ifCond .ne 7, 3) := by decide +kernel
theorem dX1_hymn_72 : decode cX1_hymn 72 = .ok (.iconst 2, 1) := by decide +kernel
theorem dX1_hymn_73 : decode cX1_hymn 73 = .ok (.goto 17, 3) := by decide +kernel
theorem dX1_hymn_76 : decode cX1_hymn 76 = .ok (.aload_n 0, 1) := by decide +kernel
theorem dX1_hymn_77 : decode cX1_hymn 77 = .ok (.getfield 57, 3) := by decide +kernel
theorem dX1_hymn_80 : decode cX1_hymn 80 = .ok (.bipush 16, 2) := by decide +kernel
theorem dX1_hymn_82 : decode cX1_hymn 82 = .ok (.if_icmp .ne 7, 3) := by decide +kernel
theorem dX1_hymn_85 : decode cX1_hymn 85 = .ok (.iconst 3, 1) := by decide +kernel
theorem dX1_hymn_86 : decode cX1_hymn 86 = .ok (.goto 4, 3) := by decide +kernel
theorem dX1_hymn_89 : decode cX1_hymn 89 = .ok (.iconst 0, 1) := by decide +kernel
theorem dX1_hymn_90 : decode cX1_hymn 90 = .ok (.putfield 53, 3) := by decide +kernel
theorem dX1_hymn_93 : decode cX1_hymn 93 = .ok (.aload_n 0, 1) := by decide +kernel
theorem dX1_hymn_94 : decode cX1_hymn 94 = .ok (.getfield 53, 3) := by decide +kernel
theorem dX1_hymn_97 : decode cX1_hymn 97 = .ok (.ifCond .le 5, 3) := by decide +kernel
theorem dX1_hymn_100 : decode cX1_hymn 100 = .ok (.iconst 0, 1) := by decide +kernel
theorem dX1_hymn_101 : decode cX1_hymn 101 = .ok (.ireturn, 1) := by decide +kernel
theorem dX1_hymn_102 : decode cX1_hymn 102 = .ok (.aload_n 0, 1) := by decide +kernel
theorem dX1_hymn_103 : decode cX1_hymn 103 = .ok (.getfield 7, 3) := by decide +kernel
theorem dX1_hymn_106 : decode cX1_hymn 106 = .ok (.aload_n 0, 1) := by decide +kernel
theorem dX1_hymn_107 : decode cX1_hymn 107 = .ok (.getfield 57, 3) := by decide +kernel
theorem dX1_hymn_110 : decode cX1_hymn 110 = .ok (.iload_n 1, 1) := by decide +kernel
theorem dX1_hymn_111 : decode cX1_hymn 111 = .ok (.iastore, 1) := by decide +kernel
theorem dX1_hymn_112 : decode cX1_hymn 112 = .ok (.aload_n 0, 1) := by decide +kernel
theorem dX1_hymn_113 : decode cX1_hymn 113 = .ok (.getfield 13, 3) := by decide +kernel
theorem dX1_hymn_116 : decode cX1_hymn 116 = .ok (.aload_n 0, 1) := by decide +kernel
theorem dX1_hymn_117 : decode cX1_hymn 117 = .ok (.getfield 57, 3) := by decide +kernel
theorem dX1_hymn_120 : decode cX1_hymn 120 = .ok (.iload_n 2, 1) := by decide +kernel
theorem dX1_hymn_121 : decode cX1_hymn 121 = .ok (.iastore, 1) := by decide +kernel
theorem dX1_hymn_122 : decode cX1_hymn 122 = .ok (.aload_n 0, 1) := by decide +kernel
theorem dX1_hymn_123 : decode cX1_hymn 123 = .ok (.getfield 16, 3) := by decide +kernel
theorem dX1_hymn_126 : decode cX1_hymn 126 = .ok (.aload_n 0, 1) := by decide +kernel
theorem dX1_hymn_127 : decode cX1_hymn 127 = .ok (.getfield 57, 3) := by decide +kernel
theorem dX1_hymn_130 : decode cX1_hymn 130 = .ok (.iload_n 3, 1) := by decide +kernel
theorem dX1_hymn_131 : decode cX1_hymn 131 = .ok (.iastore, 1) := by decide +kernel
theorem dX1_hymn_132 : decode cX1_hymn 132 = .ok (.aload_n 0, 1) := by decide +kernel
theorem dX1_hymn_133 : decode cX1_hymn 133 = .ok (.getfield 19, 3) := by decide +kernel
theorem dX1_hymn_136 : decode cX1_hymn 136 = .ok (.aload_n 0, 1) := by decide +kernel
theorem dX1_hymn_137 : decode cX1_hymn 137 = .ok (.getfield 57, 3) := by decide +kernel
theorem dX1_hymn_140 : decode cX1_hymn 140 = .ok (.iload 4, 2) := by decide +kernel
theorem dX1_hymn_142 : decode cX1_hymn 142 = .ok (.iastore, 1) := by decide +kernel
theorem dX1_hymn_143 : decode cX1_hymn 143 = .ok (.aload_n 0, 1) := by decide +kernel
theorem dX1_hymn_144 : decode cX1_hymn 144 = .ok (.dup, 1) := by decide +kernel
theorem dX1_hymn_145 : decode cX1_hymn 145 = .ok (.getfield 57, 3) := by decide +kernel
theorem dX1_hymn_148 : decode cX1_hymn 148 = .ok (.iconst 1, 1) := by decide +kernel
theorem dX1_hymn_149 : decode cX1_hymn 149 = .ok (.iadd, 1) := by decide +kernel
theorem dX1_hymn_150 : decode cX1_hymn 150 = .ok (.putfield 57, 3) := by decide +kernel
theorem dX1_hymn_153 : decode cX1_hymn 153 = .ok (.aload_n 0, 1) := by decide +kernel
theorem dX1_hymn_154 : decode cX1_hymn 154 = .ok (.getfield 57, 3) := by decide +kernel
theorem dX1_hymn_157 : decode cX1_hymn 157 = .ok (.iconst 1, 1) := by decide +kernel
theorem dX1_hymn_158 : decode cX1_hymn 158 = .ok (.isub, 1) := by decide +kernel
theorem dX1_hymn_159 : decode cX1_hymn 159 = .ok (.ireturn, 1) := by decide +kernel
theorem dX1_hymns_0 : decode cX1_hymns 0 = .ok (.aload_n 0, 1) := by decide +kernel
theorem dX1_hymns_1 : decode cX1_hymns 1 = .ok (.iconst 0, 1) := by decide +kernel
theorem dX1_hymns_2 : decode cX1_hymns 2 = .ok (.putfield 53, 3) := by decide +kernel
theorem dX1_hymns_5 : decode cX1_hymns 5 = .ok (.aload_n 0, 1) := by decide +kernel
theorem dX1_hymns_6 : decode cX1_hymns 6 = .ok (.getfield 57, 3) := by decide +kernel
theorem dX1_hymns_9 : decode cX1_hymns 9 = .ok (.ireturn, 1) := by decide +kernel
theorem dX1_hasRest_0 : decode cX1_hasRest 0 = .ok (.aload_n 0, 1) := by decide +kernel
theorem dX1_hasRest_1 : decode cX1_hasRest 1 = .ok (.getfield 19, 3) := by decide +kernel
theorem dX1_hasRest_4 : decode cX1_hasRest 4 = .ok (.iload_n 1, 1) := by decide +kernel
theorem dX1_hasRest_5 : decode cX1_hasRest 5 = .ok (.iaload, 1) := by decide +kernel
theorem dX1_hasRest_6 : decode cX1_hasRest 6 = .ok (.iload_n 2, 1) := by decide +kernel
theorem dX1_hasRest_7 : decode cX1_hasRest 7 = .ok (.ishr, 1) := by decide +kernel
theorem dX1_hasRest_8 : decode cX1_hasRest 8 = .ok (.iconst 1, 1) := by decide +kernel
theorem dX1_hasRest_9 : decode cX1_hasRest 9 = .ok (.iand, 1) := by decide +kernel
theorem dX1_hasRest_10 : decode cX1_hasRest 10 = .ok (.iconst 1, 1) := by decide +kernel
theorem dX1_hasRest_11 : decode cX1_hasRest 11 = .ok (.if_icmp .ne 7, 3) := by decide +kernel
theorem dX1_hasRest_14 : decode cX1_hasRest 14 = .ok (.iconst 1, 1) := by decide +kernel
theorem dX1_hasRest_15 : decode cX1_hasRest 15 = .ok (.goto 4, 3) := by decide +kernel
theorem dX1_hasRest_18 : decode cX1_hasRest 18 = .ok (.iconst 0, 1) := by decide +kernel
theorem dX1_hasRest_19 : decode cX1_hasRest 19 = .ok (.ireturn, 1) := by decide +kernel
set_option maxRecDepth 20000 in
theorem ggX1_nextPage_X1_hasRest : GoodIn wsX1_nextPage wsX1_hasRest := goodIn_r _ [6, 7, 8, 9, 10, 11, 12, 13, 14, 15, 16, 17, 18, 19, 20, 21, 22, 23, 24, 25, 26] (by decide +kernel) (by decide +kernel)
set_option maxRecDepth 20000 in
theorem gX1_nextPage_X1_hasRest : GoodIn wsX1_nextPage (wsV RX1 64 RX1 yX1_hasRest wsX1_hasRest) := goodIn_app (goodIn_of _ (by decide +kernel)) ggX1_nextPage_X1_hasRest
theorem dX1_nextPage_0 : decode cX1_nextPage 0 = .ok (.aload_n 0, 1) := by decide +kernel
theorem dX1_nextPage_1 : decode cX1_nextPage 1 = .ok (.getfield 16, 3) := by decide +kernel
theorem dX1_nextPage_4 : decode cX1_nextPage 4 = .ok (.iload_n 1, 1) := by decide +kernel
theorem dX1_nextPage_5 : decode cX1_nextPage 5 = .ok (.iaload, 1) := by decide +kernel
theorem dX1_nextPage_6 : decode cX1_nextPage 6 = .ok (.iload_n 2, 1) := by decide +kernel
theorem dX1_nextPage_7 : decode cX1_nextPage 7 = .ok (.isub, 1) := by decide +kernel
theorem dX1_nextPage_8 : decode cX1_nextPage 8 = .ok (.bipush 8, 2) := by decide +kernel
theorem dX1_nextPage_10 : decode cX1_nextPage 10 = .ok (.if_icmp .gt 10, 3) := by decide +kernel
theorem dX1_nextPage_13 : decode cX1_nextPage 13 = .ok (.aload_n 0, 1) := by decide +kernel
theorem dX1_nextPage_14 : decode cX1_nextPage 14 = .ok (.getfield 16, 3) := by decide +kernel
theorem dX1_nextPage_17 : decode cX1_nextPage 17 = .ok (.iload_n 1, 1) := by decide +kernel
theorem dX1_nextPage_18 : decode cX1_nextPage 18 = .ok (.iaload, 1) := by decide +kernel
theorem dX1_nextPage_19 : decode cX1_nextPage 19 = .ok (.ireturn, 1) := by decide +kernel
theorem dX1_nextPage_20 : decode cX1_nextPage 20 = .ok (.iload_n 2, 1) := by decide +kernel
theorem dX1_nextPage_21 : decode cX1_nextPage 21 = .ok (.bipush 8, 2) := by decide +kernel
theorem dX1_nextPage_23 : decode cX1_nextPage 23 = .ok (.iadd, 1) := by decide +kernel
theorem dX1_nextPage_24 : decode cX1_nextPage 24 = .ok (.istore_n 3, 1) := by decide +kernel
theorem dX1_nextPage_25 : decode cX1_nextPage 25 = .ok (.iload_n 3, 1) := by decide +kernel
theorem dX1_nextPage_26 : decode cX1_nextPage 26 = .ok (.istore 4, 2) := by decide +kernel
theorem dX1_nextPage_28 : decode cX1_nextPage 28 = .ok (.iload_n 2, 1) := by decide +kernel
theorem dX1_nextPage_29 : decode cX1_nextPage 29 = .ok (.istore 5, 2) := by decide +kernel
theorem dX1_nextPage_31 : decode cX1_nextPage 31 = .ok (.iload 5, 2) := by decide +kernel
theorem dX1_nextPage_33 : decode cX1_nextPage 33 = .ok (.iload_n 3, 1) := by decide +kernel
theorem dX1_nextPage_34 : decode cX1_nextPage 34 = .ok (.if_icmp .ge 30, 3) := by decide +kernel
theorem dX1_nextPage_37 : decode cX1_nextPage 37 = .ok (.aload_n 0, 1) := by decide +kernel
theorem dX1_nextPage_38 : decode cX1_nextPage 38 = .ok (.iload_n 1, 1) := by decide +kernel
theorem dX1_nextPage_39 : decode cX1_nextPage 39 = .ok (.iload 5, 2) := by decide +kernel
theorem dX1_nextPage_41 : decode cX1_nextPage 41 = .ok (.invokevirtual 64, 3) := by decide +kernel
theorem dX1_nextPage_44 : decode cX1_nextPage 44 = .ok (.ifCond .eq 10, 3) := by decide +kernel
theorem dX1_nextPage_47 : decode cX1_nextPage 47 = .ok (.iload 5, 2) := by decide +kernel
theorem dX1_nextPage_49 : decode cX1_nextPage 49 = .ok (.iconst 1, 1) := by decide +kernel
theorem dX1_nextPage_50 : decode cX1_nextPage 50 = .ok (.iadd, 1) := by decide +kernel
theorem dX1_nextPage_51 : decode cX1_nextPage 51 = .ok (.goto 5, 3) := by decide +kernel
theorem dX1_nextPage_54 : decode cX1_nextPage 54 = .ok (.iload 4, 2) := by decide +kernel
theorem dX1_nextPage_56 : decode cX1_nextPage 56 = .ok (.istore 4, 2) := by decide +kernel
theorem dX1_nextPage_58 : decode cX1_nextPage 58 = .ok (.iinc 5 1, 3) := by decide +kernel
theorem dX1_nextPage_61 : decode cX1_nextPage 61 = .ok (.goto (-30), 3) := by decide +kernel
theorem dX1_nextPage_64 : decode cX1_nextPage 64 = .ok (.iload 4, 2) := by decide +kernel
theorem dX1_nextPage_66 : decode cX1_nextPage 66 = .ok (.ireturn, 1) := by decide +kernel
set_option maxRecDepth 20000 in
theorem ggX1_pagesOf_X1_nextPage : GoodIn wsX1_pagesOf wsX1_nextPage := goodIn_r _ [6, 1, 7, 8, 9, 5, 10, 11, 12, 13, 14, 15, 16, 17, 18, 19, 20, 21, 22, 23, 24, 25, 26, 27, 28, 29, 30] (by decide +kernel) (by decide +kernel)
set_option maxRecDepth 20000 in
theorem gX1_pagesOf_X1_nextPage : GoodIn wsX1_pagesOf (wsV RX1 68 RX1 yX1_nextPage wsX1_nextPage) := goodIn_app (goodIn_of _ (by decide +kernel)) ggX1_pagesOf_X1_nextPage
theorem dX1_pagesOf_0 : decode cX1_pagesOf 0 = .ok (.iconst 0, 1) := by decide +kernel
theorem dX1_pagesOf_1 : decode cX1_pagesOf 1 = .ok (.istore_n 2, 1) := by decide +kernel
theorem dX1_pagesOf_2 : decode cX1_pagesOf 2 = .ok (.iconst 0, 1) := by decide +kernel
theorem dX1_pagesOf_3 : decode cX1_pagesOf 3 = .ok (.istore_n 3, 1) := by decide +kernel
theorem dX1_pagesOf_4 : decode cX1_pagesOf 4 = .ok (.iload_n 3, 1) := by decide +kernel
theorem dX1_pagesOf_5 : decode cX1_pagesOf 5 = .ok (.aload_n 0, 1) := by decide +kernel
theorem dX1_pagesOf_6 : decode cX1_pagesOf 6 = .ok (.getfield 16, 3) := by decide +kernel
theorem dX1_pagesOf_9 : decode cX1_pagesOf 9 = .ok (.iload_n 1, 1) := by decide +kernel
theorem dX1_pagesOf_10 : decode cX1_pagesOf 10 = .ok (.iaload, 1) := by decide +kernel
theorem dX1_pagesOf_11 : decode cX1_pagesOf 11 = .ok (.if_icmp .ge 16, 3) := by decide +kernel
theorem dX1_pagesOf_14 : decode cX1_pagesOf 14 = .ok (.iinc 2 1, 3) := by decide +kernel
theorem dX1_pagesOf_17 : decode cX1_pagesOf 17 = .ok (.aload_n 0, 1) := by decide +kernel
theorem dX1_pagesOf_18 : decode cX1_pagesOf 18 = .ok (.iload_n 1, 1) := by decide +kernel
theorem dX1_pagesOf_19 : decode cX1_pagesOf 19 = .ok (.iload_n 3, 1) := by decide +kernel
theorem dX1_pagesOf_20 : decode cX1_pagesOf 20 = .ok (.invokevirtual 68, 3) := by decide +kernel
theorem dX1_pagesOf_23 : decode cX1_pagesOf 23 = .ok (.istore_n 3, 1) := by decide +kernel
theorem dX1_pagesOf_24 : decode cX1_pagesOf 24 = .ok (.goto (-20), 3) := by decide +kernel
theorem dX1_pagesOf_27 : decode cX1_pagesOf 27 = .ok (.iload_n 2, 1) := by decide +kernel
theorem dX1_pagesOf_28 : decode cX1_pagesOf 28 = .ok (.ireturn, 1) := by decide +kernel
set_option maxRecDepth 20000 in
theorem ggX1_pages_X1_isHymn : GoodIn wsX1_pages wsX1_isHymn := goodIn_r _ [6, 7, 8, 9, 5, 10, 25, 26, 27, 28, 29, 30, 31, 32, 33, 34, 35, 36, 37, 38, 39, 40, 41, 42, 43] (by decide +kernel) (by decide +kernel)
set_option maxRecDepth 20000 in
theorem gX1_pages_X1_isHymn : GoodIn wsX1_pages (wsV RX1 72 RX1 yX1_isHymn wsX1_isHymn) := goodIn_app (goodIn_of _ (by decide +kernel)) ggX1_pages_X1_isHymn
set_option maxRecDepth 20000 in
theorem ggX1_pages_X1_pagesOf : GoodIn wsX1_pages wsX1_pagesOf := goodIn_r _ [14, 15, 16, 17, 18, 5, 19, 20, 21, 22, 23, 24, 25, 26, 27, 28, 29, 30, 31, 32, 33, 34, 35, 36, 37, 38, 39, 40, 41, 42, 43] (by decide +kernel) (by decide +kernel)
set_option maxRecDepth 20000 in
theorem gX1_pages_X1_pagesOf : GoodIn wsX1_pages (wsV RX1 76 RX1 yX1_pagesOf wsX1_pagesOf) := goodIn_app (goodIn_of _ (by decide +kernel)) ggX1_pages_X1_pagesOf
theorem dX1_pages_0 : decode cX1_pages 0 = .ok (.aload_n 0, 1) := by decide +kernel
theorem dX1_pages_1 : decode cX1_pages 1 = .ok (.aload_n 0, 1) := by decide +kernel
theorem dX1_pages_2 : decode cX1_pages 2 = .ok (.iload_n 1, 1) := by decide +kernel
theorem dX1_pages_3 : decode cX1_pages 3 = .ok (.invokevirtual 72, 3) := by decide +kernel
theorem dX1_pages_6 : decode cX1_pages 6 = .ok (.ifCond .eq 7, 3) := by decide +kernel
theorem dX1_pages_9 : decode cX1_pages 9 = .ok (.iconst 0, 1) := by decide +kernel
theorem dX1_pages_10 : decode cX1_pages 10 = .ok (.goto 4, 3) := by decide +kernel
theorem dX1_pages_13 : decode cX1_pages 13 = .ok (.iconst 1, 1) := by decide +kernel
theorem dX1_pages_14 : decode cX1_pages 14 = .ok (.putfield 53, 3) := by decide +kernel
theorem dX1_pages_17 : decode cX1_pages 17 = .ok (.aload_n 0, 1) := by decide +kernel
theorem dX1_pages_18 : decode cX1_pages 18 = .ok (.getfield 53, 3) := by decide +kernel
theorem dX1_pages_21 : decode cX1_pages 21 = .ok (.ifCond .le 7, 3) := by decide +kernel
theorem dX1_pages_24 : decode cX1_pages 24 = .ok (.iconst 0, 1) := by decide +kernel
theorem dX1_pages_25 : decode cX1_pages 25 = .ok (.goto 8, 3) := by decide +kernel
theorem dX1_pages_28 : decode cX1_pages 28 = .ok (.aload_n 0, 1) := by decide +kernel
theorem dX1_pages_29 : decode cX1_pages 29 = .ok (.iload_n 1, 1) := by decide +kernel
theorem dX1_pages_30 : decode cX1_pages 30 = .ok (.invokevirtual 76, 3) := by decide +kernel
theorem dX1_pages_33 : decode cX1_pages 33 = .ok (.ireturn, 1) := by decide +kernel
set_option maxRecDepth 20000 in
theorem ggX1_pageOf_X1_isHymn : GoodIn wsX1_pageOf wsX1_isHymn := goodIn_r _ [7, 8, 9, 10, 6, 11, 21, 22, 23, 24, 25, 26, 27, 28, 29, 30, 31, 32, 33, 34, 35, 36, 37, 38, 39] (by decide +kernel) (by decide +kernel)
set_option maxRecDepth 20000 in
theorem gX1_pageOf_X1_isHymn : GoodIn wsX1_pageOf (wsV RX1 72 RX1 yX1_isHymn wsX1_isHymn) := goodIn_app (goodIn_of _ (by decide +kernel)) ggX1_pageOf_X1_isHymn
set_option maxRecDepth 20000 in
theorem ggX1_pageOf_X1_isIn : GoodIn wsX1_pageOf wsX1_isIn := goodIn_r _ [11] (by decide +kernel) (by decide +kernel)
set_option maxRecDepth 20000 in
theorem gX1_pageOf_X1_isIn : GoodIn wsX1_pageOf (va_wsS RX1 60 yX1_isIn wsX1_isIn) := goodIn_app (goodIn_of _ (by decide +kernel)) ggX1_pageOf_X1_isIn
set_option maxRecDepth 20000 in
theorem ggX1_pageOf_X1_nextPage : GoodIn wsX1_pageOf wsX1_nextPage := goodIn_r _ [15, 1, 16, 17, 18, 6, 19, 20, 21, 22, 23, 24, 25, 26, 27, 28, 29, 30, 31, 32, 33, 34, 35, 36, 37, 38, 39] (by decide +kernel) (by decide +kernel)
set_option maxRecDepth 20000 in
theorem gX1_pageOf_X1_nextPage : GoodIn wsX1_pageOf (wsV RX1 68 RX1 yX1_nextPage wsX1_nextPage) := goodIn_app (goodIn_of _ (by decide +kernel)) ggX1_pageOf_X1_nextPage
theorem dX1_pageOf_0 : decode cX1_pageOf 0 = .ok (.aload_n 0, 1) := by decide +kernel
theorem dX1_pageOf_1 : decode cX1_pageOf 1 = .ok (.aload_n 0, 1) := by decide +kernel
theorem dX1_pageOf_2 : decode cX1_pageOf 2 = .ok (.iload_n 1, 1) := by decide +kernel
theorem dX1_pageOf_3 : decode cX1_pageOf 3 = .ok (.invokevirtual 72, 3) := by decide +kernel
theorem dX1_pageOf_6 : decode cX1_pageOf 6 = .ok (.ifCond .eq 35, 3) := by decide +kernel
theorem dX1_pageOf_9 : decode cX1_pageOf 9 = .ok (.iload_n 2, 1) := by decide +kernel
theorem dX1_pageOf_10 : decode cX1_pageOf 10 = .ok (.iconst 0, 1) := by decide +kernel
theorem dX1_pageOf_11 : decode cX1_pageOf 11 = .ok (.aload_n 0, 1) := by decide +kernel
theorem dX1_pageOf_12 : decode cX1_pageOf 12 = .ok (.getfield 16, 3) := by decide +kernel
theorem dX1_pageOf_15 : decode cX1_pageOf 15 = .ok (.aload_n 0, 1) := by decide +kernel
theorem dX1_pageOf_16 : decode cX1_pageOf 16 = .ok (.iload_n 1, 1) := by decide +kernel
theorem dX1_pageOf_17 : decode cX1_pageOf 17 = .ok (.invokevirtual 72, 3) := by decide +kernel
theorem dX1_pageOf_20 : decode cX1_pageOf 20 = .ok (.ifCond .eq 7, 3) := by decide +kernel
theorem dX1_pageOf_23 : decode cX1_pageOf 23 = .ok (.iload_n 1, 1) := by decide +kernel
theorem dX1_pageOf_24 : decode cX1_pageOf 24 = .ok (.goto 4, 3) := by decide +kernel
theorem dX1_pageOf_27 : decode cX1_pageOf 27 = .ok (.iconst 0, 1) := by decide +kernel
theorem dX1_pageOf_28 : decode cX1_pageOf 28 = .ok (.iaload, 1) := by decide +kernel
theorem dX1_pageOf_29 : decode cX1_pageOf 29 = .ok (.iconst 1, 1) := by decide +kernel
theorem dX1_pageOf_30 : decode cX1_pageOf 30 = .ok (.isub, 1) := by decide +kernel
theorem dX1_pageOf_31 : decode cX1_pageOf 31 = .ok (.invokestatic 60, 3) := by decide +kernel
theorem dX1_pageOf_34 : decode cX1_pageOf 34 = .ok (.ifCond .eq 7, 3) := by decide +kernel
theorem dX1_pageOf_37 : decode cX1_pageOf 37 = .ok (.iconst 0, 1) := by decide +kernel
theorem dX1_pageOf_38 : decode cX1_pageOf 38 = .ok (.goto 4, 3) := by decide +kernel
theorem dX1_pageOf_41 : decode cX1_pageOf 41 = .ok (.iconst 1, 1) := by decide +kernel
theorem dX1_pageOf_42 : decode cX1_pageOf 42 = .ok (.putfield 53, 3) := by decide +kernel
theorem dX1_pageOf_45 : decode cX1_pageOf 45 = .ok (.iconst (-1), 1) := by decide +kernel
theorem dX1_pageOf_46 : decode cX1_pageOf 46 = .ok (.istore_n 3, 1) := by decide +kernel
theorem dX1_pageOf_47 : decode cX1_pageOf 47 = .ok (.iconst 0, 1) := by decide +kernel
theorem dX1_pageOf_48 : decode cX1_pageOf 48 = .ok (.istore 4, 2) := by decide +kernel
theorem dX1_pageOf_50 : decode cX1_pageOf 50 = .ok (.aload_n 0, 1) := by decide +kernel
theorem dX1_pageOf_51 : decode cX1_pageOf 51 = .ok (.getfield 53, 3) := by decide +kernel
theorem dX1_pageOf_54 : decode cX1_pageOf 54 = .ok (.ifCond .ne 24, 3) := by decide +kernel
theorem dX1_pageOf_57 : decode cX1_pageOf 57 = .ok (.iload 4, 2) := by decide +kernel
theorem dX1_pageOf_59 : decode cX1_pageOf 59 = .ok (.iload_n 2, 1) := by decide +kernel
theorem dX1_pageOf_60 : decode cX1_pageOf 60 = .ok (.if_icmp .gt 18, 3) := by decide +kernel
theorem dX1_pageOf_63 : decode cX1_pageOf 63 = .ok (.iinc 3 1, 3) := by decide +kernel
theorem dX1_pageOf_66 : decode cX1_pageOf 66 = .ok (.aload_n 0, 1) := by decide +kernel
theorem dX1_pageOf_67 : decode cX1_pageOf 67 = .ok (.iload_n 1, 1) := by decide +kernel
theorem dX1_pageOf_68 : decode cX1_pageOf 68 = .ok (.iload 4, 2) := by decide +kernel
theorem dX1_pageOf_70 : decode cX1_pageOf 70 = .ok (.invokevirtual 68, 3) := by decide +kernel
theorem dX1_pageOf_73 : decode cX1_pageOf 73 = .ok (.istore 4, 2) := by decide +kernel
theorem dX1_pageOf_75 : decode cX1_pageOf 75 = .ok (.goto (-25), 3) := by decide +kernel
theorem dX1_pageOf_78 : decode cX1_pageOf 78 = .ok (.iload_n 3, 1) := by decide +kernel
theorem dX1_pageOf_79 : decode cX1_pageOf 79 = .ok (.ireturn, 1) := by decide +kernel
set_option maxRecDepth 20000 in
theorem ggX1_badTurns_X1_isHymn : GoodIn wsX1_badTurns wsX1_isHymn := goodIn_r _ [7, 8, 9, 10, 6, 11, 21, 22, 23, 24, 25, 26, 27, 28, 29, 30, 31, 32, 33, 34, 35, 36, 37, 38, 39] (by decide +kernel) (by decide +kernel)
set_option maxRecDepth 20000 in
theorem gX1_badTurns_X1_isHymn : GoodIn wsX1_badTurns (wsV RX1 72 RX1 yX1_isHymn wsX1_isHymn) := goodIn_app (goodIn_of _ (by decide +kernel)) ggX1_badTurns_X1_isHymn
set_option maxRecDepth 20000 in
theorem ggX1_badTurns_X1_nextPage : GoodIn wsX1_badTurns wsX1_nextPage := goodIn_r _ [15, 2, 16, 17, 18, 6, 19, 20, 21, 22, 23, 24, 25, 26, 27, 28, 29, 30, 31, 32, 33, 34, 35, 36, 37, 38, 39] (by decide +kernel) (by decide +kernel)
set_option maxRecDepth 20000 in
theorem gX1_badTurns_X1_nextPage : GoodIn wsX1_badTurns (wsV RX1 68 RX1 yX1_nextPage wsX1_nextPage) := goodIn_app (goodIn_of _ (by decide +kernel)) ggX1_badTurns_X1_nextPage
set_option maxRecDepth 20000 in
theorem ggX1_badTurns_X1_hasRest : GoodIn wsX1_badTurns wsX1_hasRest := goodIn_r _ [19, 20, 21, 22, 23, 24, 25, 26, 27, 28, 29, 30, 31, 32, 33, 34, 35, 36, 37, 38, 39] (by decide +kernel) (by decide +kernel)
set_option maxRecDepth 20000 in
theorem gX1_badTurns_X1_hasRest : GoodIn wsX1_badTurns (wsV RX1 64 RX1 yX1_hasRest wsX1_hasRest) := goodIn_app (goodIn_of _ (by decide +kernel)) ggX1_badTurns_X1_hasRest
theorem dX1_badTurns_0 : decode cX1_badTurns 0 = .ok (.aload_n 0, 1) := by decide +kernel
theorem dX1_badTurns_1 : decode cX1_badTurns 1 = .ok (.aload_n 0, 1) := by decide +kernel
theorem dX1_badTurns_2 : decode cX1_badTurns 2 = .ok (.iload_n 1, 1) := by decide +kernel
theorem dX1_badTurns_3 : decode cX1_badTurns 3 = .ok (.invokevirtual 72, 3) := by decide +kernel
theorem dX1_badTurns_6 : decode cX1_badTurns 6 = .ok (.ifCond .eq 7, 3) := by decide +kernel
theorem dX1_badTurns_9 : decode cX1_badTurns 9 = .ok (.iconst 0, 1) := by decide +kernel
theorem dX1_badTurns_10 : decode cX1_badTurns 10 = .ok (.goto 4, 3) := by decide +kernel
theorem dX1_badTurns_13 : decode cX1_badTurns 13 = .ok (.iconst 1, 1) := by decide +kernel
theorem dX1_badTurns_14 : decode cX1_badTurns 14 = .ok (.putfield 53, 3) := by decide +kernel
theorem dX1_badTurns_17 : decode cX1_badTurns 17 = .ok (.iconst 0, 1) := by decide +kernel
theorem dX1_badTurns_18 : decode cX1_badTurns 18 = .ok (.istore_n 2, 1) := by decide +kernel
theorem dX1_badTurns_19 : decode cX1_badTurns 19 = .ok (.iconst 0, 1) := by decide +kernel
theorem dX1_badTurns_20 : decode cX1_badTurns 20 = .ok (.istore_n 3, 1) := by decide +kernel
theorem dX1_badTurns_21 : decode cX1_badTurns 21 = .ok (.aload_n 0, 1) := by decide +kernel
theorem dX1_badTurns_22 : decode cX1_badTurns 22 = .ok (.getfield 53, 3) := by decide +kernel
theorem dX1_badTurns_25 : decode cX1_badTurns 25 = .ok (.ifCond .ne 62, 3) := by decide +kernel
theorem dX1_badTurns_28 : decode cX1_badTurns 28 = .ok (.iload_n 3, 1) := by decide +kernel
theorem dX1_badTurns_29 : decode cX1_badTurns 29 = .ok (.aload_n 0, 1) := by decide +kernel
theorem dX1_badTurns_30 : decode cX1_badTurns 30 = .ok (.getfield 16, 3) := by decide +kernel
theorem dX1_badTurns_33 : decode cX1_badTurns 33 = .ok (.iload_n 1, 1) := by decide +kernel
theorem dX1_badTurns_34 : decode cX1_badTurns 34 = .ok (.iaload, 1) := by decide +kernel
theorem dX1_badTurns_35 : decode cX1_badTurns 35 = .ok (.if_icmp .ge 52, 3) := by decide +kernel
theorem dX1_badTurns_38 : decode cX1_badTurns 38 = .ok (.aload_n 0, 1) := by decide +kernel
theorem dX1_badTurns_39 : decode cX1_badTurns 39 = .ok (.iload_n 1, 1) := by decide +kernel
theorem dX1_badTurns_40 : decode cX1_badTurns 40 = .ok (.iload_n 3, 1) := by decide +kernel
theorem dX1_badTurns_41 : decode cX1_badTurns 41 = .ok (.invokevirtual 68, 3) := by decide +kernel
theorem dX1_badTurns_44 : decode cX1_badTurns 44 = .ok (.istore 4, 2) := by decide +kernel
theorem dX1_badTurns_46 : decode cX1_badTurns 46 = .ok (.iload_n 2, 1) := by decide +kernel
theorem dX1_badTurns_47 : decode cX1_badTurns 47 = .ok (.iload 4, 2) := by decide +kernel
theorem dX1_badTurns_49 : decode cX1_badTurns 49 = .ok (.aload_n 0, 1) := by decide +kernel
theorem dX1_badTurns_50 : decode cX1_badTurns 50 = .ok (.getfield 16, 3) := by decide +kernel
theorem dX1_badTurns_53 : decode cX1_badTurns 53 = .ok (.iload_n 1, 1) := by decide +kernel
theorem dX1_badTurns_54 : decode cX1_badTurns 54 = .ok (.iaload, 1) := by decide +kernel
theorem dX1_badTurns_55 : decode cX1_badTurns 55 = .ok (.if_icmp .ge 19, 3) := by decide +kernel
theorem dX1_badTurns_58 : decode cX1_badTurns 58 = .ok (.aload_n 0, 1) := by decide +kernel
theorem dX1_badTurns_59 : decode cX1_badTurns 59 = .ok (.iload_n 1, 1) := by decide +kernel
theorem dX1_badTurns_60 : decode cX1_badTurns 60 = .ok (.iload 4, 2) := by decide +kernel
theorem dX1_badTurns_62 : decode cX1_badTurns 62 = .ok (.iconst 1, 1) := by decide +kernel
theorem dX1_badTurns_63 : decode cX1_badTurns 63 = .ok (.isub, 1) := by decide +kernel
theorem dX1_badTurns_64 : decode cX1_badTurns 64 = .ok (.invokevirtual 64, 3) := by decide +kernel
theorem dX1_badTurns_67 : decode cX1_badTurns 67 = .ok (.ifCond .ne 7, 3) := by decide +kernel
theorem dX1_badTurns_70 : decode cX1_badTurns 70 = .ok (.iconst 1, 1) := by decide +kernel
theorem dX1_badTurns_71 : decode cX1_badTurns 71 = .ok (.goto 4, 3) := by decide +kernel
theorem dX1_badTurns_74 : decode cX1_badTurns 74 = .ok (.iconst 0, 1) := by decide +kernel
theorem dX1_badTurns_75 : decode cX1_badTurns 75 = .ok (.iadd, 1) := by decide +kernel
theorem dX1_badTurns_76 : decode cX1_badTurns 76 = .ok (.istore_n 2, 1) := by decide +kernel
theorem dX1_badTurns_77 : decode cX1_badTurns 77 = .ok (.aload_n 0, 1) := by decide +kernel
theorem dX1_badTurns_78 : decode cX1_badTurns 78 = .ok (.iload_n 1, 1) := by decide +kernel
theorem dX1_badTurns_79 : decode cX1_badTurns 79 = .ok (.iload_n 3, 1) := by decide +kernel
theorem dX1_badTurns_80 : decode cX1_badTurns 80 = .ok (.invokevirtual 68, 3) := by decide +kernel
theorem dX1_badTurns_83 : decode cX1_badTurns 83 = .ok (.istore_n 3, 1) := by decide +kernel
theorem dX1_badTurns_84 : decode cX1_badTurns 84 = .ok (.goto (-63), 3) := by decide +kernel
theorem dX1_badTurns_87 : decode cX1_badTurns 87 = .ok (.iload_n 2, 1) := by decide +kernel
theorem dX1_badTurns_88 : decode cX1_badTurns 88 = .ok (.ireturn, 1) := by decide +kernel
set_option maxRecDepth 20000 in
theorem ggX1_right_X1_isHymn : GoodIn wsX1_right wsX1_isHymn := goodIn_r _ [11, 12, 13, 14, 10, 15, 22, 23, 24, 25, 26, 27, 28, 29, 30, 31, 32, 33, 34, 35, 36, 37, 38, 39, 40] (by decide +kernel) (by decide +kernel)
set_option maxRecDepth 20000 in
theorem gX1_right_X1_isHymn : GoodIn wsX1_right (wsV RX1 72 RX1 yX1_isHymn wsX1_isHymn) := goodIn_app (goodIn_of _ (by decide +kernel)) ggX1_right_X1_isHymn
set_option maxRecDepth 20000 in
theorem ggX1_right_X1_isUse : GoodIn wsX1_right wsX1_isUse := goodIn_r _ [18, 13, 14, 10, 15] (by decide +kernel) (by decide +kernel)
set_option maxRecDepth 20000 in
theorem gX1_right_X1_isUse : GoodIn wsX1_right (va_wsS RX1 80 yX1_isUse wsX1_isUse) := goodIn_app (goodIn_of _ (by decide +kernel)) ggX1_right_X1_isUse
set_option maxRecDepth 20000 in
theorem ggX1_right_X1_isDay : GoodIn wsX1_right wsX1_isDay := goodIn_r _ [21, 13, 14, 10, 15] (by decide +kernel) (by decide +kernel)
set_option maxRecDepth 20000 in
theorem gX1_right_X1_isDay : GoodIn wsX1_right (va_wsS RX1 83 yX1_isDay wsX1_isDay) := goodIn_app (goodIn_of _ (by decide +kernel)) ggX1_right_X1_isDay
set_option maxRecDepth 20000 in
theorem ggX1_right_X1_isIn : GoodIn wsX1_right wsX1_isIn := goodIn_r _ [15] (by decide +kernel) (by decide +kernel)
set_option maxRecDepth 20000 in
theorem gX1_right_X1_isIn : GoodIn wsX1_right (va_wsS RX1 60 yX1_isIn wsX1_isIn) := goodIn_app (goodIn_of _ (by decide +kernel)) ggX1_right_X1_isIn
theorem dX1_right_0 : decode cX1_right 0 = .ok (.aload_n 0, 1) := by decide +kernel
theorem dX1_right_1 : decode cX1_right 1 = .ok (.aload_n 0, 1) := by decide +kernel
theorem dX1_right_2 : decode cX1_right 2 = .ok (.iload_n 1, 1) := by decide +kernel
theorem dX1_right_3 : decode cX1_right 3 = .ok (.invokevirtual 72, 3) := by decide +kernel
theorem dX1_right_6 : decode cX1_right 6 = .ok (.ifCond .eq 10, 3) := by decide +kernel
theorem dX1_right_9 : decode cX1_right 9 = .ok (.iload_n 2, 1) := by decide +kernel
theorem dX1_right_10 : decode cX1_right 10 = .ok (.invokestatic 80, 3) := by decide +kernel
theorem dX1_right_13 : decode cX1_right 13 = .ok (.ifCond .ne 7, 3) := by decide +kernel
theorem dX1_right_16 : decode cX1_right 16 = .ok (.iconst 1, 1) := by decide +kernel
theorem dX1_right_17 : decode cX1_right 17 = .ok (.goto 40, 3) := by decide +kernel
theorem dX1_right_20 : decode cX1_right 20 = .ok (.iload_n 3, 1) := by decide +kernel
theorem dX1_right_21 : decode cX1_right 21 = .ok (.invokestatic 83, 3) := by decide +kernel
theorem dX1_right_24 : decode cX1_right 24 = .ok (.ifCond .eq 15, 3) := by decide +kernel
theorem dX1_right_27 : decode cX1_right 27 = .ok (.iload 4, 2) := by decide +kernel
theorem dX1_right_29 : decode cX1_right 29 = .ok (.iload_n 3, 1) := by decide +kernel
theorem dX1_right_30 : decode cX1_right 30 = .ok (.sipush 1459, 3) := by decide +kernel
theorem dX1_right_33 : decode cX1_right 33 = .ok (.invokestatic 60, 3) := by decide +kernel
theorem dX1_right_36 : decode cX1_right 36 = .ok (.ifCond .ne 7, 3) := by decide +kernel
theorem dX1_right_39 : decode cX1_right 39 = .ok (.iconst 2, 1) := by decide +kernel
theorem dX1_right_40 : decode cX1_right 40 = .ok (.goto 17, 3) := by decide +kernel
theorem dX1_right_43 : decode cX1_right 43 = .ok (.aload_n 0, 1) := by decide +kernel
theorem dX1_right_44 : decode cX1_right 44 = .ok (.getfield 86, 3) := by decide +kernel
theorem dX1_right_47 : decode cX1_right 47 = .ok (.bipush 40, 2) := by decide +kernel
theorem dX1_right_49 : decode cX1_right 49 = .ok (.if_icmp .ne 7, 3) := by decide +kernel
theorem dX1_right_52 : decode cX1_right 52 = .ok (.iconst 3, 1) := by decide +kernel
theorem dX1_right_53 : decode cX1_right 53 = .ok (.goto 4, 3) := by decide +kernel
theorem dX1_right_56 : decode cX1_right 56 = .ok (.iconst 0, 1) := by decide +kernel
theorem dX1_right_57 : decode cX1_right 57 = .ok (.putfield 53, 3) := by decide +kernel
theorem dX1_right_60 : decode cX1_right 60 = .ok (.aload_n 0, 1) := by decide +kernel
theorem dX1_right_61 : decode cX1_right 61 = .ok (.getfield 53, 3) := by decide +kernel
theorem dX1_right_64 : decode cX1_right 64 = .ok (.ifCond .le 5, 3) := by decide +kernel
theorem dX1_right_67 : decode cX1_right 67 = .ok (.iconst 0, 1) := by decide +kernel
theorem dX1_right_68 : decode cX1_right 68 = .ok (.ireturn, 1) := by decide +kernel
theorem dX1_right_69 : decode cX1_right 69 = .ok (.aload_n 0, 1) := by decide +kernel
theorem dX1_right_70 : decode cX1_right 70 = .ok (.getfield 25, 3) := by decide +kernel
theorem dX1_right_73 : decode cX1_right 73 = .ok (.aload_n 0, 1) := by decide +kernel
theorem dX1_right_74 : decode cX1_right 74 = .ok (.getfield 86, 3) := by decide +kernel
theorem dX1_right_77 : decode cX1_right 77 = .ok (.iload_n 1, 1) := by decide +kernel
theorem dX1_right_78 : decode cX1_right 78 = .ok (.iastore, 1) := by decide +kernel
theorem dX1_right_79 : decode cX1_right 79 = .ok (.aload_n 0, 1) := by decide +kernel
theorem dX1_right_80 : decode cX1_right 80 = .ok (.getfield 28, 3) := by decide +kernel
theorem dX1_right_83 : decode cX1_right 83 = .ok (.aload_n 0, 1) := by decide +kernel
theorem dX1_right_84 : decode cX1_right 84 = .ok (.getfield 86, 3) := by decide +kernel
theorem dX1_right_87 : decode cX1_right 87 = .ok (.iload_n 2, 1) := by decide +kernel
theorem dX1_right_88 : decode cX1_right 88 = .ok (.iastore, 1) := by decide +kernel
theorem dX1_right_89 : decode cX1_right 89 = .ok (.aload_n 0, 1) := by decide +kernel
theorem dX1_right_90 : decode cX1_right 90 = .ok (.getfield 31, 3) := by decide +kernel
theorem dX1_right_93 : decode cX1_right 93 = .ok (.aload_n 0, 1) := by decide +kernel
theorem dX1_right_94 : decode cX1_right 94 = .ok (.getfield 86, 3) := by decide +kernel
theorem dX1_right_97 : decode cX1_right 97 = .ok (.iload_n 3, 1) := by decide +kernel
theorem dX1_right_98 : decode cX1_right 98 = .ok (.iastore, 1) := by decide +kernel
theorem dX1_right_99 : decode cX1_right 99 = .ok (.aload_n 0, 1) := by decide +kernel
theorem dX1_right_100 : decode cX1_right 100 = .ok (.getfield 34, 3) := by decide +kernel
theorem dX1_right_103 : decode cX1_right 103 = .ok (.aload_n 0, 1) := by decide +kernel
theorem dX1_right_104 : decode cX1_right 104 = .ok (.getfield 86, 3) := by decide +kernel
theorem dX1_right_107 : decode cX1_right 107 = .ok (.iload 4, 2) := by decide +kernel
theorem dX1_right_109 : decode cX1_right 109 = .ok (.iastore, 1) := by decide +kernel
theorem dX1_right_110 : decode cX1_right 110 = .ok (.aload_n 0, 1) := by decide +kernel
theorem dX1_right_111 : decode cX1_right 111 = .ok (.dup, 1) := by decide +kernel
theorem dX1_right_112 : decode cX1_right 112 = .ok (.getfield 86, 3) := by decide +kernel
theorem dX1_right_115 : decode cX1_right 115 = .ok (.iconst 1, 1) := by decide +kernel
theorem dX1_right_116 : decode cX1_right 116 = .ok (.iadd, 1) := by decide +kernel
theorem dX1_right_117 : decode cX1_right 117 = .ok (.putfield 86, 3) := by decide +kernel
theorem dX1_right_120 : decode cX1_right 120 = .ok (.aload_n 0, 1) := by decide +kernel
theorem dX1_right_121 : decode cX1_right 121 = .ok (.getfield 86, 3) := by decide +kernel
theorem dX1_right_124 : decode cX1_right 124 = .ok (.iconst 1, 1) := by decide +kernel
theorem dX1_right_125 : decode cX1_right 125 = .ok (.isub, 1) := by decide +kernel
theorem dX1_right_126 : decode cX1_right 126 = .ok (.ireturn, 1) := by decide +kernel
set_option maxRecDepth 20000 in
theorem ggX1_may_X1_isIn : GoodIn wsX1_may wsX1_isIn := goodIn_r _ [9] (by decide +kernel) (by decide +kernel)
set_option maxRecDepth 20000 in
theorem gX1_may_X1_isIn : GoodIn wsX1_may (va_wsS RX1 60 yX1_isIn wsX1_isIn) := goodIn_app (goodIn_of _ (by decide +kernel)) ggX1_may_X1_isIn
theorem dX1_may_0 : decode cX1_may 0 = .ok (.iconst 0, 1) := by decide +kernel
theorem dX1_may_1 : decode cX1_may 1 = .ok (.istore 4, 2) := by decide +kernel
theorem dX1_may_3 : decode cX1_may 3 = .ok (.iconst 0, 1) := by decide +kernel
theorem dX1_may_4 : decode cX1_may 4 = .ok (.istore 5, 2) := by decide +kernel
theorem dX1_may_6 : decode cX1_may 6 = .ok (.iload 5, 2) := by decide +kernel
theorem dX1_may_8 : decode cX1_may 8 = .ok (.aload_n 0, 1) := by decide +kernel
theorem dX1_may_9 : decode cX1_may 9 = .ok (.getfield 86, 3) := by decide +kernel
theorem dX1_may_12 : decode cX1_may 12 = .ok (.if_icmp .ge 64, 3) := by decide +kernel
theorem dX1_may_15 : decode cX1_may 15 = .ok (.iload 4, 2) := by decide +kernel
theorem dX1_may_17 : decode cX1_may 17 = .ok (.ifCond .ne 46, 3) := by decide +kernel
theorem dX1_may_20 : decode cX1_may 20 = .ok (.aload_n 0, 1) := by decide +kernel
theorem dX1_may_21 : decode cX1_may 21 = .ok (.getfield 25, 3) := by decide +kernel
theorem dX1_may_24 : decode cX1_may 24 = .ok (.iload 5, 2) := by decide +kernel
theorem dX1_may_26 : decode cX1_may 26 = .ok (.iaload, 1) := by decide +kernel
theorem dX1_may_27 : decode cX1_may 27 = .ok (.iload_n 1, 1) := by decide +kernel
theorem dX1_may_28 : decode cX1_may 28 = .ok (.if_icmp .ne 39, 3) := by decide +kernel
theorem dX1_may_31 : decode cX1_may 31 = .ok (.aload_n 0, 1) := by decide +kernel
theorem dX1_may_32 : decode cX1_may 32 = .ok (.getfield 28, 3) := by decide +kernel
theorem dX1_may_35 : decode cX1_may 35 = .ok (.iload 5, 2) := by decide +kernel
theorem dX1_may_37 : decode cX1_may 37 = .ok (.iaload, 1) := by decide +kernel
theorem dX1_may_38 : decode cX1_may 38 = .ok (.iload_n 2, 1) := by decide +kernel
theorem dX1_may_39 : decode cX1_may 39 = .ok (.if_icmp .ne 28, 3) := by decide +kernel
theorem dX1_may_42 : decode cX1_may 42 = .ok (.iload_n 3, 1) := by decide +kernel
theorem dX1_may_43 : decode cX1_may 43 = .ok (.aload_n 0, 1) := by decide +kernel
theorem dX1_may_44 : decode cX1_may 44 = .ok (.getfield 31, 3) := by decide +kernel
theorem dX1_may_47 : decode cX1_may 47 = .ok (.iload 5, 2) := by decide +kernel
theorem dX1_may_49 : decode cX1_may 49 = .ok (.iaload, 1) := by decide +kernel
theorem dX1_may_50 : decode cX1_may 50 = .ok (.aload_n 0, 1) := by decide +kernel
theorem dX1_may_51 : decode cX1_may 51 = .ok (.getfield 34, 3) := by decide +kernel
theorem dX1_may_54 : decode cX1_may 54 = .ok (.iload 5, 2) := by decide +kernel
theorem dX1_may_56 : decode cX1_may 56 = .ok (.iaload, 1) := by decide +kernel
theorem dX1_may_57 : decode cX1_may 57 = .ok (.invokestatic 60, 3) := by decide +kernel
theorem dX1_may_60 : decode cX1_may 60 = .ok (.ifCond .eq 7, 3) := by decide +kernel
theorem dX1_may_63 : decode cX1_may 63 = .ok (.iconst 1, 1) := by decide +kernel
theorem dX1_may_64 : decode cX1_may 64 = .ok (.goto 4, 3) := by decide +kernel
theorem dX1_may_67 : decode cX1_may 67 = .ok (.iconst 0, 1) := by decide +kernel
theorem dX1_may_68 : decode cX1_may 68 = .ok (.istore 4, 2) := by decide +kernel
theorem dX1_may_70 : decode cX1_may 70 = .ok (.iinc 5 1, 3) := by decide +kernel
theorem dX1_may_73 : decode cX1_may 73 = .ok (.goto (-67), 3) := by decide +kernel
theorem dX1_may_76 : decode cX1_may 76 = .ok (.iload 4, 2) := by decide +kernel
theorem dX1_may_78 : decode cX1_may 78 = .ok (.ireturn, 1) := by decide +kernel
set_option maxRecDepth 20000 in
theorem ggX1_end_X1_isIn : GoodIn wsX1_end wsX1_isIn := goodIn_r _ [12] (by decide +kernel) (by decide +kernel)
set_option maxRecDepth 20000 in
theorem gX1_end_X1_isIn : GoodIn wsX1_end (va_wsS RX1 60 yX1_isIn wsX1_isIn) := goodIn_app (goodIn_of _ (by decide +kernel)) ggX1_end_X1_isIn
set_option maxRecDepth 20000 in
theorem ggX1_end_X1_may : GoodIn wsX1_end wsX1_may := goodIn_r _ [16, 1, 17, 18, 19, 4, 9, 10, 11, 12, 36, 37, 38, 39, 40, 41, 42, 43, 44, 45, 46, 47, 48, 49, 50, 51, 52, 53, 54] (by decide +kernel) (by decide +kernel)
set_option maxRecDepth 20000 in
theorem gX1_end_X1_may : GoodIn wsX1_end (wsV RX1 95 RX1 yX1_may wsX1_may) := goodIn_app (goodIn_of _ (by decide +kernel)) ggX1_end_X1_may
set_option maxRecDepth 20000 in
theorem ggX1_end_X1_plans : GoodIn wsX1_end wsX1_plans := goodIn_r _ [23, 7, 8, 24, 25, 26, 27, 13, 14, 15, 11, 16, 1, 17, 18, 19, 4, 9, 10, 12, 28, 29, 30, 31, 5, 32, 33, 34, 35, 36, 37, 38, 39, 40, 41, 42, 43, 44, 45, 46, 47, 48, 49, 50, 51, 52, 53, 54] (by decide +kernel) (by decide +kernel)
set_option maxRecDepth 20000 in
theorem gX1_end_X1_plans : GoodIn wsX1_end (wsV RX1 98 RX1 yX1_plans wsX1_plans) := goodIn_app (goodIn_of _ (by decide +kernel)) ggX1_end_X1_plans
theorem dX1_end_0 : decode cX1_end 0 = .ok (.aload_n 0, 1) := by decide +kernel
theorem dX1_end_1 : decode cX1_end 1 = .ok (.iload_n 1, 1) := by decide +kernel
theorem dX1_end_2 : decode cX1_end 2 = .ok (.iconst 0, 1) := by decide +kernel
theorem dX1_end_3 : decode cX1_end 3 = .ok (.aload_n 0, 1) := by decide +kernel
theorem dX1_end_4 : decode cX1_end 4 = .ok (.getfield 86, 3) := by decide +kernel
theorem dX1_end_7 : decode cX1_end 7 = .ok (.iconst 1, 1) := by decide +kernel
theorem dX1_end_8 : decode cX1_end 8 = .ok (.isub, 1) := by decide +kernel
theorem dX1_end_9 : decode cX1_end 9 = .ok (.invokestatic 60, 3) := by decide +kernel
theorem dX1_end_12 : decode cX1_end 12 = .ok (.ifCond .eq 7, 3) := by decide +kernel
theorem dX1_end_15 : decode cX1_end 15 = .ok (.iconst 0, 1) := by decide +kernel
theorem dX1_end_16 : decode cX1_end 16 = .ok (.goto 4, 3) := by decide +kernel
theorem dX1_end_19 : decode cX1_end 19 = .ok (.iconst 1, 1) := by decide +kernel
theorem dX1_end_20 : decode cX1_end 20 = .ok (.putfield 53, 3) := by decide +kernel
theorem dX1_end_23 : decode cX1_end 23 = .ok (.aload_n 0, 1) := by decide +kernel
theorem dX1_end_24 : decode cX1_end 24 = .ok (.getfield 53, 3) := by decide +kernel
theorem dX1_end_27 : decode cX1_end 27 = .ok (.ifCond .le 5, 3) := by decide +kernel
theorem dX1_end_30 : decode cX1_end 30 = .ok (.iconst 0, 1) := by decide +kernel
theorem dX1_end_31 : decode cX1_end 31 = .ok (.ireturn, 1) := by decide +kernel
theorem dX1_end_32 : decode cX1_end 32 = .ok (.aload_n 0, 1) := by decide +kernel
theorem dX1_end_33 : decode cX1_end 33 = .ok (.iload_n 2, 1) := by decide +kernel
theorem dX1_end_34 : decode cX1_end 34 = .ok (.aload_n 0, 1) := by decide +kernel
theorem dX1_end_35 : decode cX1_end 35 = .ok (.getfield 89, 3) := by decide +kernel
theorem dX1_end_38 : decode cX1_end 38 = .ok (.iconst 1, 1) := by decide +kernel
theorem dX1_end_39 : decode cX1_end 39 = .ok (.isub, 1) := by decide +kernel
theorem dX1_end_40 : decode cX1_end 40 = .ok (.sipush 1459, 3) := by decide +kernel
theorem dX1_end_43 : decode cX1_end 43 = .ok (.invokestatic 60, 3) := by decide +kernel
theorem dX1_end_46 : decode cX1_end 46 = .ok (.ifCond .ne 7, 3) := by decide +kernel
theorem dX1_end_49 : decode cX1_end 49 = .ok (.iconst 2, 1) := by decide +kernel
theorem dX1_end_50 : decode cX1_end 50 = .ok (.goto 18, 3) := by decide +kernel
theorem dX1_end_53 : decode cX1_end 53 = .ok (.aload_n 0, 1) := by decide +kernel
theorem dX1_end_54 : decode cX1_end 54 = .ok (.getfield 34, 3) := by decide +kernel
theorem dX1_end_57 : decode cX1_end 57 = .ok (.iload_n 1, 1) := by decide +kernel
theorem dX1_end_58 : decode cX1_end 58 = .ok (.iaload, 1) := by decide +kernel
theorem dX1_end_59 : decode cX1_end 59 = .ok (.iload_n 2, 1) := by decide +kernel
theorem dX1_end_60 : decode cX1_end 60 = .ok (.if_icmp .gt 7, 3) := by decide +kernel
theorem dX1_end_63 : decode cX1_end 63 = .ok (.iconst 3, 1) := by decide +kernel
theorem dX1_end_64 : decode cX1_end 64 = .ok (.goto 4, 3) := by decide +kernel
theorem dX1_end_67 : decode cX1_end 67 = .ok (.iconst 0, 1) := by decide +kernel
theorem dX1_end_68 : decode cX1_end 68 = .ok (.putfield 53, 3) := by decide +kernel
theorem dX1_end_71 : decode cX1_end 71 = .ok (.aload_n 0, 1) := by decide +kernel
theorem dX1_end_72 : decode cX1_end 72 = .ok (.getfield 53, 3) := by decide +kernel
theorem dX1_end_75 : decode cX1_end 75 = .ok (.ifCond .le 5, 3) := by decide +kernel
theorem dX1_end_78 : decode cX1_end 78 = .ok (.iconst 0, 1) := by decide +kernel
theorem dX1_end_79 : decode cX1_end 79 = .ok (.ireturn, 1) := by decide +kernel
theorem dX1_end_80 : decode cX1_end 80 = .ok (.aload_n 0, 1) := by decide +kernel
theorem dX1_end_81 : decode cX1_end 81 = .ok (.getfield 34, 3) := by decide +kernel
theorem dX1_end_84 : decode cX1_end 84 = .ok (.iload_n 1, 1) := by decide +kernel
theorem dX1_end_85 : decode cX1_end 85 = .ok (.iload_n 2, 1) := by decide +kernel
theorem dX1_end_86 : decode cX1_end 86 = .ok (.iastore, 1) := by decide +kernel
theorem dX1_end_87 : decode cX1_end 87 = .ok (.iconst 0, 1) := by decide +kernel
theorem dX1_end_88 : decode cX1_end 88 = .ok (.istore_n 3, 1) := by decide +kernel
theorem dX1_end_89 : decode cX1_end 89 = .ok (.iconst 0, 1) := by decide +kernel
theorem dX1_end_90 : decode cX1_end 90 = .ok (.istore 4, 2) := by decide +kernel
theorem dX1_end_92 : decode cX1_end 92 = .ok (.iload 4, 2) := by decide +kernel
theorem dX1_end_94 : decode cX1_end 94 = .ok (.aload_n 0, 1) := by decide +kernel
theorem dX1_end_95 : decode cX1_end 95 = .ok (.getfield 92, 3) := by decide +kernel
theorem dX1_end_98 : decode cX1_end 98 = .ok (.if_icmp .ge 86, 3) := by decide +kernel
theorem dX1_end_101 : decode cX1_end 101 = .ok (.aload_n 0, 1) := by decide +kernel
theorem dX1_end_102 : decode cX1_end 102 = .ok (.getfield 49, 3) := by decide +kernel
theorem dX1_end_105 : decode cX1_end 105 = .ok (.iload 4, 2) := by decide +kernel
theorem dX1_end_107 : decode cX1_end 107 = .ok (.aload_n 0, 1) := by decide +kernel
theorem dX1_end_108 : decode cX1_end 108 = .ok (.getfield 43, 3) := by decide +kernel
theorem dX1_end_111 : decode cX1_end 111 = .ok (.iload 4, 2) := by decide +kernel
theorem dX1_end_113 : decode cX1_end 113 = .ok (.iaload, 1) := by decide +kernel
theorem dX1_end_114 : decode cX1_end 114 = .ok (.aload_n 0, 1) := by decide +kernel
theorem dX1_end_115 : decode cX1_end 115 = .ok (.getfield 89, 3) := by decide +kernel
theorem dX1_end_118 : decode cX1_end 118 = .ok (.if_icmp .lt 40, 3) := by decide +kernel
theorem dX1_end_121 : decode cX1_end 121 = .ok (.aload_n 0, 1) := by decide +kernel
theorem dX1_end_122 : decode cX1_end 122 = .ok (.getfield 46, 3) := by decide +kernel
theorem dX1_end_125 : decode cX1_end 125 = .ok (.iload 4, 2) := by decide +kernel
theorem dX1_end_127 : decode cX1_end 127 = .ok (.iaload, 1) := by decide +kernel
theorem dX1_end_128 : decode cX1_end 128 = .ok (.iconst (-1), 1) := by decide +kernel
theorem dX1_end_129 : decode cX1_end 129 = .ok (.if_icmp .eq 29, 3) := by decide +kernel
theorem dX1_end_132 : decode cX1_end 132 = .ok (.aload_n 0, 1) := by decide +kernel
theorem dX1_end_133 : decode cX1_end 133 = .ok (.aload_n 0, 1) := by decide +kernel
theorem dX1_end_134 : decode cX1_end 134 = .ok (.getfield 46, 3) := by decide +kernel
theorem dX1_end_137 : decode cX1_end 137 = .ok (.iload 4, 2) := by decide +kernel
theorem dX1_end_139 : decode cX1_end 139 = .ok (.iaload, 1) := by decide +kernel
theorem dX1_end_140 : decode cX1_end 140 = .ok (.iconst 0, 1) := by decide +kernel
theorem dX1_end_141 : decode cX1_end 141 = .ok (.aload_n 0, 1) := by decide +kernel
theorem dX1_end_142 : decode cX1_end 142 = .ok (.getfield 43, 3) := by decide +kernel
theorem dX1_end_145 : decode cX1_end 145 = .ok (.iload 4, 2) := by decide +kernel
theorem dX1_end_147 : decode cX1_end 147 = .ok (.iaload, 1) := by decide +kernel
theorem dX1_end_148 : decode cX1_end 148 = .ok (.invokevirtual 95, 3) := by decide +kernel
theorem dX1_end_151 : decode cX1_end 151 = .ok (.ifCond .ne 7, 3) := by decide +kernel
theorem dX1_end_154 : decode cX1_end 154 = .ok (.iconst 1, 1) := by decide +kernel
theorem dX1_end_155 : decode cX1_end 155 = .ok (.goto 4, 3) := by decide +kernel
theorem dX1_end_158 : decode cX1_end 158 = .ok (.iconst 0, 1) := by decide +kernel
theorem dX1_end_159 : decode cX1_end 159 = .ok (.bastore, 1) := by decide +kernel
theorem dX1_end_160 : decode cX1_end 160 = .ok (.iload_n 3, 1) := by decide +kernel
theorem dX1_end_161 : decode cX1_end 161 = .ok (.aload_n 0, 1) := by decide +kernel
theorem dX1_end_162 : decode cX1_end 162 = .ok (.getfield 49, 3) := by decide +kernel
theorem dX1_end_165 : decode cX1_end 165 = .ok (.iload 4, 2) := by decide +kernel
theorem dX1_end_167 : decode cX1_end 167 = .ok (.baload, 1) := by decide +kernel
theorem dX1_end_168 : decode cX1_end 168 = .ok (.ifCond .eq 7, 3) := by decide +kernel
theorem dX1_end_171 : decode cX1_end 171 = .ok (.iconst 1, 1) := by decide +kernel
theorem dX1_end_172 : decode cX1_end 172 = .ok (.goto 4, 3) := by decide +kernel
theorem dX1_end_175 : decode cX1_end 175 = .ok (.iconst 0, 1) := by decide +kernel
theorem dX1_end_176 : decode cX1_end 176 = .ok (.iadd, 1) := by decide +kernel
theorem dX1_end_177 : decode cX1_end 177 = .ok (.istore_n 3, 1) := by decide +kernel
theorem dX1_end_178 : decode cX1_end 178 = .ok (.iinc 4 1, 3) := by decide +kernel
theorem dX1_end_181 : decode cX1_end 181 = .ok (.goto (-89), 3) := by decide +kernel
theorem dX1_end_184 : decode cX1_end 184 = .ok (.iconst 0, 1) := by decide +kernel
theorem dX1_end_185 : decode cX1_end 185 = .ok (.istore 4, 2) := by decide +kernel
theorem dX1_end_187 : decode cX1_end 187 = .ok (.iload 4, 2) := by decide +kernel
theorem dX1_end_189 : decode cX1_end 189 = .ok (.aload_n 0, 1) := by decide +kernel
theorem dX1_end_190 : decode cX1_end 190 = .ok (.getfield 92, 3) := by decide +kernel
theorem dX1_end_193 : decode cX1_end 193 = .ok (.if_icmp .ge 37, 3) := by decide +kernel
theorem dX1_end_196 : decode cX1_end 196 = .ok (.aload_n 0, 1) := by decide +kernel
theorem dX1_end_197 : decode cX1_end 197 = .ok (.getfield 46, 3) := by decide +kernel
theorem dX1_end_200 : decode cX1_end 200 = .ok (.iload 4, 2) := by decide +kernel
theorem dX1_end_202 : decode cX1_end 202 = .ok (.aload_n 0, 1) := by decide +kernel
theorem dX1_end_203 : decode cX1_end 203 = .ok (.getfield 49, 3) := by decide +kernel
theorem dX1_end_206 : decode cX1_end 206 = .ok (.iload 4, 2) := by decide +kernel
theorem dX1_end_208 : decode cX1_end 208 = .ok (.baload, 1) := by decide +kernel
theorem dX1_end_209 : decode cX1_end 209 = .ok (.ifCond .eq 7, 3) := by decide +kernel
theorem dX1_end_212 : decode cX1_end 212 = .ok (.iconst (-1), 1) := by decide +kernel
theorem dX1_end_213 : decode cX1_end 213 = .ok (.goto 10, 3) := by decide +kernel
theorem dX1_end_216 : decode cX1_end 216 = .ok (.aload_n 0, 1) := by decide +kernel
theorem dX1_end_217 : decode cX1_end 217 = .ok (.getfield 46, 3) := by decide +kernel
theorem dX1_end_220 : decode cX1_end 220 = .ok (.iload 4, 2) := by decide +kernel
theorem dX1_end_222 : decode cX1_end 222 = .ok (.iaload, 1) := by decide +kernel
theorem dX1_end_223 : decode cX1_end 223 = .ok (.iastore, 1) := by decide +kernel
theorem dX1_end_224 : decode cX1_end 224 = .ok (.iinc 4 1, 3) := by decide +kernel
theorem dX1_end_227 : decode cX1_end 227 = .ok (.goto (-40), 3) := by decide +kernel
theorem dX1_end_230 : decode cX1_end 230 = .ok (.iconst 0, 1) := by decide +kernel
theorem dX1_end_231 : decode cX1_end 231 = .ok (.istore 4, 2) := by decide +kernel
theorem dX1_end_233 : decode cX1_end 233 = .ok (.iload 4, 2) := by decide +kernel
theorem dX1_end_235 : decode cX1_end 235 = .ok (.aload_n 0, 1) := by decide +kernel
theorem dX1_end_236 : decode cX1_end 236 = .ok (.getfield 92, 3) := by decide +kernel
theorem dX1_end_239 : decode cX1_end 239 = .ok (.if_icmp .ge 25, 3) := by decide +kernel
theorem dX1_end_242 : decode cX1_end 242 = .ok (.aload_n 0, 1) := by decide +kernel
theorem dX1_end_243 : decode cX1_end 243 = .ok (.getfield 49, 3) := by decide +kernel
theorem dX1_end_246 : decode cX1_end 246 = .ok (.iload 4, 2) := by decide +kernel
theorem dX1_end_248 : decode cX1_end 248 = .ok (.baload, 1) := by decide +kernel
theorem dX1_end_249 : decode cX1_end 249 = .ok (.ifCond .eq 9, 3) := by decide +kernel
theorem dX1_end_252 : decode cX1_end 252 = .ok (.aload_n 0, 1) := by decide +kernel
theorem dX1_end_253 : decode cX1_end 253 = .ok (.iload 4, 2) := by decide +kernel
theorem dX1_end_255 : decode cX1_end 255 = .ok (.invokevirtual 98, 3) := by decide +kernel
theorem dX1_end_258 : decode cX1_end 258 = .ok (.iinc 4 1, 3) := by decide +kernel
theorem dX1_end_261 : decode cX1_end 261 = .ok (.goto (-28), 3) := by decide +kernel
theorem dX1_end_264 : decode cX1_end 264 = .ok (.iload_n 3, 1) := by decide +kernel
theorem dX1_end_265 : decode cX1_end 265 = .ok (.ireturn, 1) := by decide +kernel
set_option maxRecDepth 20000 in
theorem ggX1_hasRight_X1_isHymn : GoodIn wsX1_hasRight wsX1_isHymn := goodIn_r _ [6, 7, 8, 9, 5, 10, 26, 27, 28, 29, 30, 31, 32, 33, 34, 35, 36, 37, 38, 39, 40, 41, 42, 43, 44] (by decide +kernel) (by decide +kernel)
set_option maxRecDepth 20000 in
theorem gX1_hasRight_X1_isHymn : GoodIn wsX1_hasRight (wsV RX1 72 RX1 yX1_isHymn wsX1_isHymn) := goodIn_app (goodIn_of _ (by decide +kernel)) ggX1_hasRight_X1_isHymn
set_option maxRecDepth 20000 in
theorem ggX1_hasRight_X1_isUse : GoodIn wsX1_hasRight wsX1_isUse := goodIn_r _ [13, 8, 9, 5, 10] (by decide +kernel) (by decide +kernel)
set_option maxRecDepth 20000 in
theorem gX1_hasRight_X1_isUse : GoodIn wsX1_hasRight (va_wsS RX1 80 yX1_isUse wsX1_isUse) := goodIn_app (goodIn_of _ (by decide +kernel)) ggX1_hasRight_X1_isUse
set_option maxRecDepth 20000 in
theorem ggX1_hasRight_X1_isDay : GoodIn wsX1_hasRight wsX1_isDay := goodIn_r _ [16, 8, 9, 5, 10] (by decide +kernel) (by decide +kernel)
set_option maxRecDepth 20000 in
theorem gX1_hasRight_X1_isDay : GoodIn wsX1_hasRight (va_wsS RX1 83 yX1_isDay wsX1_isDay) := goodIn_app (goodIn_of _ (by decide +kernel)) ggX1_hasRight_X1_isDay
set_option maxRecDepth 20000 in
theorem ggX1_hasRight_X1_may : GoodIn wsX1_hasRight wsX1_may := goodIn_r _ [20, 21, 22, 23, 24, 25, 8, 9, 5, 10, 26, 27, 28, 29, 30, 31, 32, 33, 34, 35, 36, 37, 38, 39, 40, 41, 42, 43, 44] (by decide +kernel) (by decide +kernel)
set_option maxRecDepth 20000 in
theorem gX1_hasRight_X1_may : GoodIn wsX1_hasRight (wsV RX1 95 RX1 yX1_may wsX1_may) := goodIn_app (goodIn_of _ (by decide +kernel)) ggX1_hasRight_X1_may
theorem dX1_hasRight_0 : decode cX1_hasRight 0 = .ok (.aload_n 0, 1) := by decide +kernel
theorem dX1_hasRight_1 : decode cX1_hasRight 1 = .ok (.aload_n 0, 1) := by decide +kernel
theorem dX1_hasRight_2 : decode cX1_hasRight 2 = .ok (.iload_n 1, 1) := by decide +kernel
theorem dX1_hasRight_3 : decode cX1_hasRight 3 = .ok (.invokevirtual 72, 3) := by decide +kernel
theorem dX1_hasRight_6 : decode cX1_hasRight 6 = .ok (.ifCond .eq 10, 3) := by decide +kernel
theorem dX1_hasRight_9 : decode cX1_hasRight 9 = .ok (.iload_n 2, 1) := by decide +kernel
theorem dX1_hasRight_10 : decode cX1_hasRight 10 = .ok (.invokestatic 80, 3) := by decide +kernel
theorem dX1_hasRight_13 : decode cX1_hasRight 13 = .ok (.ifCond .ne 7, 3) := by decide +kernel
theorem dX1_hasRight_16 : decode cX1_hasRight 16 = .ok (.iconst 1, 1) := by decide +kernel
theorem dX1_hasRight_17 : decode cX1_hasRight 17 = .ok (.goto 15, 3) := by decide +kernel
theorem dX1_hasRight_20 : decode cX1_hasRight 20 = .ok (.iload_n 3, 1) := by decide +kernel
theorem dX1_hasRight_21 : decode cX1_hasRight 21 = .ok (.invokestatic 83, 3) := by decide +kernel
theorem dX1_hasRight_24 : decode cX1_hasRight 24 = .ok (.ifCond .eq 7, 3) := by decide +kernel
theorem dX1_hasRight_27 : decode cX1_hasRight 27 = .ok (.iconst 0, 1) := by decide +kernel
theorem dX1_hasRight_28 : decode cX1_hasRight 28 = .ok (.goto 4, 3) := by decide +kernel
theorem dX1_hasRight_31 : decode cX1_hasRight 31 = .ok (.iconst 2, 1) := by decide +kernel
theorem dX1_hasRight_32 : decode cX1_hasRight 32 = .ok (.putfield 53, 3) := by decide +kernel
theorem dX1_hasRight_35 : decode cX1_hasRight 35 = .ok (.aload_n 0, 1) := by decide +kernel
theorem dX1_hasRight_36 : decode cX1_hasRight 36 = .ok (.getfield 53, 3) := by decide +kernel
theorem dX1_hasRight_39 : decode cX1_hasRight 39 = .ok (.ifCond .ne 17, 3) := by decide +kernel
theorem dX1_hasRight_42 : decode cX1_hasRight 42 = .ok (.aload_n 0, 1) := by decide +kernel
theorem dX1_hasRight_43 : decode cX1_hasRight 43 = .ok (.iload_n 1, 1) := by decide +kernel
theorem dX1_hasRight_44 : decode cX1_hasRight 44 = .ok (.iload_n 2, 1) := by decide +kernel
theorem dX1_hasRight_45 : decode cX1_hasRight 45 = .ok (.iload_n 3, 1) := by decide +kernel
theorem dX1_hasRight_46 : decode cX1_hasRight 46 = .ok (.invokevirtual 95, 3) := by decide +kernel
theorem dX1_hasRight_49 : decode cX1_hasRight 49 = .ok (.ifCond .eq 7, 3) := by decide +kernel
theorem dX1_hasRight_52 : decode cX1_hasRight 52 = .ok (.iconst 1, 1) := by decide +kernel
theorem dX1_hasRight_53 : decode cX1_hasRight 53 = .ok (.goto 4, 3) := by decide +kernel
theorem dX1_hasRight_56 : decode cX1_hasRight 56 = .ok (.iconst 0, 1) := by decide +kernel
theorem dX1_hasRight_57 : decode cX1_hasRight 57 = .ok (.ireturn, 1) := by decide +kernel
set_option maxRecDepth 20000 in
theorem ggX1_print_X1_isHymn : GoodIn wsX1_print wsX1_isHymn := goodIn_r _ [8, 9, 10, 11, 7, 12, 36, 37, 38, 39, 40, 41, 42, 43, 44, 45, 46, 47, 48, 49, 50, 51, 52, 53, 54] (by decide +kernel) (by decide +kernel)
set_option maxRecDepth 20000 in
theorem gX1_print_X1_isHymn : GoodIn wsX1_print (wsV RX1 72 RX1 yX1_isHymn wsX1_isHymn) := goodIn_app (goodIn_of _ (by decide +kernel)) ggX1_print_X1_isHymn
set_option maxRecDepth 20000 in
theorem ggX1_print_X1_isIn : GoodIn wsX1_print wsX1_isIn := goodIn_r _ [12] (by decide +kernel) (by decide +kernel)
set_option maxRecDepth 20000 in
theorem gX1_print_X1_isIn : GoodIn wsX1_print (va_wsS RX1 60 yX1_isIn wsX1_isIn) := goodIn_app (goodIn_of _ (by decide +kernel)) ggX1_print_X1_isIn
set_option maxRecDepth 20000 in
theorem ggX1_print_X1_may : GoodIn wsX1_print wsX1_may := goodIn_r _ [16, 17, 18, 19, 20, 21, 10, 11, 7, 12, 36, 37, 38, 39, 40, 41, 42, 43, 44, 45, 46, 47, 48, 49, 50, 51, 52, 53, 54] (by decide +kernel) (by decide +kernel)
set_option maxRecDepth 20000 in
theorem gX1_print_X1_may : GoodIn wsX1_print (wsV RX1 95 RX1 yX1_may wsX1_may) := goodIn_app (goodIn_of _ (by decide +kernel)) ggX1_print_X1_may
set_option maxRecDepth 20000 in
theorem ggX1_print_X1_pagesOf : GoodIn wsX1_print wsX1_pagesOf := goodIn_r _ [25, 26, 27, 28, 29, 7, 30, 31, 32, 33, 34, 35, 36, 37, 38, 39, 40, 41, 42, 43, 44, 45, 46, 47, 48, 49, 50, 51, 52, 53, 54] (by decide +kernel) (by decide +kernel)
set_option maxRecDepth 20000 in
theorem gX1_print_X1_pagesOf : GoodIn wsX1_print (wsV RX1 76 RX1 yX1_pagesOf wsX1_pagesOf) := goodIn_app (goodIn_of _ (by decide +kernel)) ggX1_print_X1_pagesOf
theorem dX1_print_0 : decode cX1_print 0 = .ok (.aload_n 0, 1) := by decide +kernel
theorem dX1_print_1 : decode cX1_print 1 = .ok (.aload_n 0, 1) := by decide +kernel
theorem dX1_print_2 : decode cX1_print 2 = .ok (.iload_n 1, 1) := by decide +kernel
theorem dX1_print_3 : decode cX1_print 3 = .ok (.invokevirtual 72, 3) := by decide +kernel
theorem dX1_print_6 : decode cX1_print 6 = .ok (.ifCond .ne 7, 3) := by decide +kernel
theorem dX1_print_9 : decode cX1_print 9 = .ok (.iconst 1, 1) := by decide +kernel
theorem dX1_print_10 : decode cX1_print 10 = .ok (.goto 19, 3) := by decide +kernel
theorem dX1_print_13 : decode cX1_print 13 = .ok (.iload_n 2, 1) := by decide +kernel
theorem dX1_print_14 : decode cX1_print 14 = .ok (.iconst 1, 1) := by decide +kernel
theorem dX1_print_15 : decode cX1_print 15 = .ok (.sipush 1000, 3) := by decide +kernel
theorem dX1_print_18 : decode cX1_print 18 = .ok (.invokestatic 60, 3) := by decide +kernel
theorem dX1_print_21 : decode cX1_print 21 = .ok (.ifCond .eq 7, 3) := by decide +kernel
theorem dX1_print_24 : decode cX1_print 24 = .ok (.iconst 0, 1) := by decide +kernel
theorem dX1_print_25 : decode cX1_print 25 = .ok (.goto 4, 3) := by decide +kernel
theorem dX1_print_28 : decode cX1_print 28 = .ok (.iconst 2, 1) := by decide +kernel
theorem dX1_print_29 : decode cX1_print 29 = .ok (.putfield 53, 3) := by decide +kernel
theorem dX1_print_32 : decode cX1_print 32 = .ok (.aload_n 0, 1) := by decide +kernel
theorem dX1_print_33 : decode cX1_print 33 = .ok (.getfield 53, 3) := by decide +kernel
theorem dX1_print_36 : decode cX1_print 36 = .ok (.ifCond .le 5, 3) := by decide +kernel
theorem dX1_print_39 : decode cX1_print 39 = .ok (.iconst 0, 1) := by decide +kernel
theorem dX1_print_40 : decode cX1_print 40 = .ok (.ireturn, 1) := by decide +kernel
theorem dX1_print_41 : decode cX1_print 41 = .ok (.aload_n 0, 1) := by decide +kernel
theorem dX1_print_42 : decode cX1_print 42 = .ok (.aload_n 0, 1) := by decide +kernel
theorem dX1_print_43 : decode cX1_print 43 = .ok (.iload_n 1, 1) := by decide +kernel
theorem dX1_print_44 : decode cX1_print 44 = .ok (.iconst 1, 1) := by decide +kernel
theorem dX1_print_45 : decode cX1_print 45 = .ok (.aload_n 0, 1) := by decide +kernel
theorem dX1_print_46 : decode cX1_print 46 = .ok (.getfield 89, 3) := by decide +kernel
theorem dX1_print_49 : decode cX1_print 49 = .ok (.invokevirtual 95, 3) := by decide +kernel
theorem dX1_print_52 : decode cX1_print 52 = .ok (.ifCond .eq 7, 3) := by decide +kernel
theorem dX1_print_55 : decode cX1_print 55 = .ok (.iconst 0, 1) := by decide +kernel
theorem dX1_print_56 : decode cX1_print 56 = .ok (.goto 4, 3) := by decide +kernel
theorem dX1_print_59 : decode cX1_print 59 = .ok (.iconst 3, 1) := by decide +kernel
theorem dX1_print_60 : decode cX1_print 60 = .ok (.putfield 53, 3) := by decide +kernel
theorem dX1_print_63 : decode cX1_print 63 = .ok (.aload_n 0, 1) := by decide +kernel
theorem dX1_print_64 : decode cX1_print 64 = .ok (.getfield 53, 3) := by decide +kernel
theorem dX1_print_67 : decode cX1_print 67 = .ok (.ifCond .le 5, 3) := by decide +kernel
theorem dX1_print_70 : decode cX1_print 70 = .ok (.iconst 0, 1) := by decide +kernel
theorem dX1_print_71 : decode cX1_print 71 = .ok (.ireturn, 1) := by decide +kernel
theorem dX1_print_72 : decode cX1_print 72 = .ok (.aload_n 0, 1) := by decide +kernel
theorem dX1_print_73 : decode cX1_print 73 = .ok (.getfield 22, 3) := by decide +kernel
theorem dX1_print_76 : decode cX1_print 76 = .ok (.iconst 4, 1) := by decide +kernel
theorem dX1_print_77 : decode cX1_print 77 = .ok (.iload_n 1, 1) := by decide +kernel
theorem dX1_print_78 : decode cX1_print 78 = .ok (.imul, 1) := by decide +kernel
theorem dX1_print_79 : decode cX1_print 79 = .ok (.aload_n 0, 1) := by decide +kernel
theorem dX1_print_80 : decode cX1_print 80 = .ok (.getfield 89, 3) := by decide +kernel
theorem dX1_print_83 : decode cX1_print 83 = .ok (.sipush 365, 3) := by decide +kernel
theorem dX1_print_86 : decode cX1_print 86 = .ok (.idiv, 1) := by decide +kernel
theorem dX1_print_87 : decode cX1_print 87 = .ok (.iadd, 1) := by decide +kernel
theorem dX1_print_88 : decode cX1_print 88 = .ok (.dup2, 1) := by decide +kernel
theorem dX1_print_89 : decode cX1_print 89 = .ok (.iaload, 1) := by decide +kernel
theorem dX1_print_90 : decode cX1_print 90 = .ok (.iload_n 2, 1) := by decide +kernel
theorem dX1_print_91 : decode cX1_print 91 = .ok (.iadd, 1) := by decide +kernel
theorem dX1_print_92 : decode cX1_print 92 = .ok (.iastore, 1) := by decide +kernel
theorem dX1_print_93 : decode cX1_print 93 = .ok (.iload_n 2, 1) := by decide +kernel
theorem dX1_print_94 : decode cX1_print 94 = .ok (.aload_n 0, 1) := by decide +kernel
theorem dX1_print_95 : decode cX1_print 95 = .ok (.iload_n 1, 1) := by decide +kernel
theorem dX1_print_96 : decode cX1_print 96 = .ok (.invokevirtual 76, 3) := by decide +kernel
theorem dX1_print_99 : decode cX1_print 99 = .ok (.imul, 1) := by decide +kernel
theorem dX1_print_100 : decode cX1_print 100 = .ok (.ireturn, 1) := by decide +kernel
set_option maxRecDepth 20000 in
theorem ggX1_printed_X1_isHymn : GoodIn wsX1_printed wsX1_isHymn := goodIn_r _ [7, 8, 9, 10, 6, 11, 12, 13, 14, 15, 16, 17, 18, 19, 20, 21, 22, 23, 24, 25, 26, 27, 28, 29, 30] (by decide +kernel) (by decide +kernel)
set_option maxRecDepth 20000 in
theorem gX1_printed_X1_isHymn : GoodIn wsX1_printed (wsV RX1 72 RX1 yX1_isHymn wsX1_isHymn) := goodIn_app (goodIn_of _ (by decide +kernel)) ggX1_printed_X1_isHymn
set_option maxRecDepth 20000 in
theorem ggX1_printed_X1_isIn : GoodIn wsX1_printed wsX1_isIn := goodIn_r _ [11] (by decide +kernel) (by decide +kernel)
set_option maxRecDepth 20000 in
theorem gX1_printed_X1_isIn : GoodIn wsX1_printed (va_wsS RX1 60 yX1_isIn wsX1_isIn) := goodIn_app (goodIn_of _ (by decide +kernel)) ggX1_printed_X1_isIn
theorem dX1_printed_0 : decode cX1_printed 0 = .ok (.aload_n 0, 1) := by decide +kernel
theorem dX1_printed_1 : decode cX1_printed 1 = .ok (.aload_n 0, 1) := by decide +kernel
theorem dX1_printed_2 : decode cX1_printed 2 = .ok (.iload_n 1, 1) := by decide +kernel
theorem dX1_printed_3 : decode cX1_printed 3 = .ok (.invokevirtual 72, 3) := by decide +kernel
theorem dX1_printed_6 : decode cX1_printed 6 = .ok (.ifCond .eq 16, 3) := by decide +kernel
theorem dX1_printed_9 : decode cX1_printed 9 = .ok (.iload_n 2, 1) := by decide +kernel
theorem dX1_printed_10 : decode cX1_printed 10 = .ok (.iconst 0, 1) := by decide +kernel
theorem dX1_printed_11 : decode cX1_printed 11 = .ok (.iconst 3, 1) := by decide +kernel
theorem dX1_printed_12 : decode cX1_printed 12 = .ok (.invokestatic 60, 3) := by decide +kernel
theorem dX1_printed_15 : decode cX1_printed 15 = .ok (.ifCond .eq 7, 3) := by decide +kernel
theorem dX1_printed_18 : decode cX1_printed 18 = .ok (.iconst 0, 1) := by decide +kernel
theorem dX1_printed_19 : decode cX1_printed 19 = .ok (.goto 4, 3) := by decide +kernel
theorem dX1_printed_22 : decode cX1_printed 22 = .ok (.iconst 1, 1) := by decide +kernel
theorem dX1_printed_23 : decode cX1_printed 23 = .ok (.putfield 53, 3) := by decide +kernel
theorem dX1_printed_26 : decode cX1_printed 26 = .ok (.aload_n 0, 1) := by decide +kernel
theorem dX1_printed_27 : decode cX1_printed 27 = .ok (.getfield 53, 3) := by decide +kernel
theorem dX1_printed_30 : decode cX1_printed 30 = .ok (.ifCond .le 7, 3) := by decide +kernel
theorem dX1_printed_33 : decode cX1_printed 33 = .ok (.iconst 0, 1) := by decide +kernel
theorem dX1_printed_34 : decode cX1_printed 34 = .ok (.goto 13, 3) := by decide +kernel
theorem dX1_printed_37 : decode cX1_printed 37 = .ok (.aload_n 0, 1) := by decide +kernel
theorem dX1_printed_38 : decode cX1_printed 38 = .ok (.getfield 22, 3) := by decide +kernel
theorem dX1_printed_41 : decode cX1_printed 41 = .ok (.iconst 4, 1) := by decide +kernel
theorem dX1_printed_42 : decode cX1_printed 42 = .ok (.iload_n 1, 1) := by decide +kernel
theorem dX1_printed_43 : decode cX1_printed 43 = .ok (.imul, 1) := by decide +kernel
theorem dX1_printed_44 : decode cX1_printed 44 = .ok (.iload_n 2, 1) := by decide +kernel
theorem dX1_printed_45 : decode cX1_printed 45 = .ok (.iadd, 1) := by decide +kernel
theorem dX1_printed_46 : decode cX1_printed 46 = .ok (.iaload, 1) := by decide +kernel
theorem dX1_printed_47 : decode cX1_printed 47 = .ok (.ireturn, 1) := by decide +kernel
set_option maxRecDepth 20000 in
theorem ggX1_learn_X1_isIn : GoodIn wsX1_learn wsX1_isIn := goodIn_r _ [6] (by decide +kernel) (by decide +kernel)
set_option maxRecDepth 20000 in
theorem gX1_learn_X1_isIn : GoodIn wsX1_learn (va_wsS RX1 60 yX1_isIn wsX1_isIn) := goodIn_app (goodIn_of _ (by decide +kernel)) ggX1_learn_X1_isIn
set_option maxRecDepth 20000 in
theorem ggX1_learn_X1_isHymn : GoodIn wsX1_learn wsX1_isHymn := goodIn_r _ [10, 11, 3, 4, 5, 6, 12, 13, 14, 15, 16, 17, 18, 19, 20, 21, 22, 23, 24, 25, 26, 27, 28, 29, 30] (by decide +kernel) (by decide +kernel)
set_option maxRecDepth 20000 in
theorem gX1_learn_X1_isHymn : GoodIn wsX1_learn (wsV RX1 72 RX1 yX1_isHymn wsX1_isHymn) := goodIn_app (goodIn_of _ (by decide +kernel)) ggX1_learn_X1_isHymn
theorem dX1_learn_0 : decode cX1_learn 0 = .ok (.aload_n 0, 1) := by decide +kernel
theorem dX1_learn_1 : decode cX1_learn 1 = .ok (.iload_n 1, 1) := by decide +kernel
theorem dX1_learn_2 : decode cX1_learn 2 = .ok (.iconst 0, 1) := by decide +kernel
theorem dX1_learn_3 : decode cX1_learn 3 = .ok (.iconst 3, 1) := by decide +kernel
theorem dX1_learn_4 : decode cX1_learn 4 = .ok (.invokestatic 60, 3) := by decide +kernel
theorem dX1_learn_7 : decode cX1_learn 7 = .ok (.ifCond .eq 15, 3) := by decide +kernel
theorem dX1_learn_10 : decode cX1_learn 10 = .ok (.aload_n 0, 1) := by decide +kernel
theorem dX1_learn_11 : decode cX1_learn 11 = .ok (.iload_n 2, 1) := by decide +kernel
theorem dX1_learn_12 : decode cX1_learn 12 = .ok (.invokevirtual 72, 3) := by decide +kernel
theorem dX1_learn_15 : decode cX1_learn 15 = .ok (.ifCond .eq 7, 3) := by decide +kernel
theorem dX1_learn_18 : decode cX1_learn 18 = .ok (.iconst 0, 1) := by decide +kernel
theorem dX1_learn_19 : decode cX1_learn 19 = .ok (.goto 4, 3) := by decide +kernel
theorem dX1_learn_22 : decode cX1_learn 22 = .ok (.iconst 1, 1) := by decide +kernel
theorem dX1_learn_23 : decode cX1_learn 23 = .ok (.putfield 53, 3) := by decide +kernel
theorem dX1_learn_26 : decode cX1_learn 26 = .ok (.aload_n 0, 1) := by decide +kernel
theorem dX1_learn_27 : decode cX1_learn 27 = .ok (.getfield 53, 3) := by decide +kernel
theorem dX1_learn_30 : decode cX1_learn 30 = .ok (.ifCond .le 5, 3) := by decide +kernel
theorem dX1_learn_33 : decode cX1_learn 33 = .ok (.iconst 0, 1) := by decide +kernel
theorem dX1_learn_34 : decode cX1_learn 34 = .ok (.ireturn, 1) := by decide +kernel
theorem dX1_learn_35 : decode cX1_learn 35 = .ok (.aload_n 0, 1) := by decide +kernel
theorem dX1_learn_36 : decode cX1_learn 36 = .ok (.getfield 37, 3) := by decide +kernel
theorem dX1_learn_39 : decode cX1_learn 39 = .ok (.iload_n 1, 1) := by decide +kernel
theorem dX1_learn_40 : decode cX1_learn 40 = .ok (.dup2, 1) := by decide +kernel
theorem dX1_learn_41 : decode cX1_learn 41 = .ok (.iaload, 1) := by decide +kernel
theorem dX1_learn_42 : decode cX1_learn 42 = .ok (.iconst 1, 1) := by decide +kernel
theorem dX1_learn_43 : decode cX1_learn 43 = .ok (.iload_n 2, 1) := by decide +kernel
theorem dX1_learn_44 : decode cX1_learn 44 = .ok (.ishl, 1) := by decide +kernel
theorem dX1_learn_45 : decode cX1_learn 45 = .ok (.ixor, 1) := by decide +kernel
theorem dX1_learn_46 : decode cX1_learn 46 = .ok (.iastore, 1) := by decide +kernel
theorem dX1_learn_47 : decode cX1_learn 47 = .ok (.aload_n 0, 1) := by decide +kernel
theorem dX1_learn_48 : decode cX1_learn 48 = .ok (.getfield 37, 3) := by decide +kernel
theorem dX1_learn_51 : decode cX1_learn 51 = .ok (.iload_n 1, 1) := by decide +kernel
theorem dX1_learn_52 : decode cX1_learn 52 = .ok (.iaload, 1) := by decide +kernel
theorem dX1_learn_53 : decode cX1_learn 53 = .ok (.iload_n 2, 1) := by decide +kernel
theorem dX1_learn_54 : decode cX1_learn 54 = .ok (.ishr, 1) := by decide +kernel
theorem dX1_learn_55 : decode cX1_learn 55 = .ok (.iconst 1, 1) := by decide +kernel
theorem dX1_learn_56 : decode cX1_learn 56 = .ok (.iand, 1) := by decide +kernel
theorem dX1_learn_57 : decode cX1_learn 57 = .ok (.iconst 1, 1) := by decide +kernel
theorem dX1_learn_58 : decode cX1_learn 58 = .ok (.if_icmp .ne 7, 3) := by decide +kernel
theorem dX1_learn_61 : decode cX1_learn 61 = .ok (.iconst 1, 1) := by decide +kernel
theorem dX1_learn_62 : decode cX1_learn 62 = .ok (.goto 4, 3) := by decide +kernel
theorem dX1_learn_65 : decode cX1_learn 65 = .ok (.iconst 0, 1) := by decide +kernel
theorem dX1_learn_66 : decode cX1_learn 66 = .ok (.ireturn, 1) := by decide +kernel
theorem dX1_servicesWith_0 : decode cX1_servicesWith 0 = .ok (.iconst 0, 1) := by decide +kernel
theorem dX1_servicesWith_1 : decode cX1_servicesWith 1 = .ok (.istore_n 2, 1) := by decide +kernel
theorem dX1_servicesWith_2 : decode cX1_servicesWith 2 = .ok (.iconst 0, 1) := by decide +kernel
theorem dX1_servicesWith_3 : decode cX1_servicesWith 3 = .ok (.istore_n 3, 1) := by decide +kernel
theorem dX1_servicesWith_4 : decode cX1_servicesWith 4 = .ok (.iload_n 3, 1) := by decide +kernel
theorem dX1_servicesWith_5 : decode cX1_servicesWith 5 = .ok (.aload_n 0, 1) := by decide +kernel
theorem dX1_servicesWith_6 : decode cX1_servicesWith 6 = .ok (.getfield 92, 3) := by decide +kernel
theorem dX1_servicesWith_9 : decode cX1_servicesWith 9 = .ok (.if_icmp .ge 27, 3) := by decide +kernel
theorem dX1_servicesWith_12 : decode cX1_servicesWith 12 = .ok (.iload_n 2, 1) := by decide +kernel
theorem dX1_servicesWith_13 : decode cX1_servicesWith 13 = .ok (.aload_n 0, 1) := by decide +kernel
theorem dX1_servicesWith_14 : decode cX1_servicesWith 14 = .ok (.getfield 46, 3) := by decide +kernel
theorem dX1_servicesWith_17 : decode cX1_servicesWith 17 = .ok (.iload_n 3, 1) := by decide +kernel
theorem dX1_servicesWith_18 : decode cX1_servicesWith 18 = .ok (.iaload, 1) := by decide +kernel
theorem dX1_servicesWith_19 : decode cX1_servicesWith 19 = .ok (.iload_n 1, 1) := by decide +kernel
theorem dX1_servicesWith_20 : decode cX1_servicesWith 20 = .ok (.if_icmp .ne 7, 3) := by decide +kernel
theorem dX1_servicesWith_23 : decode cX1_servicesWith 23 = .ok (.iconst 1, 1) := by decide +kernel
theorem dX1_servicesWith_24 : decode cX1_servicesWith 24 = .ok (.goto 4, 3) := by decide +kernel
theorem dX1_servicesWith_27 : decode cX1_servicesWith 27 = .ok (.iconst 0, 1) := by decide +kernel
theorem dX1_servicesWith_28 : decode cX1_servicesWith 28 = .ok (.iadd, 1) := by decide +kernel
theorem dX1_servicesWith_29 : decode cX1_servicesWith 29 = .ok (.istore_n 2, 1) := by decide +kernel
theorem dX1_servicesWith_30 : decode cX1_servicesWith 30 = .ok (.iinc 3 1, 3) := by decide +kernel
theorem dX1_servicesWith_33 : decode cX1_servicesWith 33 = .ok (.goto (-29), 3) := by decide +kernel
theorem dX1_servicesWith_36 : decode cX1_servicesWith 36 = .ok (.iload_n 2, 1) := by decide +kernel
theorem dX1_servicesWith_37 : decode cX1_servicesWith 37 = .ok (.ireturn, 1) := by decide +kernel
theorem dX1_isRested_0 : decode cX1_isRested 0 = .ok (.iconst 1, 1) := by decide +kernel
theorem dX1_isRested_1 : decode cX1_isRested 1 = .ok (.istore_n 3, 1) := by decide +kernel
theorem dX1_isRested_2 : decode cX1_isRested 2 = .ok (.iconst 0, 1) := by decide +kernel
theorem dX1_isRested_3 : decode cX1_isRested 3 = .ok (.istore 4, 2) := by decide +kernel
theorem dX1_isRested_5 : decode cX1_isRested 5 = .ok (.iload 4, 2) := by decide +kernel
theorem dX1_isRested_7 : decode cX1_isRested 7 = .ok (.aload_n 0, 1) := by decide +kernel
theorem dX1_isRested_8 : decode cX1_isRested 8 = .ok (.getfield 92, 3) := by decide +kernel
theorem dX1_isRested_11 : decode cX1_isRested 11 = .ok (.if_icmp .ge 108, 3) := by decide +kernel
theorem dX1_isRested_14 : decode cX1_isRested 14 = .ok (.aload_n 0, 1) := by decide +kernel
theorem dX1_isRested_15 : decode cX1_isRested 15 = .ok (.getfield 43, 3) := by decide +kernel
theorem dX1_isRested_18 : decode cX1_isRested 18 = .ok (.iload 4, 2) := by decide +kernel
theorem dX1_isRested_20 : decode cX1_isRested 20 = .ok (.iaload, 1) := by decide +kernel
theorem dX1_isRested_21 : decode cX1_isRested 21 = .ok (.aload_n 0, 1) := by decide +kernel
theorem dX1_isRested_22 : decode cX1_isRested 22 = .ok (.getfield 43, 3) := by decide +kernel
theorem dX1_isRested_25 : decode cX1_isRested 25 = .ok (.iload_n 1, 1) := by decide +kernel
theorem dX1_isRested_26 : decode cX1_isRested 26 = .ok (.iaload, 1) := by decide +kernel
theorem dX1_isRested_27 : decode cX1_isRested 27 = .ok (.if_icmp .le 20, 3) := by decide +kernel
theorem dX1_isRested_30 : decode cX1_isRested 30 = .ok (.aload_n 0, 1) := by decide +kernel
theorem dX1_isRested_31 : decode cX1_isRested 31 = .ok (.getfield 43, 3) := by decide +kernel
theorem dX1_isRested_34 : decode cX1_isRested 34 = .ok (.iload 4, 2) := by decide +kernel
theorem dX1_isRested_36 : decode cX1_isRested 36 = .ok (.iaload, 1) := by decide +kernel
theorem dX1_isRested_37 : decode cX1_isRested 37 = .ok (.aload_n 0, 1) := by decide +kernel
theorem dX1_isRested_38 : decode cX1_isRested 38 = .ok (.getfield 43, 3) := by decide +kernel
theorem dX1_isRested_41 : decode cX1_isRested 41 = .ok (.iload_n 1, 1) := by decide +kernel
theorem dX1_isRested_42 : decode cX1_isRested 42 = .ok (.iaload, 1) := by decide +kernel
theorem dX1_isRested_43 : decode cX1_isRested 43 = .ok (.isub, 1) := by decide +kernel
theorem dX1_isRested_44 : decode cX1_isRested 44 = .ok (.goto 17, 3) := by decide +kernel
theorem dX1_isRested_47 : decode cX1_isRested 47 = .ok (.aload_n 0, 1) := by decide +kernel
theorem dX1_isRested_48 : decode cX1_isRested 48 = .ok (.getfield 43, 3) := by decide +kernel
theorem dX1_isRested_51 : decode cX1_isRested 51 = .ok (.iload_n 1, 1) := by decide +kernel
theorem dX1_isRested_52 : decode cX1_isRested 52 = .ok (.iaload, 1) := by decide +kernel
theorem dX1_isRested_53 : decode cX1_isRested 53 = .ok (.aload_n 0, 1) := by decide +kernel
theorem dX1_isRested_54 : decode cX1_isRested 54 = .ok (.getfield 43, 3) := by decide +kernel
theorem dX1_isRested_57 : decode cX1_isRested 57 = .ok (.iload 4, 2) := by decide +kernel
theorem dX1_isRested_59 : decode cX1_isRested 59 = .ok (.iaload, 1) := by decide +kernel
theorem dX1_isRested_60 : decode cX1_isRested 60 = .ok (.isub, 1) := by decide +kernel
theorem dX1_isRested_61 : decode cX1_isRested 61 = .ok (.istore 5, 2) := by decide +kernel
theorem dX1_isRested_63 : decode cX1_isRested 63 = .ok (.iload_n 3, 1) := by decide +kernel
theorem dX1_isRested_64 : decode cX1_isRested 64 = .ok (.ifCond .eq 47, 3) := by decide +kernel
theorem dX1_isRested_67 : decode cX1_isRested 67 = .ok (.iload 4, 2) := by decide +kernel
theorem dX1_isRested_69 : decode cX1_isRested 69 = .ok (.iload_n 1, 1) := by decide +kernel
theorem dX1_isRested_70 : decode cX1_isRested 70 = .ok (.if_icmp .eq 37, 3) := by decide +kernel
theorem dX1_isRested_73 : decode cX1_isRested 73 = .ok (.aload_n 0, 1) := by decide +kernel
theorem dX1_isRested_74 : decode cX1_isRested 74 = .ok (.getfield 40, 3) := by decide +kernel
theorem dX1_isRested_77 : decode cX1_isRested 77 = .ok (.iload 4, 2) := by decide +kernel
theorem dX1_isRested_79 : decode cX1_isRested 79 = .ok (.iaload, 1) := by decide +kernel
theorem dX1_isRested_80 : decode cX1_isRested 80 = .ok (.aload_n 0, 1) := by decide +kernel
theorem dX1_isRested_81 : decode cX1_isRested 81 = .ok (.getfield 40, 3) := by decide +kernel
theorem dX1_isRested_84 : decode cX1_isRested 84 = .ok (.iload_n 1, 1) := by decide +kernel
theorem dX1_isRested_85 : decode cX1_isRested 85 = .ok (.iaload, 1) := by decide +kernel
theorem dX1_isRested_86 : decode cX1_isRested 86 = .ok (.if_icmp .ne 21, 3) := by decide +kernel
theorem dX1_isRested_89 : decode cX1_isRested 89 = .ok (.aload_n 0, 1) := by decide +kernel
theorem dX1_isRested_90 : decode cX1_isRested 90 = .ok (.getfield 46, 3) := by decide +kernel
theorem dX1_isRested_93 : decode cX1_isRested 93 = .ok (.iload 4, 2) := by decide +kernel
theorem dX1_isRested_95 : decode cX1_isRested 95 = .ok (.iaload, 1) := by decide +kernel
theorem dX1_isRested_96 : decode cX1_isRested 96 = .ok (.iload_n 2, 1) := by decide +kernel
theorem dX1_isRested_97 : decode cX1_isRested 97 = .ok (.if_icmp .ne 10, 3) := by decide +kernel
theorem dX1_isRested_100 : decode cX1_isRested 100 = .ok (.iload 5, 2) := by decide +kernel
theorem dX1_isRested_102 : decode cX1_isRested 102 = .ok (.bipush 28, 2) := by decide +kernel
theorem dX1_isRested_104 : decode cX1_isRested 104 = .ok (.if_icmp .lt 7, 3) := by decide +kernel
theorem dX1_isRested_107 : decode cX1_isRested 107 = .ok (.iconst 1, 1) := by decide +kernel
theorem dX1_isRested_108 : decode cX1_isRested 108 = .ok (.goto 4, 3) := by decide +kernel
theorem dX1_isRested_111 : decode cX1_isRested 111 = .ok (.iconst 0, 1) := by decide +kernel
theorem dX1_isRested_112 : decode cX1_isRested 112 = .ok (.istore_n 3, 1) := by decide +kernel
theorem dX1_isRested_113 : decode cX1_isRested 113 = .ok (.iinc 4 1, 3) := by decide +kernel
theorem dX1_isRested_116 : decode cX1_isRested 116 = .ok (.goto (-111), 3) := by decide +kernel
theorem dX1_isRested_119 : decode cX1_isRested 119 = .ok (.iload_n 3, 1) := by decide +kernel
theorem dX1_isRested_120 : decode cX1_isRested 120 = .ok (.ireturn, 1) := by decide +kernel
set_option maxRecDepth 20000 in
theorem ggX1_plans_X1_may : GoodIn wsX1_plans wsX1_may := goodIn_r _ [11, 12, 13, 14, 15, 16, 17, 18, 10, 19, 29, 30, 31, 32, 33, 34, 35, 36, 37, 38, 39, 40, 41, 42, 43, 44, 45, 46, 47] (by decide +kernel) (by decide +kernel)
set_option maxRecDepth 20000 in
theorem gX1_plans_X1_may : GoodIn wsX1_plans (wsV RX1 95 RX1 yX1_may wsX1_may) := goodIn_app (goodIn_of _ (by decide +kernel)) ggX1_plans_X1_may
set_option maxRecDepth 20000 in
theorem ggX1_plans_X1_isRested : GoodIn wsX1_plans wsX1_isRested := goodIn_r _ [23, 24, 1, 5, 2, 29, 30, 31, 32, 33, 34, 35, 36, 37, 38, 39, 40, 41, 42, 43, 44, 45, 46, 47] (by decide +kernel) (by decide +kernel)
set_option maxRecDepth 20000 in
theorem gX1_plans_X1_isRested : GoodIn wsX1_plans (wsV RX1 102 RX1 yX1_isRested wsX1_isRested) := goodIn_app (goodIn_of _ (by decide +kernel)) ggX1_plans_X1_isRested
set_option maxRecDepth 20000 in
theorem ggX1_plans_X1_servicesWith : GoodIn wsX1_plans wsX1_servicesWith := goodIn_r _ [28, 24, 2, 29, 30, 31, 32, 33, 34, 35, 36, 37, 38, 39, 40, 41, 42, 43, 44, 45, 46, 47] (by decide +kernel) (by decide +kernel)
set_option maxRecDepth 20000 in
theorem gX1_plans_X1_servicesWith : GoodIn wsX1_plans (wsV RX1 105 RX1 yX1_servicesWith wsX1_servicesWith) := goodIn_app (goodIn_of _ (by decide +kernel)) ggX1_plans_X1_servicesWith
theorem dX1_plans_0 : decode cX1_plans 0 = .ok (.aload_n 0, 1) := by decide +kernel
theorem dX1_plans_1 : decode cX1_plans 1 = .ok (.getfield 43, 3) := by decide +kernel
theorem dX1_plans_4 : decode cX1_plans 4 = .ok (.iload_n 1, 1) := by decide +kernel
theorem dX1_plans_5 : decode cX1_plans 5 = .ok (.iaload, 1) := by decide +kernel
theorem dX1_plans_6 : decode cX1_plans 6 = .ok (.sipush 365, 3) := by decide +kernel
theorem dX1_plans_9 : decode cX1_plans 9 = .ok (.irem, 1) := by decide +kernel
theorem dX1_plans_10 : decode cX1_plans 10 = .ok (.bipush 92, 2) := by decide +kernel
theorem dX1_plans_12 : decode cX1_plans 12 = .ok (.idiv, 1) := by decide +kernel
theorem dX1_plans_13 : decode cX1_plans 13 = .ok (.istore_n 2, 1) := by decide +kernel
theorem dX1_plans_14 : decode cX1_plans 14 = .ok (.aload_n 0, 1) := by decide +kernel
theorem dX1_plans_15 : decode cX1_plans 15 = .ok (.getfield 46, 3) := by decide +kernel
theorem dX1_plans_18 : decode cX1_plans 18 = .ok (.iload_n 1, 1) := by decide +kernel
theorem dX1_plans_19 : decode cX1_plans 19 = .ok (.iconst (-1), 1) := by decide +kernel
theorem dX1_plans_20 : decode cX1_plans 20 = .ok (.iastore, 1) := by decide +kernel
theorem dX1_plans_21 : decode cX1_plans 21 = .ok (.iconst (-1), 1) := by decide +kernel
theorem dX1_plans_22 : decode cX1_plans 22 = .ok (.istore_n 3, 1) := by decide +kernel
theorem dX1_plans_23 : decode cX1_plans 23 = .ok (.iconst 0, 1) := by decide +kernel
theorem dX1_plans_24 : decode cX1_plans 24 = .ok (.istore 4, 2) := by decide +kernel
theorem dX1_plans_26 : decode cX1_plans 26 = .ok (.iload 4, 2) := by decide +kernel
theorem dX1_plans_28 : decode cX1_plans 28 = .ok (.aload_n 0, 1) := by decide +kernel
theorem dX1_plans_29 : decode cX1_plans 29 = .ok (.getfield 57, 3) := by decide +kernel
theorem dX1_plans_32 : decode cX1_plans 32 = .ok (.if_icmp .ge 120, 3) := by decide +kernel
theorem dX1_plans_35 : decode cX1_plans 35 = .ok (.aload_n 0, 1) := by decide +kernel
theorem dX1_plans_36 : decode cX1_plans 36 = .ok (.getfield 37, 3) := by decide +kernel
theorem dX1_plans_39 : decode cX1_plans 39 = .ok (.aload_n 0, 1) := by decide +kernel
theorem dX1_plans_40 : decode cX1_plans 40 = .ok (.getfield 40, 3) := by decide +kernel
theorem dX1_plans_43 : decode cX1_plans 43 = .ok (.iload_n 1, 1) := by decide +kernel
theorem dX1_plans_44 : decode cX1_plans 44 = .ok (.iaload, 1) := by decide +kernel
theorem dX1_plans_45 : decode cX1_plans 45 = .ok (.iaload, 1) := by decide +kernel
theorem dX1_plans_46 : decode cX1_plans 46 = .ok (.iload 4, 2) := by decide +kernel
theorem dX1_plans_48 : decode cX1_plans 48 = .ok (.ishr, 1) := by decide +kernel
theorem dX1_plans_49 : decode cX1_plans 49 = .ok (.iconst 1, 1) := by decide +kernel
theorem dX1_plans_50 : decode cX1_plans 50 = .ok (.iand, 1) := by decide +kernel
theorem dX1_plans_51 : decode cX1_plans 51 = .ok (.iconst 1, 1) := by decide +kernel
theorem dX1_plans_52 : decode cX1_plans 52 = .ok (.if_icmp .ne 22, 3) := by decide +kernel
theorem dX1_plans_55 : decode cX1_plans 55 = .ok (.aload_n 0, 1) := by decide +kernel
theorem dX1_plans_56 : decode cX1_plans 56 = .ok (.getfield 13, 3) := by decide +kernel
theorem dX1_plans_59 : decode cX1_plans 59 = .ok (.iload 4, 2) := by decide +kernel
theorem dX1_plans_61 : decode cX1_plans 61 = .ok (.iaload, 1) := by decide +kernel
theorem dX1_plans_62 : decode cX1_plans 62 = .ok (.iload_n 2, 1) := by decide +kernel
theorem dX1_plans_63 : decode cX1_plans 63 = .ok (.ishr, 1) := by decide +kernel
theorem dX1_plans_64 : decode cX1_plans 64 = .ok (.iconst 1, 1) := by decide +kernel
theorem dX1_plans_65 : decode cX1_plans 65 = .ok (.iand, 1) := by decide +kernel
theorem dX1_plans_66 : decode cX1_plans 66 = .ok (.iconst 1, 1) := by decide +kernel
theorem dX1_plans_67 : decode cX1_plans 67 = .ok (.if_icmp .ne 7, 3) := by decide +kernel
theorem dX1_plans_70 : decode cX1_plans 70 = .ok (.iconst 1, 1) := by decide +kernel
theorem dX1_plans_71 : decode cX1_plans 71 = .ok (.goto 4, 3) := by decide +kernel
theorem dX1_plans_74 : decode cX1_plans 74 = .ok (.iconst 0, 1) := by decide +kernel
theorem dX1_plans_75 : decode cX1_plans 75 = .ok (.istore 5, 2) := by decide +kernel
theorem dX1_plans_77 : decode cX1_plans 77 = .ok (.iload 5, 2) := by decide +kernel
theorem dX1_plans_79 : decode cX1_plans 79 = .ok (.ifCond .eq 33, 3) := by decide +kernel
theorem dX1_plans_82 : decode cX1_plans 82 = .ok (.aload_n 0, 1) := by decide +kernel
theorem dX1_plans_83 : decode cX1_plans 83 = .ok (.iload 4, 2) := by decide +kernel
theorem dX1_plans_85 : decode cX1_plans 85 = .ok (.iconst 0, 1) := by decide +kernel
theorem dX1_plans_86 : decode cX1_plans 86 = .ok (.aload_n 0, 1) := by decide +kernel
theorem dX1_plans_87 : decode cX1_plans 87 = .ok (.getfield 43, 3) := by decide +kernel
theorem dX1_plans_90 : decode cX1_plans 90 = .ok (.iload_n 1, 1) := by decide +kernel
theorem dX1_plans_91 : decode cX1_plans 91 = .ok (.iaload, 1) := by decide +kernel
theorem dX1_plans_92 : decode cX1_plans 92 = .ok (.invokevirtual 95, 3) := by decide +kernel
theorem dX1_plans_95 : decode cX1_plans 95 = .ok (.ifCond .eq 17, 3) := by decide +kernel
theorem dX1_plans_98 : decode cX1_plans 98 = .ok (.aload_n 0, 1) := by decide +kernel
theorem dX1_plans_99 : decode cX1_plans 99 = .ok (.iload_n 1, 1) := by decide +kernel
theorem dX1_plans_100 : decode cX1_plans 100 = .ok (.iload 4, 2) := by decide +kernel
theorem dX1_plans_102 : decode cX1_plans 102 = .ok (.invokevirtual 102, 3) := by decide +kernel
theorem dX1_plans_105 : decode cX1_plans 105 = .ok (.ifCond .eq 7, 3) := by decide +kernel
theorem dX1_plans_108 : decode cX1_plans 108 = .ok (.iconst 1, 1) := by decide +kernel
theorem dX1_plans_109 : decode cX1_plans 109 = .ok (.goto 4, 3) := by decide +kernel
theorem dX1_plans_112 : decode cX1_plans 112 = .ok (.iconst 0, 1) := by decide +kernel
theorem dX1_plans_113 : decode cX1_plans 113 = .ok (.istore 5, 2) := by decide +kernel
theorem dX1_plans_115 : decode cX1_plans 115 = .ok (.iload 5, 2) := by decide +kernel
theorem dX1_plans_117 : decode cX1_plans 117 = .ok (.ifCond .eq 27, 3) := by decide +kernel
theorem dX1_plans_120 : decode cX1_plans 120 = .ok (.iload_n 3, 1) := by decide +kernel
theorem dX1_plans_121 : decode cX1_plans 121 = .ok (.iconst (-1), 1) := by decide +kernel
theorem dX1_plans_122 : decode cX1_plans 122 = .ok (.if_icmp .eq 17, 3) := by decide +kernel
theorem dX1_plans_125 : decode cX1_plans 125 = .ok (.aload_n 0, 1) := by decide +kernel
theorem dX1_plans_126 : decode cX1_plans 126 = .ok (.iload 4, 2) := by decide +kernel
theorem dX1_plans_128 : decode cX1_plans 128 = .ok (.invokevirtual 105, 3) := by decide +kernel
theorem dX1_plans_131 : decode cX1_plans 131 = .ok (.aload_n 0, 1) := by decide +kernel
theorem dX1_plans_132 : decode cX1_plans 132 = .ok (.iload_n 3, 1) := by decide +kernel
theorem dX1_plans_133 : decode cX1_plans 133 = .ok (.invokevirtual 105, 3) := by decide +kernel
theorem dX1_plans_136 : decode cX1_plans 136 = .ok (.if_icmp .ge 8, 3) := by decide +kernel
theorem dX1_plans_139 : decode cX1_plans 139 = .ok (.iload 4, 2) := by decide +kernel
theorem dX1_plans_141 : decode cX1_plans 141 = .ok (.goto 4, 3) := by decide +kernel
theorem dX1_plans_144 : decode cX1_plans 144 = .ok (.iload_n 3, 1) := by decide +kernel
theorem dX1_plans_145 : decode cX1_plans 145 = .ok (.istore_n 3, 1) := by decide +kernel
theorem dX1_plans_146 : decode cX1_plans 146 = .ok (.iinc 4 1, 3) := by decide +kernel
theorem dX1_plans_149 : decode cX1_plans 149 = .ok (.goto (-123), 3) := by decide +kernel
theorem dX1_plans_152 : decode cX1_plans 152 = .ok (.aload_n 0, 1) := by decide +kernel
theorem dX1_plans_153 : decode cX1_plans 153 = .ok (.getfield 46, 3) := by decide +kernel
theorem dX1_plans_156 : decode cX1_plans 156 = .ok (.iload_n 1, 1) := by decide +kernel
theorem dX1_plans_157 : decode cX1_plans 157 = .ok (.iload_n 3, 1) := by decide +kernel
theorem dX1_plans_158 : decode cX1_plans 158 = .ok (.iastore, 1) := by decide +kernel
theorem dX1_plans_159 : decode cX1_plans 159 = .ok (.return_, 1) := by decide +kernel
set_option maxRecDepth 20000 in
theorem ggX1_service_X1_isIn : GoodIn wsX1_service wsX1_isIn := goodIn_r _ [10] (by decide +kernel) (by decide +kernel)
set_option maxRecDepth 20000 in
theorem gX1_service_X1_isIn : GoodIn wsX1_service (va_wsS RX1 60 yX1_isIn wsX1_isIn) := goodIn_app (goodIn_of _ (by decide +kernel)) ggX1_service_X1_isIn
set_option maxRecDepth 20000 in
theorem ggX1_service_X1_plans : GoodIn wsX1_service wsX1_plans := goodIn_r _ [14, 5, 6, 15, 16, 4, 17, 18, 19, 20, 9, 21, 22, 23, 24, 25, 26, 7, 8, 10, 27, 28, 29, 30, 3, 31, 32, 33, 34, 35, 36, 37, 38, 39, 40, 41, 42, 43, 44, 45, 46, 47, 48, 49, 50, 51, 52, 53] (by decide +kernel) (by decide +kernel)
set_option maxRecDepth 20000 in
theorem gX1_service_X1_plans : GoodIn wsX1_service (wsV RX1 98 RX1 yX1_plans wsX1_plans) := goodIn_app (goodIn_of _ (by decide +kernel)) ggX1_service_X1_plans
theorem dX1_service_0 : decode cX1_service 0 = .ok (.aload_n 0, 1) := by decide +kernel
theorem dX1_service_1 : decode cX1_service 1 = .ok (.iload_n 1, 1) := by decide +kernel
theorem dX1_service_2 : decode cX1_service 2 = .ok (.iconst 0, 1) := by decide +kernel
theorem dX1_service_3 : decode cX1_service 3 = .ok (.iconst 3, 1) := by decide +kernel
theorem dX1_service_4 : decode cX1_service 4 = .ok (.invokestatic 60, 3) := by decide +kernel
theorem dX1_service_7 : decode cX1_service 7 = .ok (.ifCond .ne 7, 3) := by decide +kernel
theorem dX1_service_10 : decode cX1_service 10 = .ok (.iconst 1, 1) := by decide +kernel
theorem dX1_service_11 : decode cX1_service 11 = .ok (.goto 22, 3) := by decide +kernel
theorem dX1_service_14 : decode cX1_service 14 = .ok (.iload_n 2, 1) := by decide +kernel
theorem dX1_service_15 : decode cX1_service 15 = .ok (.aload_n 0, 1) := by decide +kernel
theorem dX1_service_16 : decode cX1_service 16 = .ok (.getfield 89, 3) := by decide +kernel
theorem dX1_service_19 : decode cX1_service 19 = .ok (.sipush 1459, 3) := by decide +kernel
theorem dX1_service_22 : decode cX1_service 22 = .ok (.invokestatic 60, 3) := by decide +kernel
theorem dX1_service_25 : decode cX1_service 25 = .ok (.ifCond .eq 7, 3) := by decide +kernel
theorem dX1_service_28 : decode cX1_service 28 = .ok (.iconst 0, 1) := by decide +kernel
theorem dX1_service_29 : decode cX1_service 29 = .ok (.goto 4, 3) := by decide +kernel
theorem dX1_service_32 : decode cX1_service 32 = .ok (.iconst 2, 1) := by decide +kernel
theorem dX1_service_33 : decode cX1_service 33 = .ok (.putfield 53, 3) := by decide +kernel
theorem dX1_service_36 : decode cX1_service 36 = .ok (.aload_n 0, 1) := by decide +kernel
theorem dX1_service_37 : decode cX1_service 37 = .ok (.getfield 53, 3) := by decide +kernel
theorem dX1_service_40 : decode cX1_service 40 = .ok (.ifCond .le 5, 3) := by decide +kernel
theorem dX1_service_43 : decode cX1_service 43 = .ok (.iconst 0, 1) := by decide +kernel
theorem dX1_service_44 : decode cX1_service 44 = .ok (.ireturn, 1) := by decide +kernel
theorem dX1_service_45 : decode cX1_service 45 = .ok (.aload_n 0, 1) := by decide +kernel
theorem dX1_service_46 : decode cX1_service 46 = .ok (.getfield 92, 3) := by decide +kernel
theorem dX1_service_49 : decode cX1_service 49 = .ok (.bipush 40, 2) := by decide +kernel
theorem dX1_service_51 : decode cX1_service 51 = .ok (.if_icmp .ge 7, 3) := by decide +kernel
theorem dX1_service_54 : decode cX1_service 54 = .ok (.iconst 1, 1) := by decide +kernel
theorem dX1_service_55 : decode cX1_service 55 = .ok (.goto 4, 3) := by decide +kernel
theorem dX1_service_58 : decode cX1_service 58 = .ok (.iconst 0, 1) := by decide +kernel
theorem dX1_service_59 : decode cX1_service 59 = .ok (.istore_n 3, 1) := by decide +kernel
theorem dX1_service_60 : decode cX1_service 60 = .ok (.iconst 0, 1) := by decide +kernel
theorem dX1_service_61 : decode cX1_service 61 = .ok (.istore 4, 2) := by decide +kernel
theorem dX1_service_63 : decode cX1_service 63 = .ok (.iload 4, 2) := by decide +kernel
theorem dX1_service_65 : decode cX1_service 65 = .ok (.aload_n 0, 1) := by decide +kernel
theorem dX1_service_66 : decode cX1_service 66 = .ok (.getfield 92, 3) := by decide +kernel
theorem dX1_service_69 : decode cX1_service 69 = .ok (.if_icmp .ge 41, 3) := by decide +kernel
theorem dX1_service_72 : decode cX1_service 72 = .ok (.iload_n 3, 1) := by decide +kernel
theorem dX1_service_73 : decode cX1_service 73 = .ok (.ifCond .eq 29, 3) := by decide +kernel
theorem dX1_service_76 : decode cX1_service 76 = .ok (.aload_n 0, 1) := by decide +kernel
theorem dX1_service_77 : decode cX1_service 77 = .ok (.getfield 40, 3) := by decide +kernel
theorem dX1_service_80 : decode cX1_service 80 = .ok (.iload 4, 2) := by decide +kernel
theorem dX1_service_82 : decode cX1_service 82 = .ok (.iaload, 1) := by decide +kernel
theorem dX1_service_83 : decode cX1_service 83 = .ok (.iload_n 1, 1) := by decide +kernel
theorem dX1_service_84 : decode cX1_service 84 = .ok (.if_icmp .ne 14, 3) := by decide +kernel
theorem dX1_service_87 : decode cX1_service 87 = .ok (.aload_n 0, 1) := by decide +kernel
theorem dX1_service_88 : decode cX1_service 88 = .ok (.getfield 43, 3) := by decide +kernel
theorem dX1_service_91 : decode cX1_service 91 = .ok (.iload 4, 2) := by decide +kernel
theorem dX1_service_93 : decode cX1_service 93 = .ok (.iaload, 1) := by decide +kernel
theorem dX1_service_94 : decode cX1_service 94 = .ok (.iload_n 2, 1) := by decide +kernel
theorem dX1_service_95 : decode cX1_service 95 = .ok (.if_icmp .eq 7, 3) := by decide +kernel
theorem dX1_service_98 : decode cX1_service 98 = .ok (.iconst 1, 1) := by decide +kernel
theorem dX1_service_99 : decode cX1_service 99 = .ok (.goto 4, 3) := by decide +kernel
theorem dX1_service_102 : decode cX1_service 102 = .ok (.iconst 0, 1) := by decide +kernel
theorem dX1_service_103 : decode cX1_service 103 = .ok (.istore_n 3, 1) := by decide +kernel
theorem dX1_service_104 : decode cX1_service 104 = .ok (.iinc 4 1, 3) := by decide +kernel
theorem dX1_service_107 : decode cX1_service 107 = .ok (.goto (-44), 3) := by decide +kernel
theorem dX1_service_110 : decode cX1_service 110 = .ok (.aload_n 0, 1) := by decide +kernel
theorem dX1_service_111 : decode cX1_service 111 = .ok (.iload_n 3, 1) := by decide +kernel
theorem dX1_service_112 : decode cX1_service 112 = .ok (.ifCond .eq 7, 3) := by decide +kernel
theorem dX1_service_115 : decode cX1_service 115 = .ok (.iconst 0, 1) := by decide +kernel
theorem dX1_service_116 : decode cX1_service 116 = .ok (.goto 4, 3) := by decide +kernel
theorem dX1_service_119 : decode cX1_service 119 = .ok (.iconst 3, 1) := by decide +kernel
theorem dX1_service_120 : decode cX1_service 120 = .ok (.putfield 53, 3) := by decide +kernel
theorem dX1_service_123 : decode cX1_service 123 = .ok (.aload_n 0, 1) := by decide +kernel
theorem dX1_service_124 : decode cX1_service 124 = .ok (.getfield 53, 3) := by decide +kernel
theorem dX1_service_127 : decode cX1_service 127 = .ok (.ifCond .le 5, 3) := by decide +kernel
theorem dX1_service_130 : decode cX1_service 130 = .ok (.iconst 0, 1) := by decide +kernel
theorem dX1_service_131 : decode cX1_service 131 = .ok (.ireturn, 1) := by decide +kernel
theorem dX1_service_132 : decode cX1_service 132 = .ok (.aload_n 0, 1) := by decide +kernel
theorem dX1_service_133 : decode cX1_service 133 = .ok (.getfield 40, 3) := by decide +kernel
theorem dX1_service_136 : decode cX1_service 136 = .ok (.aload_n 0, 1) := by decide +kernel
theorem dX1_service_137 : decode cX1_service 137 = .ok (.getfield 92, 3) := by decide +kernel
theorem dX1_service_140 : decode cX1_service 140 = .ok (.iload_n 1, 1) := by decide +kernel
theorem dX1_service_141 : decode cX1_service 141 = .ok (.iastore, 1) := by decide +kernel
theorem dX1_service_142 : decode cX1_service 142 = .ok (.aload_n 0, 1) := by decide +kernel
theorem dX1_service_143 : decode cX1_service 143 = .ok (.getfield 43, 3) := by decide +kernel
theorem dX1_service_146 : decode cX1_service 146 = .ok (.aload_n 0, 1) := by decide +kernel
theorem dX1_service_147 : decode cX1_service 147 = .ok (.getfield 92, 3) := by decide +kernel
theorem dX1_service_150 : decode cX1_service 150 = .ok (.iload_n 2, 1) := by decide +kernel
theorem dX1_service_151 : decode cX1_service 151 = .ok (.iastore, 1) := by decide +kernel
theorem dX1_service_152 : decode cX1_service 152 = .ok (.aload_n 0, 1) := by decide +kernel
theorem dX1_service_153 : decode cX1_service 153 = .ok (.getfield 46, 3) := by decide +kernel
theorem dX1_service_156 : decode cX1_service 156 = .ok (.aload_n 0, 1) := by decide +kernel
theorem dX1_service_157 : decode cX1_service 157 = .ok (.getfield 92, 3) := by decide +kernel
theorem dX1_service_160 : decode cX1_service 160 = .ok (.iconst (-1), 1) := by decide +kernel
theorem dX1_service_161 : decode cX1_service 161 = .ok (.iastore, 1) := by decide +kernel
theorem dX1_service_162 : decode cX1_service 162 = .ok (.aload_n 0, 1) := by decide +kernel
theorem dX1_service_163 : decode cX1_service 163 = .ok (.dup, 1) := by decide +kernel
theorem dX1_service_164 : decode cX1_service 164 = .ok (.getfield 92, 3) := by decide +kernel
theorem dX1_service_167 : decode cX1_service 167 = .ok (.iconst 1, 1) := by decide +kernel
theorem dX1_service_168 : decode cX1_service 168 = .ok (.iadd, 1) := by decide +kernel
theorem dX1_service_169 : decode cX1_service 169 = .ok (.putfield 92, 3) := by decide +kernel
theorem dX1_service_172 : decode cX1_service 172 = .ok (.aload_n 0, 1) := by decide +kernel
theorem dX1_service_173 : decode cX1_service 173 = .ok (.aload_n 0, 1) := by decide +kernel
theorem dX1_service_174 : decode cX1_service 174 = .ok (.getfield 92, 3) := by decide +kernel
theorem dX1_service_177 : decode cX1_service 177 = .ok (.iconst 1, 1) := by decide +kernel
theorem dX1_service_178 : decode cX1_service 178 = .ok (.isub, 1) := by decide +kernel
theorem dX1_service_179 : decode cX1_service 179 = .ok (.invokevirtual 98, 3) := by decide +kernel
theorem dX1_service_182 : decode cX1_service 182 = .ok (.aload_n 0, 1) := by decide +kernel
theorem dX1_service_183 : decode cX1_service 183 = .ok (.getfield 92, 3) := by decide +kernel
theorem dX1_service_186 : decode cX1_service 186 = .ok (.iconst 1, 1) := by decide +kernel
theorem dX1_service_187 : decode cX1_service 187 = .ok (.isub, 1) := by decide +kernel
theorem dX1_service_188 : decode cX1_service 188 = .ok (.ireturn, 1) := by decide +kernel
set_option maxRecDepth 20000 in
theorem ggX1_isService_X1_isIn : GoodIn wsX1_isService wsX1_isIn := goodIn_r _ [5] (by decide +kernel) (by decide +kernel)
set_option maxRecDepth 20000 in
theorem gX1_isService_X1_isIn : GoodIn wsX1_isService (va_wsS RX1 60 yX1_isIn wsX1_isIn) := goodIn_app (goodIn_of _ (by decide +kernel)) ggX1_isService_X1_isIn
theorem dX1_isService_0 : decode cX1_isService 0 = .ok (.iload_n 1, 1) := by decide +kernel
theorem dX1_isService_1 : decode cX1_isService 1 = .ok (.iconst 0, 1) := by decide +kernel
theorem dX1_isService_2 : decode cX1_isService 2 = .ok (.aload_n 0, 1) := by decide +kernel
theorem dX1_isService_3 : decode cX1_isService 3 = .ok (.getfield 92, 3) := by decide +kernel
theorem dX1_isService_6 : decode cX1_isService 6 = .ok (.iconst 1, 1) := by decide +kernel
theorem dX1_isService_7 : decode cX1_isService 7 = .ok (.isub, 1) := by decide +kernel
theorem dX1_isService_8 : decode cX1_isService 8 = .ok (.invokestatic 60, 3) := by decide +kernel
theorem dX1_isService_11 : decode cX1_isService 11 = .ok (.ireturn, 1) := by decide +kernel
set_option maxRecDepth 20000 in
theorem ggX1_plan_X1_isService : GoodIn wsX1_plan wsX1_isService := goodIn_r _ [9, 10, 11, 12, 8, 13, 39, 40, 41, 42, 43, 44, 45, 46, 47, 48, 49, 50, 51, 52, 53, 54, 55, 56, 57] (by decide +kernel) (by decide +kernel)
set_option maxRecDepth 20000 in
theorem gX1_plan_X1_isService : GoodIn wsX1_plan (wsV RX1 108 RX1 yX1_isService wsX1_isService) := goodIn_app (goodIn_of _ (by decide +kernel)) ggX1_plan_X1_isService
set_option maxRecDepth 20000 in
theorem ggX1_plan_X1_plans : GoodIn wsX1_plan wsX1_plans := goodIn_r _ [17, 1, 4, 18, 19, 20, 21, 22, 23, 24, 8, 25, 26, 27, 28, 29, 30, 11, 12, 13, 31, 32, 33, 34, 10, 35, 36, 37, 38, 39, 40, 41, 42, 43, 44, 45, 46, 47, 48, 49, 50, 51, 52, 53, 54, 55, 56, 57] (by decide +kernel) (by decide +kernel)
set_option maxRecDepth 20000 in
theorem gX1_plan_X1_plans : GoodIn wsX1_plan (wsV RX1 98 RX1 yX1_plans wsX1_plans) := goodIn_app (goodIn_of _ (by decide +kernel)) ggX1_plan_X1_plans
theorem dX1_plan_0 : decode cX1_plan 0 = .ok (.aload_n 0, 1) := by decide +kernel
theorem dX1_plan_1 : decode cX1_plan 1 = .ok (.aload_n 0, 1) := by decide +kernel
theorem dX1_plan_2 : decode cX1_plan 2 = .ok (.iload_n 1, 1) := by decide +kernel
theorem dX1_plan_3 : decode cX1_plan 3 = .ok (.invokevirtual 108, 3) := by decide +kernel
theorem dX1_plan_6 : decode cX1_plan 6 = .ok (.ifCond .ne 7, 3) := by decide +kernel
theorem dX1_plan_9 : decode cX1_plan 9 = .ok (.iconst 1, 1) := by decide +kernel
theorem dX1_plan_10 : decode cX1_plan 10 = .ok (.goto 21, 3) := by decide +kernel
theorem dX1_plan_13 : decode cX1_plan 13 = .ok (.aload_n 0, 1) := by decide +kernel
theorem dX1_plan_14 : decode cX1_plan 14 = .ok (.getfield 43, 3) := by decide +kernel
theorem dX1_plan_17 : decode cX1_plan 17 = .ok (.iload_n 1, 1) := by decide +kernel
theorem dX1_plan_18 : decode cX1_plan 18 = .ok (.iaload, 1) := by decide +kernel
theorem dX1_plan_19 : decode cX1_plan 19 = .ok (.aload_n 0, 1) := by decide +kernel
theorem dX1_plan_20 : decode cX1_plan 20 = .ok (.getfield 89, 3) := by decide +kernel
theorem dX1_plan_23 : decode cX1_plan 23 = .ok (.if_icmp .ge 7, 3) := by decide +kernel
theorem dX1_plan_26 : decode cX1_plan 26 = .ok (.iconst 2, 1) := by decide +kernel
theorem dX1_plan_27 : decode cX1_plan 27 = .ok (.goto 4, 3) := by decide +kernel
theorem dX1_plan_30 : decode cX1_plan 30 = .ok (.iconst 0, 1) := by decide +kernel
theorem dX1_plan_31 : decode cX1_plan 31 = .ok (.putfield 53, 3) := by decide +kernel
theorem dX1_plan_34 : decode cX1_plan 34 = .ok (.aload_n 0, 1) := by decide +kernel
theorem dX1_plan_35 : decode cX1_plan 35 = .ok (.getfield 53, 3) := by decide +kernel
theorem dX1_plan_38 : decode cX1_plan 38 = .ok (.ifCond .le 5, 3) := by decide +kernel
theorem dX1_plan_41 : decode cX1_plan 41 = .ok (.iconst 0, 1) := by decide +kernel
theorem dX1_plan_42 : decode cX1_plan 42 = .ok (.ireturn, 1) := by decide +kernel
theorem dX1_plan_43 : decode cX1_plan 43 = .ok (.aload_n 0, 1) := by decide +kernel
theorem dX1_plan_44 : decode cX1_plan 44 = .ok (.iload_n 1, 1) := by decide +kernel
theorem dX1_plan_45 : decode cX1_plan 45 = .ok (.invokevirtual 98, 3) := by decide +kernel
theorem dX1_plan_48 : decode cX1_plan 48 = .ok (.aload_n 0, 1) := by decide +kernel
theorem dX1_plan_49 : decode cX1_plan 49 = .ok (.getfield 46, 3) := by decide +kernel
theorem dX1_plan_52 : decode cX1_plan 52 = .ok (.iload_n 1, 1) := by decide +kernel
theorem dX1_plan_53 : decode cX1_plan 53 = .ok (.iaload, 1) := by decide +kernel
theorem dX1_plan_54 : decode cX1_plan 54 = .ok (.ireturn, 1) := by decide +kernel
set_option maxRecDepth 20000 in
theorem ggX1_hymnOf_X1_isService : GoodIn wsX1_hymnOf wsX1_isService := goodIn_r _ [7, 8, 9, 10, 6, 11, 12, 13, 14, 15, 16, 17, 18, 19, 20, 21, 22, 23, 24, 25, 26, 27, 28, 29, 30] (by decide +kernel) (by decide +kernel)
set_option maxRecDepth 20000 in
theorem gX1_hymnOf_X1_isService : GoodIn wsX1_hymnOf (wsV RX1 108 RX1 yX1_isService wsX1_isService) := goodIn_app (goodIn_of _ (by decide +kernel)) ggX1_hymnOf_X1_isService
theorem dX1_hymnOf_0 : decode cX1_hymnOf 0 = .ok (.aload_n 0, 1) := by decide +kernel
theorem dX1_hymnOf_1 : decode cX1_hymnOf 1 = .ok (.aload_n 0, 1) := by decide +kernel
theorem dX1_hymnOf_2 : decode cX1_hymnOf 2 = .ok (.iload_n 1, 1) := by decide +kernel
theorem dX1_hymnOf_3 : decode cX1_hymnOf 3 = .ok (.invokevirtual 108, 3) := by decide +kernel
theorem dX1_hymnOf_6 : decode cX1_hymnOf 6 = .ok (.ifCond .eq 7, 3) := by decide +kernel
theorem dX1_hymnOf_9 : decode cX1_hymnOf 9 = .ok (.iconst 0, 1) := by decide +kernel
theorem dX1_hymnOf_10 : decode cX1_hymnOf 10 = .ok (.goto 4, 3) := by decide +kernel
theorem dX1_hymnOf_13 : decode cX1_hymnOf 13 = .ok (.iconst 1, 1) := by decide +kernel
theorem dX1_hymnOf_14 : decode cX1_hymnOf 14 = .ok (.putfield 53, 3) := by decide +kernel
theorem dX1_hymnOf_17 : decode cX1_hymnOf 17 = .ok (.aload_n 0, 1) := by decide +kernel
theorem dX1_hymnOf_18 : decode cX1_hymnOf 18 = .ok (.getfield 53, 3) := by decide +kernel
theorem dX1_hymnOf_21 : decode cX1_hymnOf 21 = .ok (.ifCond .le 7, 3) := by decide +kernel
theorem dX1_hymnOf_24 : decode cX1_hymnOf 24 = .ok (.iconst 0, 1) := by decide +kernel
theorem dX1_hymnOf_25 : decode cX1_hymnOf 25 = .ok (.goto 9, 3) := by decide +kernel
theorem dX1_hymnOf_28 : decode cX1_hymnOf 28 = .ok (.aload_n 0, 1) := by decide +kernel
theorem dX1_hymnOf_29 : decode cX1_hymnOf 29 = .ok (.getfield 46, 3) := by decide +kernel
theorem dX1_hymnOf_32 : decode cX1_hymnOf 32 = .ok (.iload_n 1, 1) := by decide +kernel
theorem dX1_hymnOf_33 : decode cX1_hymnOf 33 = .ok (.iaload, 1) := by decide +kernel
theorem dX1_hymnOf_34 : decode cX1_hymnOf 34 = .ok (.ireturn, 1) := by decide +kernel
theorem dX1_silent_0 : decode cX1_silent 0 = .ok (.aload_n 0, 1) := by decide +kernel
theorem dX1_silent_1 : decode cX1_silent 1 = .ok (.iconst 0, 1) := by decide +kernel
theorem dX1_silent_2 : decode cX1_silent 2 = .ok (.putfield 53, 3) := by decide +kernel
theorem dX1_silent_5 : decode cX1_silent 5 = .ok (.iconst 0, 1) := by decide +kernel
theorem dX1_silent_6 : decode cX1_silent 6 = .ok (.istore_n 1, 1) := by decide +kernel
theorem dX1_silent_7 : decode cX1_silent 7 = .ok (.iconst 0, 1) := by decide +kernel
theorem dX1_silent_8 : decode cX1_silent 8 = .ok (.istore_n 2, 1) := by decide +kernel
theorem dX1_silent_9 : decode cX1_silent 9 = .ok (.iload_n 2, 1) := by decide +kernel
theorem dX1_silent_10 : decode cX1_silent 10 = .ok (.aload_n 0, 1) := by decide +kernel
theorem dX1_silent_11 : decode cX1_silent 11 = .ok (.getfield 92, 3) := by decide +kernel
theorem dX1_silent_14 : decode cX1_silent 14 = .ok (.if_icmp .ge 40, 3) := by decide +kernel
theorem dX1_silent_17 : decode cX1_silent 17 = .ok (.iload_n 1, 1) := by decide +kernel
theorem dX1_silent_18 : decode cX1_silent 18 = .ok (.aload_n 0, 1) := by decide +kernel
theorem dX1_silent_19 : decode cX1_silent 19 = .ok (.getfield 43, 3) := by decide +kernel
theorem dX1_silent_22 : decode cX1_silent 22 = .ok (.iload_n 2, 1) := by decide +kernel
theorem dX1_silent_23 : decode cX1_silent 23 = .ok (.iaload, 1) := by decide +kernel
theorem dX1_silent_24 : decode cX1_silent 24 = .ok (.aload_n 0, 1) := by decide +kernel
theorem dX1_silent_25 : decode cX1_silent 25 = .ok (.getfield 89, 3) := by decide +kernel
theorem dX1_silent_28 : decode cX1_silent 28 = .ok (.if_icmp .gt 17, 3) := by decide +kernel
theorem dX1_silent_31 : decode cX1_silent 31 = .ok (.aload_n 0, 1) := by decide +kernel
theorem dX1_silent_32 : decode cX1_silent 32 = .ok (.getfield 46, 3) := by decide +kernel
theorem dX1_silent_35 : decode cX1_silent 35 = .ok (.iload_n 2, 1) := by decide +kernel
theorem dX1_silent_36 : decode cX1_silent 36 = .ok (.iaload, 1) := by decide +kernel
theorem dX1_silent_37 : decode cX1_silent 37 = .ok (.iconst (-1), 1) := by decide +kernel
theorem dX1_silent_38 : decode cX1_silent 38 = .ok (.if_icmp .ne 7, 3) := by decide +kernel
theorem dX1_silent_41 : decode cX1_silent 41 = .ok (.iconst 1, 1) := by decide +kernel
theorem dX1_silent_42 : decode cX1_silent 42 = .ok (.goto 4, 3) := by decide +kernel
theorem dX1_silent_45 : decode cX1_silent 45 = .ok (.iconst 0, 1) := by decide +kernel
theorem dX1_silent_46 : decode cX1_silent 46 = .ok (.iadd, 1) := by decide +kernel
theorem dX1_silent_47 : decode cX1_silent 47 = .ok (.istore_n 1, 1) := by decide +kernel
theorem dX1_silent_48 : decode cX1_silent 48 = .ok (.iinc 2 1, 3) := by decide +kernel
theorem dX1_silent_51 : decode cX1_silent 51 = .ok (.goto (-42), 3) := by decide +kernel
theorem dX1_silent_54 : decode cX1_silent 54 = .ok (.iload_n 1, 1) := by decide +kernel
theorem dX1_silent_55 : decode cX1_silent 55 = .ok (.ireturn, 1) := by decide +kernel
theorem dX1_sungOf_0 : decode cX1_sungOf 0 = .ok (.iconst 0, 1) := by decide +kernel
theorem dX1_sungOf_1 : decode cX1_sungOf 1 = .ok (.istore_n 3, 1) := by decide +kernel
theorem dX1_sungOf_2 : decode cX1_sungOf 2 = .ok (.iconst 0, 1) := by decide +kernel
theorem dX1_sungOf_3 : decode cX1_sungOf 3 = .ok (.istore 4, 2) := by decide +kernel
theorem dX1_sungOf_5 : decode cX1_sungOf 5 = .ok (.iload 4, 2) := by decide +kernel
theorem dX1_sungOf_7 : decode cX1_sungOf 7 = .ok (.aload_n 0, 1) := by decide +kernel
theorem dX1_sungOf_8 : decode cX1_sungOf 8 = .ok (.getfield 92, 3) := by decide +kernel
theorem dX1_sungOf_11 : decode cX1_sungOf 11 = .ok (.if_icmp .ge 100, 3) := by decide +kernel
theorem dX1_sungOf_14 : decode cX1_sungOf 14 = .ok (.aload_n 0, 1) := by decide +kernel
theorem dX1_sungOf_15 : decode cX1_sungOf 15 = .ok (.getfield 43, 3) := by decide +kernel
theorem dX1_sungOf_18 : decode cX1_sungOf 18 = .ok (.iload 4, 2) := by decide +kernel
theorem dX1_sungOf_20 : decode cX1_sungOf 20 = .ok (.iaload, 1) := by decide +kernel
theorem dX1_sungOf_21 : decode cX1_sungOf 21 = .ok (.aload_n 0, 1) := by decide +kernel
theorem dX1_sungOf_22 : decode cX1_sungOf 22 = .ok (.getfield 89, 3) := by decide +kernel
theorem dX1_sungOf_25 : decode cX1_sungOf 25 = .ok (.if_icmp .gt 33, 3) := by decide +kernel
theorem dX1_sungOf_28 : decode cX1_sungOf 28 = .ok (.aload_n 0, 1) := by decide +kernel
theorem dX1_sungOf_29 : decode cX1_sungOf 29 = .ok (.getfield 43, 3) := by decide +kernel
theorem dX1_sungOf_32 : decode cX1_sungOf 32 = .ok (.iload 4, 2) := by decide +kernel
theorem dX1_sungOf_34 : decode cX1_sungOf 34 = .ok (.iaload, 1) := by decide +kernel
theorem dX1_sungOf_35 : decode cX1_sungOf 35 = .ok (.sipush 365, 3) := by decide +kernel
theorem dX1_sungOf_38 : decode cX1_sungOf 38 = .ok (.idiv, 1) := by decide +kernel
theorem dX1_sungOf_39 : decode cX1_sungOf 39 = .ok (.iload_n 2, 1) := by decide +kernel
theorem dX1_sungOf_40 : decode cX1_sungOf 40 = .ok (.if_icmp .ne 18, 3) := by decide +kernel
theorem dX1_sungOf_43 : decode cX1_sungOf 43 = .ok (.aload_n 0, 1) := by decide +kernel
theorem dX1_sungOf_44 : decode cX1_sungOf 44 = .ok (.getfield 46, 3) := by decide +kernel
theorem dX1_sungOf_47 : decode cX1_sungOf 47 = .ok (.iload 4, 2) := by decide +kernel
theorem dX1_sungOf_49 : decode cX1_sungOf 49 = .ok (.iaload, 1) := by decide +kernel
theorem dX1_sungOf_50 : decode cX1_sungOf 50 = .ok (.iconst (-1), 1) := by decide +kernel
theorem dX1_sungOf_51 : decode cX1_sungOf 51 = .ok (.if_icmp .eq 7, 3) := by decide +kernel
theorem dX1_sungOf_54 : decode cX1_sungOf 54 = .ok (.iconst 1, 1) := by decide +kernel
theorem dX1_sungOf_55 : decode cX1_sungOf 55 = .ok (.goto 4, 3) := by decide +kernel
theorem dX1_sungOf_58 : decode cX1_sungOf 58 = .ok (.iconst 0, 1) := by decide +kernel
theorem dX1_sungOf_59 : decode cX1_sungOf 59 = .ok (.istore 5, 2) := by decide +kernel
theorem dX1_sungOf_61 : decode cX1_sungOf 61 = .ok (.iload_n 3, 1) := by decide +kernel
theorem dX1_sungOf_62 : decode cX1_sungOf 62 = .ok (.iload 5, 2) := by decide +kernel
theorem dX1_sungOf_64 : decode cX1_sungOf 64 = .ok (.ifCond .eq 38, 3) := by decide +kernel
theorem dX1_sungOf_67 : decode cX1_sungOf 67 = .ok (.aload_n 0, 1) := by decide +kernel
theorem dX1_sungOf_68 : decode cX1_sungOf 68 = .ok (.getfield 7, 3) := by decide +kernel
theorem dX1_sungOf_71 : decode cX1_sungOf 71 = .ok (.aload_n 0, 1) := by decide +kernel
theorem dX1_sungOf_72 : decode cX1_sungOf 72 = .ok (.getfield 46, 3) := by decide +kernel
theorem dX1_sungOf_75 : decode cX1_sungOf 75 = .ok (.iload 4, 2) := by decide +kernel
theorem dX1_sungOf_77 : decode cX1_sungOf 77 = .ok (.iaload, 1) := by decide +kernel
theorem dX1_sungOf_78 : decode cX1_sungOf 78 = .ok (.iconst (-1), 1) := by decide +kernel
theorem dX1_sungOf_79 : decode cX1_sungOf 79 = .ok (.if_icmp .ne 7, 3) := by decide +kernel
theorem dX1_sungOf_82 : decode cX1_sungOf 82 = .ok (.iconst 0, 1) := by decide +kernel
theorem dX1_sungOf_83 : decode cX1_sungOf 83 = .ok (.goto 10, 3) := by decide +kernel
theorem dX1_sungOf_86 : decode cX1_sungOf 86 = .ok (.aload_n 0, 1) := by decide +kernel
theorem dX1_sungOf_87 : decode cX1_sungOf 87 = .ok (.getfield 46, 3) := by decide +kernel
theorem dX1_sungOf_90 : decode cX1_sungOf 90 = .ok (.iload 4, 2) := by decide +kernel
theorem dX1_sungOf_92 : decode cX1_sungOf 92 = .ok (.iaload, 1) := by decide +kernel
theorem dX1_sungOf_93 : decode cX1_sungOf 93 = .ok (.iaload, 1) := by decide +kernel
theorem dX1_sungOf_94 : decode cX1_sungOf 94 = .ok (.iload_n 1, 1) := by decide +kernel
theorem dX1_sungOf_95 : decode cX1_sungOf 95 = .ok (.if_icmp .ne 7, 3) := by decide +kernel
theorem dX1_sungOf_98 : decode cX1_sungOf 98 = .ok (.iconst 1, 1) := by decide +kernel
theorem dX1_sungOf_99 : decode cX1_sungOf 99 = .ok (.goto 4, 3) := by decide +kernel
theorem dX1_sungOf_102 : decode cX1_sungOf 102 = .ok (.iconst 0, 1) := by decide +kernel
theorem dX1_sungOf_103 : decode cX1_sungOf 103 = .ok (.iadd, 1) := by decide +kernel
theorem dX1_sungOf_104 : decode cX1_sungOf 104 = .ok (.istore_n 3, 1) := by decide +kernel
theorem dX1_sungOf_105 : decode cX1_sungOf 105 = .ok (.iinc 4 1, 3) := by decide +kernel
theorem dX1_sungOf_108 : decode cX1_sungOf 108 = .ok (.goto (-103), 3) := by decide +kernel
theorem dX1_sungOf_111 : decode cX1_sungOf 111 = .ok (.iload_n 3, 1) := by decide +kernel
theorem dX1_sungOf_112 : decode cX1_sungOf 112 = .ok (.ireturn, 1) := by decide +kernel
set_option maxRecDepth 20000 in
theorem ggX1_sung_X1_isIn : GoodIn wsX1_sung wsX1_isIn := goodIn_r _ [5] (by decide +kernel) (by decide +kernel)
set_option maxRecDepth 20000 in
theorem gX1_sung_X1_isIn : GoodIn wsX1_sung (va_wsS RX1 60 yX1_isIn wsX1_isIn) := goodIn_app (goodIn_of _ (by decide +kernel)) ggX1_sung_X1_isIn
set_option maxRecDepth 20000 in
theorem ggX1_sung_X1_sungOf : GoodIn wsX1_sung wsX1_sungOf := goodIn_r _ [9, 10, 11, 12, 13, 14, 15, 16, 17, 18, 19, 20, 21, 22, 23, 24, 25, 26, 27, 28, 29, 30, 31, 32, 33] (by decide +kernel) (by decide +kernel)
set_option maxRecDepth 20000 in
theorem gX1_sung_X1_sungOf : GoodIn wsX1_sung (wsV RX1 111 RX1 yX1_sungOf wsX1_sungOf) := goodIn_app (goodIn_of _ (by decide +kernel)) ggX1_sung_X1_sungOf
theorem dX1_sung_0 : decode cX1_sung 0 = .ok (.aload_n 0, 1) := by decide +kernel
theorem dX1_sung_1 : decode cX1_sung 1 = .ok (.iload_n 1, 1) := by decide +kernel
theorem dX1_sung_2 : decode cX1_sung 2 = .ok (.iconst 0, 1) := by decide +kernel
theorem dX1_sung_3 : decode cX1_sung 3 = .ok (.iconst 4, 1) := by decide +kernel
theorem dX1_sung_4 : decode cX1_sung 4 = .ok (.invokestatic 60, 3) := by decide +kernel
theorem dX1_sung_7 : decode cX1_sung 7 = .ok (.ifCond .eq 16, 3) := by decide +kernel
theorem dX1_sung_10 : decode cX1_sung 10 = .ok (.iload_n 2, 1) := by decide +kernel
theorem dX1_sung_11 : decode cX1_sung 11 = .ok (.iconst 0, 1) := by decide +kernel
theorem dX1_sung_12 : decode cX1_sung 12 = .ok (.iconst 3, 1) := by decide +kernel
theorem dX1_sung_13 : decode cX1_sung 13 = .ok (.invokestatic 60, 3) := by decide +kernel
theorem dX1_sung_16 : decode cX1_sung 16 = .ok (.ifCond .eq 7, 3) := by decide +kernel
theorem dX1_sung_19 : decode cX1_sung 19 = .ok (.iconst 0, 1) := by decide +kernel
theorem dX1_sung_20 : decode cX1_sung 20 = .ok (.goto 4, 3) := by decide +kernel
theorem dX1_sung_23 : decode cX1_sung 23 = .ok (.iconst 1, 1) := by decide +kernel
theorem dX1_sung_24 : decode cX1_sung 24 = .ok (.putfield 53, 3) := by decide +kernel
theorem dX1_sung_27 : decode cX1_sung 27 = .ok (.aload_n 0, 1) := by decide +kernel
theorem dX1_sung_28 : decode cX1_sung 28 = .ok (.getfield 53, 3) := by decide +kernel
theorem dX1_sung_31 : decode cX1_sung 31 = .ok (.ifCond .le 7, 3) := by decide +kernel
theorem dX1_sung_34 : decode cX1_sung 34 = .ok (.iconst 0, 1) := by decide +kernel
theorem dX1_sung_35 : decode cX1_sung 35 = .ok (.goto 9, 3) := by decide +kernel
theorem dX1_sung_38 : decode cX1_sung 38 = .ok (.aload_n 0, 1) := by decide +kernel
theorem dX1_sung_39 : decode cX1_sung 39 = .ok (.iload_n 1, 1) := by decide +kernel
theorem dX1_sung_40 : decode cX1_sung 40 = .ok (.iload_n 2, 1) := by decide +kernel
theorem dX1_sung_41 : decode cX1_sung 41 = .ok (.invokevirtual 111, 3) := by decide +kernel
theorem dX1_sung_44 : decode cX1_sung 44 = .ok (.ireturn, 1) := by decide +kernel
set_option maxRecDepth 20000 in
theorem ggX1_sungByHymns_X1_isIn : GoodIn wsX1_sungByHymns wsX1_isIn := goodIn_r _ [5] (by decide +kernel) (by decide +kernel)
set_option maxRecDepth 20000 in
theorem gX1_sungByHymns_X1_isIn : GoodIn wsX1_sungByHymns (va_wsS RX1 60 yX1_isIn wsX1_isIn) := goodIn_app (goodIn_of _ (by decide +kernel)) ggX1_sungByHymns_X1_isIn
set_option maxRecDepth 20000 in
theorem ggX1_sungByHymns_X1_sungOf : GoodIn wsX1_sungByHymns wsX1_sungOf := goodIn_r _ [9, 10, 11, 12, 13, 14, 15, 16, 17, 18, 19, 20, 21, 22, 23, 24, 25, 26, 27, 28, 29, 30, 31, 32, 33] (by decide +kernel) (by decide +kernel)
set_option maxRecDepth 20000 in
theorem gX1_sungByHymns_X1_sungOf : GoodIn wsX1_sungByHymns (wsV RX1 111 RX1 yX1_sungOf wsX1_sungOf) := goodIn_app (goodIn_of _ (by decide +kernel)) ggX1_sungByHymns_X1_sungOf
theorem dX1_sungByHymns_0 : decode cX1_sungByHymns 0 = .ok (.aload_n 0, 1) := by decide +kernel
theorem dX1_sungByHymns_1 : decode cX1_sungByHymns 1 = .ok (.iload_n 1, 1) := by decide +kernel
theorem dX1_sungByHymns_2 : decode cX1_sungByHymns 2 = .ok (.iconst 0, 1) := by decide +kernel
theorem dX1_sungByHymns_3 : decode cX1_sungByHymns 3 = .ok (.iconst 4, 1) := by decide +kernel
theorem dX1_sungByHymns_4 : decode cX1_sungByHymns 4 = .ok (.invokestatic 60, 3) := by decide +kernel
theorem dX1_sungByHymns_7 : decode cX1_sungByHymns 7 = .ok (.ifCond .eq 16, 3) := by decide +kernel
theorem dX1_sungByHymns_10 : decode cX1_sungByHymns 10 = .ok (.iload_n 2, 1) := by decide +kernel
theorem dX1_sungByHymns_11 : decode cX1_sungByHymns 11 = .ok (.iconst 0, 1) := by decide +kernel
theorem dX1_sungByHymns_12 : decode cX1_sungByHymns 12 = .ok (.iconst 3, 1) := by decide +kernel
theorem dX1_sungByHymns_13 : decode cX1_sungByHymns 13 = .ok (.invokestatic 60, 3) := by decide +kernel
theorem dX1_sungByHymns_16 : decode cX1_sungByHymns 16 = .ok (.ifCond .eq 7, 3) := by decide +kernel
theorem dX1_sungByHymns_19 : decode cX1_sungByHymns 19 = .ok (.iconst 0, 1) := by decide +kernel
theorem dX1_sungByHymns_20 : decode cX1_sungByHymns 20 = .ok (.goto 4, 3) := by decide +kernel
theorem dX1_sungByHymns_23 : decode cX1_sungByHymns 23 = .ok (.iconst 1, 1) := by decide +kernel
theorem dX1_sungByHymns_24 : decode cX1_sungByHymns 24 = .ok (.putfield 53, 3) := by decide +kernel
theorem dX1_sungByHymns_27 : decode cX1_sungByHymns 27 = .ok (.aload_n 0, 1) := by decide +kernel
theorem dX1_sungByHymns_28 : decode cX1_sungByHymns 28 = .ok (.getfield 53, 3) := by decide +kernel
theorem dX1_sungByHymns_31 : decode cX1_sungByHymns 31 = .ok (.ifCond .le 7, 3) := by decide +kernel
theorem dX1_sungByHymns_34 : decode cX1_sungByHymns 34 = .ok (.iconst 0, 1) := by decide +kernel
theorem dX1_sungByHymns_35 : decode cX1_sungByHymns 35 = .ok (.goto 9, 3) := by decide +kernel
theorem dX1_sungByHymns_38 : decode cX1_sungByHymns 38 = .ok (.aload_n 0, 1) := by decide +kernel
theorem dX1_sungByHymns_39 : decode cX1_sungByHymns 39 = .ok (.iload_n 1, 1) := by decide +kernel
theorem dX1_sungByHymns_40 : decode cX1_sungByHymns 40 = .ok (.iload_n 2, 1) := by decide +kernel
theorem dX1_sungByHymns_41 : decode cX1_sungByHymns 41 = .ok (.invokevirtual 111, 3) := by decide +kernel
theorem dX1_sungByHymns_44 : decode cX1_sungByHymns 44 = .ok (.ireturn, 1) := by decide +kernel
set_option maxRecDepth 20000 in
theorem ggX1_pass_X1_isIn : GoodIn wsX1_pass wsX1_isIn := goodIn_r _ [6] (by decide +kernel) (by decide +kernel)
set_option maxRecDepth 20000 in
theorem gX1_pass_X1_isIn : GoodIn wsX1_pass (va_wsS RX1 60 yX1_isIn wsX1_isIn) := goodIn_app (goodIn_of _ (by decide +kernel)) ggX1_pass_X1_isIn
theorem dX1_pass_0 : decode cX1_pass 0 = .ok (.aload_n 0, 1) := by decide +kernel
theorem dX1_pass_1 : decode cX1_pass 1 = .ok (.iload_n 1, 1) := by decide +kernel
theorem dX1_pass_2 : decode cX1_pass 2 = .ok (.iconst 1, 1) := by decide +kernel
theorem dX1_pass_3 : decode cX1_pass 3 = .ok (.sipush 200, 3) := by decide +kernel
theorem dX1_pass_6 : decode cX1_pass 6 = .ok (.invokestatic 60, 3) := by decide +kernel
theorem dX1_pass_9 : decode cX1_pass 9 = .ok (.ifCond .ne 7, 3) := by decide +kernel
theorem dX1_pass_12 : decode cX1_pass 12 = .ok (.iconst 1, 1) := by decide +kernel
theorem dX1_pass_13 : decode cX1_pass 13 = .ok (.goto 20, 3) := by decide +kernel
theorem dX1_pass_16 : decode cX1_pass 16 = .ok (.aload_n 0, 1) := by decide +kernel
theorem dX1_pass_17 : decode cX1_pass 17 = .ok (.getfield 89, 3) := by decide +kernel
theorem dX1_pass_20 : decode cX1_pass 20 = .ok (.iload_n 1, 1) := by decide +kernel
theorem dX1_pass_21 : decode cX1_pass 21 = .ok (.iadd, 1) := by decide +kernel
theorem dX1_pass_22 : decode cX1_pass 22 = .ok (.sipush 1460, 3) := by decide +kernel
theorem dX1_pass_25 : decode cX1_pass 25 = .ok (.if_icmp .lt 7, 3) := by decide +kernel
theorem dX1_pass_28 : decode cX1_pass 28 = .ok (.iconst 2, 1) := by decide +kernel
theorem dX1_pass_29 : decode cX1_pass 29 = .ok (.goto 4, 3) := by decide +kernel
theorem dX1_pass_32 : decode cX1_pass 32 = .ok (.iconst 0, 1) := by decide +kernel
theorem dX1_pass_33 : decode cX1_pass 33 = .ok (.putfield 53, 3) := by decide +kernel
theorem dX1_pass_36 : decode cX1_pass 36 = .ok (.aload_n 0, 1) := by decide +kernel
theorem dX1_pass_37 : decode cX1_pass 37 = .ok (.dup, 1) := by decide +kernel
theorem dX1_pass_38 : decode cX1_pass 38 = .ok (.getfield 89, 3) := by decide +kernel
theorem dX1_pass_41 : decode cX1_pass 41 = .ok (.aload_n 0, 1) := by decide +kernel
theorem dX1_pass_42 : decode cX1_pass 42 = .ok (.getfield 53, 3) := by decide +kernel
theorem dX1_pass_45 : decode cX1_pass 45 = .ok (.ifCond .le 7, 3) := by decide +kernel
theorem dX1_pass_48 : decode cX1_pass 48 = .ok (.iconst 0, 1) := by decide +kernel
theorem dX1_pass_49 : decode cX1_pass 49 = .ok (.goto 4, 3) := by decide +kernel
theorem dX1_pass_52 : decode cX1_pass 52 = .ok (.iload_n 1, 1) := by decide +kernel
theorem dX1_pass_53 : decode cX1_pass 53 = .ok (.iadd, 1) := by decide +kernel
theorem dX1_pass_54 : decode cX1_pass 54 = .ok (.putfield 89, 3) := by decide +kernel
theorem dX1_pass_57 : decode cX1_pass 57 = .ok (.aload_n 0, 1) := by decide +kernel
theorem dX1_pass_58 : decode cX1_pass 58 = .ok (.getfield 89, 3) := by decide +kernel
theorem dX1_pass_61 : decode cX1_pass 61 = .ok (.ireturn, 1) := by decide +kernel
end
section
theorem dJ6_bitCount_0f7a4_0 : decode cJ6_bitCount_0f7a4 0 = .ok (.iload_n 0, 1) := by decide +kernel
theorem dJ6_bitCount_0f7a4_1 : decode cJ6_bitCount_0f7a4 1 = .ok (.iload_n 0, 1) := by decide +kernel
theorem dJ6_bitCount_0f7a4_2 : decode cJ6_bitCount_0f7a4 2 = .ok (.iconst 1, 1) := by decide +kernel
theorem dJ6_bitCount_0f7a4_3 : decode cJ6_bitCount_0f7a4 3 = .ok (.iushr, 1) := by decide +kernel
theorem dJ6_bitCount_0f7a4_4 : decode cJ6_bitCount_0f7a4 4 = .ok (.ldc_w 265, 3) := by decide +kernel
theorem dJ6_bitCount_0f7a4_7 : decode cJ6_bitCount_0f7a4 7 = .ok (.iand, 1) := by decide +kernel
theorem dJ6_bitCount_0f7a4_8 : decode cJ6_bitCount_0f7a4 8 = .ok (.isub, 1) := by decide +kernel
theorem dJ6_bitCount_0f7a4_9 : decode cJ6_bitCount_0f7a4 9 = .ok (.istore_n 0, 1) := by decide +kernel
theorem dJ6_bitCount_0f7a4_10 : decode cJ6_bitCount_0f7a4 10 = .ok (.iload_n 0, 1) := by decide +kernel
theorem dJ6_bitCount_0f7a4_11 : decode cJ6_bitCount_0f7a4 11 = .ok (.ldc_w 266, 3) := by decide +kernel
theorem dJ6_bitCount_0f7a4_14 : decode cJ6_bitCount_0f7a4 14 = .ok (.iand, 1) := by decide +kernel
theorem dJ6_bitCount_0f7a4_15 : decode cJ6_bitCount_0f7a4 15 = .ok (.iload_n 0, 1) := by decide +kernel
theorem dJ6_bitCount_0f7a4_16 : decode cJ6_bitCount_0f7a4 16 = .ok (.iconst 2, 1) := by decide +kernel
theorem dJ6_bitCount_0f7a4_17 : decode cJ6_bitCount_0f7a4 17 = .ok (.iushr, 1) := by decide +kernel
theorem dJ6_bitCount_0f7a4_18 : decode cJ6_bitCount_0f7a4 18 = .ok (.ldc_w 266, 3) := by decide +kernel
theorem dJ6_bitCount_0f7a4_21 : decode cJ6_bitCount_0f7a4 21 = .ok (.iand, 1) := by decide +kernel
theorem dJ6_bitCount_0f7a4_22 : decode cJ6_bitCount_0f7a4 22 = .ok (.iadd, 1) := by decide +kernel
theorem dJ6_bitCount_0f7a4_23 : decode cJ6_bitCount_0f7a4 23 = .ok (.istore_n 0, 1) := by decide +kernel
theorem dJ6_bitCount_0f7a4_24 : decode cJ6_bitCount_0f7a4 24 = .ok (.iload_n 0, 1) := by decide +kernel
theorem dJ6_bitCount_0f7a4_25 : decode cJ6_bitCount_0f7a4 25 = .ok (.iload_n 0, 1) := by decide +kernel
theorem dJ6_bitCount_0f7a4_26 : decode cJ6_bitCount_0f7a4 26 = .ok (.iconst 4, 1) := by decide +kernel
theorem dJ6_bitCount_0f7a4_27 : decode cJ6_bitCount_0f7a4 27 = .ok (.iushr, 1) := by decide +kernel
theorem dJ6_bitCount_0f7a4_28 : decode cJ6_bitCount_0f7a4 28 = .ok (.iadd, 1) := by decide +kernel
theorem dJ6_bitCount_0f7a4_29 : decode cJ6_bitCount_0f7a4 29 = .ok (.ldc_w 267, 3) := by decide +kernel
theorem dJ6_bitCount_0f7a4_32 : decode cJ6_bitCount_0f7a4 32 = .ok (.iand, 1) := by decide +kernel
theorem dJ6_bitCount_0f7a4_33 : decode cJ6_bitCount_0f7a4 33 = .ok (.istore_n 0, 1) := by decide +kernel
theorem dJ6_bitCount_0f7a4_34 : decode cJ6_bitCount_0f7a4 34 = .ok (.iload_n 0, 1) := by decide +kernel
theorem dJ6_bitCount_0f7a4_35 : decode cJ6_bitCount_0f7a4 35 = .ok (.iload_n 0, 1) := by decide +kernel
theorem dJ6_bitCount_0f7a4_36 : decode cJ6_bitCount_0f7a4 36 = .ok (.bipush 8, 2) := by decide +kernel
theorem dJ6_bitCount_0f7a4_38 : decode cJ6_bitCount_0f7a4 38 = .ok (.iushr, 1) := by decide +kernel
theorem dJ6_bitCount_0f7a4_39 : decode cJ6_bitCount_0f7a4 39 = .ok (.iadd, 1) := by decide +kernel
theorem dJ6_bitCount_0f7a4_40 : decode cJ6_bitCount_0f7a4 40 = .ok (.istore_n 0, 1) := by decide +kernel
theorem dJ6_bitCount_0f7a4_41 : decode cJ6_bitCount_0f7a4 41 = .ok (.iload_n 0, 1) := by decide +kernel
theorem dJ6_bitCount_0f7a4_42 : decode cJ6_bitCount_0f7a4 42 = .ok (.iload_n 0, 1) := by decide +kernel
theorem dJ6_bitCount_0f7a4_43 : decode cJ6_bitCount_0f7a4 43 = .ok (.bipush 16, 2) := by decide +kernel
theorem dJ6_bitCount_0f7a4_45 : decode cJ6_bitCount_0f7a4 45 = .ok (.iushr, 1) := by decide +kernel
theorem dJ6_bitCount_0f7a4_46 : decode cJ6_bitCount_0f7a4 46 = .ok (.iadd, 1) := by decide +kernel
theorem dJ6_bitCount_0f7a4_47 : decode cJ6_bitCount_0f7a4 47 = .ok (.istore_n 0, 1) := by decide +kernel
theorem dJ6_bitCount_0f7a4_48 : decode cJ6_bitCount_0f7a4 48 = .ok (.iload_n 0, 1) := by decide +kernel
theorem dJ6_bitCount_0f7a4_49 : decode cJ6_bitCount_0f7a4 49 = .ok (.bipush 63, 2) := by decide +kernel
theorem dJ6_bitCount_0f7a4_51 : decode cJ6_bitCount_0f7a4 51 = .ok (.iand, 1) := by decide +kernel
theorem dJ6_bitCount_0f7a4_52 : decode cJ6_bitCount_0f7a4 52 = .ok (.ireturn, 1) := by decide +kernel
theorem dJ13_bitCount_95d88_0 : decode cJ13_bitCount_95d88 0 = .ok (.lload_n 0, 1) := by decide +kernel
theorem dJ13_bitCount_95d88_1 : decode cJ13_bitCount_95d88 1 = .ok (.lload_n 0, 1) := by decide +kernel
theorem dJ13_bitCount_95d88_2 : decode cJ13_bitCount_95d88 2 = .ok (.iconst 1, 1) := by decide +kernel
theorem dJ13_bitCount_95d88_3 : decode cJ13_bitCount_95d88 3 = .ok (.lushr, 1) := by decide +kernel
theorem dJ13_bitCount_95d88_4 : decode cJ13_bitCount_95d88 4 = .ok (.ldc2_w 314, 3) := by decide +kernel
theorem dJ13_bitCount_95d88_7 : decode cJ13_bitCount_95d88 7 = .ok (.land, 1) := by decide +kernel
theorem dJ13_bitCount_95d88_8 : decode cJ13_bitCount_95d88 8 = .ok (.lsub, 1) := by decide +kernel
theorem dJ13_bitCount_95d88_9 : decode cJ13_bitCount_95d88 9 = .ok (.lstore_n 0, 1) := by decide +kernel
theorem dJ13_bitCount_95d88_10 : decode cJ13_bitCount_95d88 10 = .ok (.lload_n 0, 1) := by decide +kernel
theorem dJ13_bitCount_95d88_11 : decode cJ13_bitCount_95d88 11 = .ok (.ldc2_w 316, 3) := by decide +kernel
theorem dJ13_bitCount_95d88_14 : decode cJ13_bitCount_95d88 14 = .ok (.land, 1) := by decide +kernel
theorem dJ13_bitCount_95d88_15 : decode cJ13_bitCount_95d88 15 = .ok (.lload_n 0, 1) := by decide +kernel
theorem dJ13_bitCount_95d88_16 : decode cJ13_bitCount_95d88 16 = .ok (.iconst 2, 1) := by decide +kernel
theorem dJ13_bitCount_95d88_17 : decode cJ13_bitCount_95d88 17 = .ok (.lushr, 1) := by decide +kernel
theorem dJ13_bitCount_95d88_18 : decode cJ13_bitCount_95d88 18 = .ok (.ldc2_w 316, 3) := by decide +kernel
theorem dJ13_bitCount_95d88_21 : decode cJ13_bitCount_95d88 21 = .ok (.land, 1) := by decide +kernel
theorem dJ13_bitCount_95d88_22 : decode cJ13_bitCount_95d88 22 = .ok (.ladd, 1) := by decide +kernel
theorem dJ13_bitCount_95d88_23 : decode cJ13_bitCount_95d88 23 = .ok (.lstore_n 0, 1) := by decide +kernel
theorem dJ13_bitCount_95d88_24 : decode cJ13_bitCount_95d88 24 = .ok (.lload_n 0, 1) := by decide +kernel
theorem dJ13_bitCount_95d88_25 : decode cJ13_bitCount_95d88 25 = .ok (.lload_n 0, 1) := by decide +kernel
theorem dJ13_bitCount_95d88_26 : decode cJ13_bitCount_95d88 26 = .ok (.iconst 4, 1) := by decide +kernel
theorem dJ13_bitCount_95d88_27 : decode cJ13_bitCount_95d88 27 = .ok (.lushr, 1) := by decide +kernel
theorem dJ13_bitCount_95d88_28 : decode cJ13_bitCount_95d88 28 = .ok (.ladd, 1) := by decide +kernel
theorem dJ13_bitCount_95d88_29 : decode cJ13_bitCount_95d88 29 = .ok (.ldc2_w 318, 3) := by decide +kernel
theorem dJ13_bitCount_95d88_32 : decode cJ13_bitCount_95d88 32 = .ok (.land, 1) := by decide +kernel
theorem dJ13_bitCount_95d88_33 : decode cJ13_bitCount_95d88 33 = .ok (.lstore_n 0, 1) := by decide +kernel
theorem dJ13_bitCount_95d88_34 : decode cJ13_bitCount_95d88 34 = .ok (.lload_n 0, 1) := by decide +kernel
theorem dJ13_bitCount_95d88_35 : decode cJ13_bitCount_95d88 35 = .ok (.lload_n 0, 1) := by decide +kernel
theorem dJ13_bitCount_95d88_36 : decode cJ13_bitCount_95d88 36 = .ok (.bipush 8, 2) := by decide +kernel
theorem dJ13_bitCount_95d88_38 : decode cJ13_bitCount_95d88 38 = .ok (.lushr, 1) := by decide +kernel
theorem dJ13_bitCount_95d88_39 : decode cJ13_bitCount_95d88 39 = .ok (.ladd, 1) := by decide +kernel
theorem dJ13_bitCount_95d88_40 : decode cJ13_bitCount_95d88 40 = .ok (.lstore_n 0, 1) := by decide +kernel
theorem dJ13_bitCount_95d88_41 : decode cJ13_bitCount_95d88 41 = .ok (.lload_n 0, 1) := by decide +kernel
theorem dJ13_bitCount_95d88_42 : decode cJ13_bitCount_95d88 42 = .ok (.lload_n 0, 1) := by decide +kernel
theorem dJ13_bitCount_95d88_43 : decode cJ13_bitCount_95d88 43 = .ok (.bipush 16, 2) := by decide +kernel
theorem dJ13_bitCount_95d88_45 : decode cJ13_bitCount_95d88 45 = .ok (.lushr, 1) := by decide +kernel
theorem dJ13_bitCount_95d88_46 : decode cJ13_bitCount_95d88 46 = .ok (.ladd, 1) := by decide +kernel
theorem dJ13_bitCount_95d88_47 : decode cJ13_bitCount_95d88 47 = .ok (.lstore_n 0, 1) := by decide +kernel
theorem dJ13_bitCount_95d88_48 : decode cJ13_bitCount_95d88 48 = .ok (.lload_n 0, 1) := by decide +kernel
theorem dJ13_bitCount_95d88_49 : decode cJ13_bitCount_95d88 49 = .ok (.lload_n 0, 1) := by decide +kernel
theorem dJ13_bitCount_95d88_50 : decode cJ13_bitCount_95d88 50 = .ok (.bipush 32, 2) := by decide +kernel
theorem dJ13_bitCount_95d88_52 : decode cJ13_bitCount_95d88 52 = .ok (.lushr, 1) := by decide +kernel
theorem dJ13_bitCount_95d88_53 : decode cJ13_bitCount_95d88 53 = .ok (.ladd, 1) := by decide +kernel
theorem dJ13_bitCount_95d88_54 : decode cJ13_bitCount_95d88 54 = .ok (.lstore_n 0, 1) := by decide +kernel
theorem dJ13_bitCount_95d88_55 : decode cJ13_bitCount_95d88 55 = .ok (.lload_n 0, 1) := by decide +kernel
theorem dJ13_bitCount_95d88_56 : decode cJ13_bitCount_95d88 56 = .ok (.l2i, 1) := by decide +kernel
theorem dJ13_bitCount_95d88_57 : decode cJ13_bitCount_95d88 57 = .ok (.bipush 127, 2) := by decide +kernel
theorem dJ13_bitCount_95d88_59 : decode cJ13_bitCount_95d88 59 = .ok (.iand, 1) := by decide +kernel
theorem dJ13_bitCount_95d88_60 : decode cJ13_bitCount_95d88 60 = .ok (.ireturn, 1) := by decide +kernel
theorem dJ9_abs_0f7a4_0 : decode cJ9_abs_0f7a4 0 = .ok (.iload_n 0, 1) := by decide +kernel
theorem dJ9_abs_0f7a4_1 : decode cJ9_abs_0f7a4 1 = .ok (.ifCond .ge 8, 3) := by decide +kernel
theorem dJ9_abs_0f7a4_4 : decode cJ9_abs_0f7a4 4 = .ok (.iload_n 0, 1) := by decide +kernel
theorem dJ9_abs_0f7a4_5 : decode cJ9_abs_0f7a4 5 = .ok (.ineg, 1) := by decide +kernel
theorem dJ9_abs_0f7a4_6 : decode cJ9_abs_0f7a4 6 = .ok (.goto 4, 3) := by decide +kernel
theorem dJ9_abs_0f7a4_9 : decode cJ9_abs_0f7a4 9 = .ok (.iload_n 0, 1) := by decide +kernel
theorem dJ9_abs_0f7a4_10 : decode cJ9_abs_0f7a4 10 = .ok (.ireturn, 1) := by decide +kernel
set_option maxRecDepth 20000 in
theorem ggL_hymn_X0_hymn : GoodIn wsL_hymn wsX0_hymn := goodIn_ca (goodIn_ca (goodIn_ca (goodIn_r _ [8, 9, 10, 11, 12, 13, 14, 15, 16, 7, 17, 18, 19, 20, 21, 22, 23, 24, 25, 26, 27, 28, 29, 30, 31, 32, 33, 34, 35, 36, 37, 38, 39, 40, 41, 42, 43, 44, 45, 46, 47, 48, 49, 50, 51, 52, 53, 54, 55, 56, 57, 58, 59] (by decide +kernel) (by decide +kernel)) (goodIn_sub (fun _ h => List.mem_cons_of_mem _ (List.mem_append_left _ (List.mem_append_left _ (List.mem_append_right _ h)))) (by decide +kernel))) (goodIn_sub (fun _ h => List.mem_cons_of_mem _ (List.mem_append_left _ (List.mem_append_right _ h))) (by decide +kernel))) (goodIn_sub (fun _ h => List.mem_cons_of_mem _ (List.mem_append_right _ h)) (by decide +kernel))
set_option maxRecDepth 20000 in
theorem gL_hymn_X0_hymn : GoodIn wsL_hymn (wsV RL 7 RX0 yX0_hymn wsX0_hymn) := goodIn_app (goodIn_of _ (by decide +kernel)) ggL_hymn_X0_hymn
theorem dL_hymn_0 : decode cL_hymn 0 = .ok (.aload 5, 2) := by decide +kernel
theorem dL_hymn_2 : decode cL_hymn 2 = .ok (.iconst 0, 1) := by decide +kernel
theorem dL_hymn_3 : decode cL_hymn 3 = .ok (.aload_n 0, 1) := by decide +kernel
theorem dL_hymn_4 : decode cL_hymn 4 = .ok (.iload_n 1, 1) := by decide +kernel
theorem dL_hymn_5 : decode cL_hymn 5 = .ok (.iload_n 2, 1) := by decide +kernel
theorem dL_hymn_6 : decode cL_hymn 6 = .ok (.iload_n 3, 1) := by decide +kernel
theorem dL_hymn_7 : decode cL_hymn 7 = .ok (.iload 4, 2) := by decide +kernel
theorem dL_hymn_9 : decode cL_hymn 9 = .ok (.invokevirtual 7, 3) := by decide +kernel
theorem dL_hymn_12 : decode cL_hymn 12 = .ok (.i2l, 1) := by decide +kernel
theorem dL_hymn_13 : decode cL_hymn 13 = .ok (.lastore, 1) := by decide +kernel
theorem dL_hymn_14 : decode cL_hymn 14 = .ok (.goto 15, 3) := by decide +kernel
theorem dL_hymn_17 : decode cL_hymn 17 = .ok (.astore 6, 2) := by decide +kernel
theorem dL_hymn_19 : decode cL_hymn 19 = .ok (.iconst 1, 1) := by decide +kernel
theorem dL_hymn_20 : decode cL_hymn 20 = .ok (.ireturn, 1) := by decide +kernel
theorem dL_hymn_21 : decode cL_hymn 21 = .ok (.astore 6, 2) := by decide +kernel
theorem dL_hymn_23 : decode cL_hymn 23 = .ok (.iconst 2, 1) := by decide +kernel
theorem dL_hymn_24 : decode cL_hymn 24 = .ok (.ireturn, 1) := by decide +kernel
theorem dL_hymn_25 : decode cL_hymn 25 = .ok (.astore 6, 2) := by decide +kernel
theorem dL_hymn_27 : decode cL_hymn 27 = .ok (.iconst 3, 1) := by decide +kernel
theorem dL_hymn_28 : decode cL_hymn 28 = .ok (.ireturn, 1) := by decide +kernel
theorem dL_hymn_29 : decode cL_hymn 29 = .ok (.iconst 0, 1) := by decide +kernel
theorem dL_hymn_30 : decode cL_hymn 30 = .ok (.ireturn, 1) := by decide +kernel
set_option maxRecDepth 20000 in
theorem ggL_pages_X0_pages : GoodIn wsL_pages wsX0_pages := goodIn_ca (goodIn_r _ [6, 7, 8, 9, 5, 10, 11, 12, 13, 14, 15, 16, 17, 18, 19, 20, 21, 22, 23, 24, 25, 26, 27, 28, 29, 30, 31, 32, 33, 34, 35, 36, 37, 38, 39, 40, 41, 42, 43, 44, 45, 46, 47, 48, 49] (by decide +kernel) (by decide +kernel)) (goodIn_sub (fun _ h => List.mem_cons_of_mem _ (List.mem_append_right _ h)) (by decide +kernel))
set_option maxRecDepth 20000 in
theorem gL_pages_X0_pages : GoodIn wsL_pages (wsV RL 19 RX0 yX0_pages wsX0_pages) := goodIn_app (goodIn_of _ (by decide +kernel)) ggL_pages_X0_pages
theorem dL_pages_0 : decode cL_pages 0 = .ok (.aload_n 2, 1) := by decide +kernel
theorem dL_pages_1 : decode cL_pages 1 = .ok (.iconst 0, 1) := by decide +kernel
theorem dL_pages_2 : decode cL_pages 2 = .ok (.aload_n 0, 1) := by decide +kernel
theorem dL_pages_3 : decode cL_pages 3 = .ok (.iload_n 1, 1) := by decide +kernel
theorem dL_pages_4 : decode cL_pages 4 = .ok (.invokevirtual 19, 3) := by decide +kernel
theorem dL_pages_7 : decode cL_pages 7 = .ok (.i2l, 1) := by decide +kernel
theorem dL_pages_8 : decode cL_pages 8 = .ok (.lastore, 1) := by decide +kernel
theorem dL_pages_9 : decode cL_pages 9 = .ok (.goto 6, 3) := by decide +kernel
theorem dL_pages_12 : decode cL_pages 12 = .ok (.astore_n 3, 1) := by decide +kernel
theorem dL_pages_13 : decode cL_pages 13 = .ok (.iconst 1, 1) := by decide +kernel
theorem dL_pages_14 : decode cL_pages 14 = .ok (.ireturn, 1) := by decide +kernel
theorem dL_pages_15 : decode cL_pages 15 = .ok (.iconst 0, 1) := by decide +kernel
theorem dL_pages_16 : decode cL_pages 16 = .ok (.ireturn, 1) := by decide +kernel
set_option maxRecDepth 20000 in
theorem ggL_pageOf_X0_pageOf : GoodIn wsL_pageOf wsX0_pageOf := goodIn_ca (goodIn_r _ [6, 7, 8, 9, 10, 11, 5, 12, 13, 14, 15, 16, 17, 18, 19, 20, 21, 22, 23, 24, 25, 26, 27, 28, 29, 30, 31, 32, 33, 34, 35, 36, 37, 38, 39, 40, 41, 42, 43, 44, 45, 46] (by decide +kernel) (by decide +kernel)) (goodIn_sub (fun _ h => List.mem_cons_of_mem _ (List.mem_append_right _ h)) (by decide +kernel))
set_option maxRecDepth 20000 in
theorem gL_pageOf_X0_pageOf : GoodIn wsL_pageOf (wsV RL 23 RX0 yX0_pageOf wsX0_pageOf) := goodIn_app (goodIn_of _ (by decide +kernel)) ggL_pageOf_X0_pageOf
theorem dL_pageOf_0 : decode cL_pageOf 0 = .ok (.aload_n 3, 1) := by decide +kernel
theorem dL_pageOf_1 : decode cL_pageOf 1 = .ok (.iconst 0, 1) := by decide +kernel
theorem dL_pageOf_2 : decode cL_pageOf 2 = .ok (.aload_n 0, 1) := by decide +kernel
theorem dL_pageOf_3 : decode cL_pageOf 3 = .ok (.iload_n 1, 1) := by decide +kernel
theorem dL_pageOf_4 : decode cL_pageOf 4 = .ok (.iload_n 2, 1) := by decide +kernel
theorem dL_pageOf_5 : decode cL_pageOf 5 = .ok (.invokevirtual 23, 3) := by decide +kernel
theorem dL_pageOf_8 : decode cL_pageOf 8 = .ok (.i2l, 1) := by decide +kernel
theorem dL_pageOf_9 : decode cL_pageOf 9 = .ok (.lastore, 1) := by decide +kernel
theorem dL_pageOf_10 : decode cL_pageOf 10 = .ok (.goto 7, 3) := by decide +kernel
theorem dL_pageOf_13 : decode cL_pageOf 13 = .ok (.astore 4, 2) := by decide +kernel
theorem dL_pageOf_15 : decode cL_pageOf 15 = .ok (.iconst 1, 1) := by decide +kernel
theorem dL_pageOf_16 : decode cL_pageOf 16 = .ok (.ireturn, 1) := by decide +kernel
theorem dL_pageOf_17 : decode cL_pageOf 17 = .ok (.iconst 0, 1) := by decide +kernel
theorem dL_pageOf_18 : decode cL_pageOf 18 = .ok (.ireturn, 1) := by decide +kernel
set_option maxRecDepth 20000 in
theorem ggL_badTurns_X0_badTurns : GoodIn wsL_badTurns wsX0_badTurns := goodIn_ca (goodIn_r _ [6, 7, 8, 9, 10, 11, 5, 12, 13, 14, 15, 16, 17, 18, 19, 20, 21, 22, 23, 24, 25, 26, 27, 28, 29, 30, 31, 32, 33, 34, 35, 36, 37, 38, 39, 40, 41, 42, 43, 44, 45, 46] (by decide +kernel) (by decide +kernel)) (goodIn_sub (fun _ h => List.mem_cons_of_mem _ (List.mem_append_right _ h)) (by decide +kernel))
set_option maxRecDepth 20000 in
theorem gL_badTurns_X0_badTurns : GoodIn wsL_badTurns (wsV RL 27 RX0 yX0_badTurns wsX0_badTurns) := goodIn_app (goodIn_of _ (by decide +kernel)) ggL_badTurns_X0_badTurns
theorem dL_badTurns_0 : decode cL_badTurns 0 = .ok (.aload_n 2, 1) := by decide +kernel
theorem dL_badTurns_1 : decode cL_badTurns 1 = .ok (.iconst 0, 1) := by decide +kernel
theorem dL_badTurns_2 : decode cL_badTurns 2 = .ok (.aload_n 0, 1) := by decide +kernel
theorem dL_badTurns_3 : decode cL_badTurns 3 = .ok (.iload_n 1, 1) := by decide +kernel
theorem dL_badTurns_4 : decode cL_badTurns 4 = .ok (.invokevirtual 27, 3) := by decide +kernel
theorem dL_badTurns_7 : decode cL_badTurns 7 = .ok (.i2l, 1) := by decide +kernel
theorem dL_badTurns_8 : decode cL_badTurns 8 = .ok (.lastore, 1) := by decide +kernel
theorem dL_badTurns_9 : decode cL_badTurns 9 = .ok (.goto 6, 3) := by decide +kernel
theorem dL_badTurns_12 : decode cL_badTurns 12 = .ok (.astore_n 3, 1) := by decide +kernel
theorem dL_badTurns_13 : decode cL_badTurns 13 = .ok (.iconst 1, 1) := by decide +kernel
theorem dL_badTurns_14 : decode cL_badTurns 14 = .ok (.ireturn, 1) := by decide +kernel
theorem dL_badTurns_15 : decode cL_badTurns 15 = .ok (.iconst 0, 1) := by decide +kernel
theorem dL_badTurns_16 : decode cL_badTurns 16 = .ok (.ireturn, 1) := by decide +kernel
set_option maxRecDepth 20000 in
theorem ggL_right_X0_right : GoodIn wsL_right wsX0_right := goodIn_ca (goodIn_ca (goodIn_ca (goodIn_r _ [8, 9, 10, 11, 12, 13, 14, 15, 16, 7, 17, 18, 19, 20, 21, 22, 23, 24, 25, 26, 27, 28, 29, 30, 31, 32, 33, 34, 35, 36, 37, 38, 39, 40, 41, 42, 43, 44, 45, 46, 47, 48, 49, 50, 51, 52, 53, 54, 55, 56, 57, 58, 59, 60] (by decide +kernel) (by decide +kernel)) (goodIn_sub (fun _ h => List.mem_cons_of_mem _ (List.mem_append_left _ (List.mem_append_left _ (List.mem_append_right _ h)))) (by decide +kernel))) (goodIn_sub (fun _ h => List.mem_cons_of_mem _ (List.mem_append_left _ (List.mem_append_right _ h))) (by decide +kernel))) (goodIn_sub (fun _ h => List.mem_cons_of_mem _ (List.mem_append_right _ h)) (by decide +kernel))
set_option maxRecDepth 20000 in
theorem gL_right_X0_right : GoodIn wsL_right (wsV RL 30 RX0 yX0_right wsX0_right) := goodIn_app (goodIn_of _ (by decide +kernel)) ggL_right_X0_right
theorem dL_right_0 : decode cL_right 0 = .ok (.aload 5, 2) := by decide +kernel
theorem dL_right_2 : decode cL_right 2 = .ok (.iconst 0, 1) := by decide +kernel
theorem dL_right_3 : decode cL_right 3 = .ok (.aload_n 0, 1) := by decide +kernel
theorem dL_right_4 : decode cL_right 4 = .ok (.iload_n 1, 1) := by decide +kernel
theorem dL_right_5 : decode cL_right 5 = .ok (.iload_n 2, 1) := by decide +kernel
theorem dL_right_6 : decode cL_right 6 = .ok (.iload_n 3, 1) := by decide +kernel
theorem dL_right_7 : decode cL_right 7 = .ok (.iload 4, 2) := by decide +kernel
theorem dL_right_9 : decode cL_right 9 = .ok (.invokevirtual 30, 3) := by decide +kernel
theorem dL_right_12 : decode cL_right 12 = .ok (.i2l, 1) := by decide +kernel
theorem dL_right_13 : decode cL_right 13 = .ok (.lastore, 1) := by decide +kernel
theorem dL_right_14 : decode cL_right 14 = .ok (.goto 15, 3) := by decide +kernel
theorem dL_right_17 : decode cL_right 17 = .ok (.astore 6, 2) := by decide +kernel
theorem dL_right_19 : decode cL_right 19 = .ok (.iconst 1, 1) := by decide +kernel
theorem dL_right_20 : decode cL_right 20 = .ok (.ireturn, 1) := by decide +kernel
theorem dL_right_21 : decode cL_right 21 = .ok (.astore 6, 2) := by decide +kernel
theorem dL_right_23 : decode cL_right 23 = .ok (.iconst 2, 1) := by decide +kernel
theorem dL_right_24 : decode cL_right 24 = .ok (.ireturn, 1) := by decide +kernel
theorem dL_right_25 : decode cL_right 25 = .ok (.astore 6, 2) := by decide +kernel
theorem dL_right_27 : decode cL_right 27 = .ok (.iconst 3, 1) := by decide +kernel
theorem dL_right_28 : decode cL_right 28 = .ok (.ireturn, 1) := by decide +kernel
theorem dL_right_29 : decode cL_right 29 = .ok (.iconst 0, 1) := by decide +kernel
theorem dL_right_30 : decode cL_right 30 = .ok (.ireturn, 1) := by decide +kernel
set_option maxRecDepth 20000 in
theorem ggL_end_X0_end : GoodIn wsL_end wsX0_end := goodIn_ca (goodIn_ca (goodIn_ca (goodIn_r _ [8, 9, 10, 11, 12, 13, 7, 14, 15, 16, 17, 18, 19, 20, 21, 22, 23, 24, 25, 26, 27, 28, 29, 30, 31, 32, 33, 34, 35, 36, 37, 38, 39, 40, 41, 42, 43, 44, 45, 46, 47, 48, 49, 50, 51, 52, 53, 54, 55, 56, 57, 58, 59, 60, 61, 62, 63, 64, 65, 66, 67, 68, 69, 70, 71, 72, 73, 74, 75, 76, 77, 78, 79, 80, 81, 82, 83, 84, 85, 86, 87, 88, 89, 90, 91, 92, 93, 94, 95, 96, 97, 98, 99, 100, 101, 102, 103, 104, 105, 106, 107, 108, 109, 110] (by decide +kernel) (by decide +kernel)) (goodIn_sub (fun _ h => List.mem_cons_of_mem _ (List.mem_append_left _ (List.mem_append_left _ (List.mem_append_right _ h)))) (by decide +kernel))) (goodIn_sub (fun _ h => List.mem_cons_of_mem _ (List.mem_append_left _ (List.mem_append_right _ h))) (by decide +kernel))) (goodIn_sub (fun _ h => List.mem_cons_of_mem _ (List.mem_append_right _ h)) (by decide +kernel))
set_option maxRecDepth 20000 in
theorem gL_end_X0_end : GoodIn wsL_end (wsV RL 33 RX0 yX0_end wsX0_end) := goodIn_app (goodIn_of _ (by decide +kernel)) ggL_end_X0_end
theorem dL_end_0 : decode cL_end 0 = .ok (.aload_n 3, 1) := by decide +kernel
theorem dL_end_1 : decode cL_end 1 = .ok (.iconst 0, 1) := by decide +kernel
theorem dL_end_2 : decode cL_end 2 = .ok (.aload_n 0, 1) := by decide +kernel
theorem dL_end_3 : decode cL_end 3 = .ok (.iload_n 1, 1) := by decide +kernel
theorem dL_end_4 : decode cL_end 4 = .ok (.iload_n 2, 1) := by decide +kernel
theorem dL_end_5 : decode cL_end 5 = .ok (.invokevirtual 33, 3) := by decide +kernel
theorem dL_end_8 : decode cL_end 8 = .ok (.i2l, 1) := by decide +kernel
theorem dL_end_9 : decode cL_end 9 = .ok (.lastore, 1) := by decide +kernel
theorem dL_end_10 : decode cL_end 10 = .ok (.goto 15, 3) := by decide +kernel
theorem dL_end_13 : decode cL_end 13 = .ok (.astore 4, 2) := by decide +kernel
theorem dL_end_15 : decode cL_end 15 = .ok (.iconst 1, 1) := by decide +kernel
theorem dL_end_16 : decode cL_end 16 = .ok (.ireturn, 1) := by decide +kernel
theorem dL_end_17 : decode cL_end 17 = .ok (.astore 4, 2) := by decide +kernel
theorem dL_end_19 : decode cL_end 19 = .ok (.iconst 2, 1) := by decide +kernel
theorem dL_end_20 : decode cL_end 20 = .ok (.ireturn, 1) := by decide +kernel
theorem dL_end_21 : decode cL_end 21 = .ok (.astore 4, 2) := by decide +kernel
theorem dL_end_23 : decode cL_end 23 = .ok (.iconst 3, 1) := by decide +kernel
theorem dL_end_24 : decode cL_end 24 = .ok (.ireturn, 1) := by decide +kernel
theorem dL_end_25 : decode cL_end 25 = .ok (.iconst 0, 1) := by decide +kernel
theorem dL_end_26 : decode cL_end 26 = .ok (.ireturn, 1) := by decide +kernel
set_option maxRecDepth 20000 in
theorem ggL_hasRight_X0_hasRight : GoodIn wsL_hasRight wsX0_hasRight := goodIn_ca (goodIn_ca (goodIn_r _ [7, 8, 9, 10, 6, 11, 12, 13, 14, 15, 16, 17, 18, 19, 20, 21, 22, 23, 24, 25, 26, 27, 28, 29, 30, 31, 32, 33, 34, 35, 36, 37, 38, 39, 40, 41, 42, 43, 44, 45, 46, 47, 48, 49, 50, 51, 52, 53, 54, 55, 56, 57, 58] (by decide +kernel) (by decide +kernel)) (goodIn_sub (fun _ h => List.mem_cons_of_mem _ (List.mem_append_left _ (List.mem_append_right _ h))) (by decide +kernel))) (goodIn_sub (fun _ h => List.mem_cons_of_mem _ (List.mem_append_right _ h)) (by decide +kernel))
set_option maxRecDepth 20000 in
theorem gL_hasRight_X0_hasRight : GoodIn wsL_hasRight (wsV RL 36 RX0 yX0_hasRight wsX0_hasRight) := goodIn_app (goodIn_of _ (by decide +kernel)) ggL_hasRight_X0_hasRight
theorem dL_hasRight_0 : decode cL_hasRight 0 = .ok (.aload 4, 2) := by decide +kernel
theorem dL_hasRight_2 : decode cL_hasRight 2 = .ok (.iconst 0, 1) := by decide +kernel
theorem dL_hasRight_3 : decode cL_hasRight 3 = .ok (.aload_n 0, 1) := by decide +kernel
theorem dL_hasRight_4 : decode cL_hasRight 4 = .ok (.iload_n 1, 1) := by decide +kernel
theorem dL_hasRight_5 : decode cL_hasRight 5 = .ok (.iload_n 2, 1) := by decide +kernel
theorem dL_hasRight_6 : decode cL_hasRight 6 = .ok (.iload_n 3, 1) := by decide +kernel
theorem dL_hasRight_7 : decode cL_hasRight 7 = .ok (.invokevirtual 36, 3) := by decide +kernel
theorem dL_hasRight_10 : decode cL_hasRight 10 = .ok (.ifCond .eq 7, 3) := by decide +kernel
theorem dL_hasRight_13 : decode cL_hasRight 13 = .ok (.lconst 1, 1) := by decide +kernel
theorem dL_hasRight_14 : decode cL_hasRight 14 = .ok (.goto 4, 3) := by decide +kernel
theorem dL_hasRight_17 : decode cL_hasRight 17 = .ok (.lconst 0, 1) := by decide +kernel
theorem dL_hasRight_18 : decode cL_hasRight 18 = .ok (.lastore, 1) := by decide +kernel
theorem dL_hasRight_19 : decode cL_hasRight 19 = .ok (.goto 11, 3) := by decide +kernel
theorem dL_hasRight_22 : decode cL_hasRight 22 = .ok (.astore 5, 2) := by decide +kernel
theorem dL_hasRight_24 : decode cL_hasRight 24 = .ok (.iconst 1, 1) := by decide +kernel
theorem dL_hasRight_25 : decode cL_hasRight 25 = .ok (.ireturn, 1) := by decide +kernel
theorem dL_hasRight_26 : decode cL_hasRight 26 = .ok (.astore 5, 2) := by decide +kernel
theorem dL_hasRight_28 : decode cL_hasRight 28 = .ok (.iconst 2, 1) := by decide +kernel
theorem dL_hasRight_29 : decode cL_hasRight 29 = .ok (.ireturn, 1) := by decide +kernel
theorem dL_hasRight_30 : decode cL_hasRight 30 = .ok (.iconst 0, 1) := by decide +kernel
theorem dL_hasRight_31 : decode cL_hasRight 31 = .ok (.ireturn, 1) := by decide +kernel
set_option maxRecDepth 20000 in
theorem ggL_print_X0_print : GoodIn wsL_print wsX0_print := goodIn_ca (goodIn_ca (goodIn_ca (goodIn_r _ [8, 9, 10, 11, 12, 13, 7, 14, 15, 16, 17, 18, 19, 20, 21, 22, 23, 24, 25, 26, 27, 28, 29, 30, 31, 32, 33, 34, 35, 36, 37, 38, 39, 40, 41, 42, 43, 44, 45, 46, 47, 48, 49, 50, 51, 52, 53, 54, 55, 56, 57, 58, 59, 60, 61, 62, 63, 64, 65, 66, 67, 68, 69, 70, 71, 72, 73, 74, 75] (by decide +kernel) (by decide +kernel)) (goodIn_sub (fun _ h => List.mem_cons_of_mem _ (List.mem_append_left _ (List.mem_append_left _ (List.mem_append_right _ h)))) (by decide +kernel))) (goodIn_sub (fun _ h => List.mem_cons_of_mem _ (List.mem_append_left _ (List.mem_append_right _ h))) (by decide +kernel))) (goodIn_sub (fun _ h => List.mem_cons_of_mem _ (List.mem_append_right _ h)) (by decide +kernel))
set_option maxRecDepth 20000 in
theorem gL_print_X0_print : GoodIn wsL_print (wsV RL 40 RX0 yX0_print wsX0_print) := goodIn_app (goodIn_of _ (by decide +kernel)) ggL_print_X0_print
theorem dL_print_0 : decode cL_print 0 = .ok (.aload_n 3, 1) := by decide +kernel
theorem dL_print_1 : decode cL_print 1 = .ok (.iconst 0, 1) := by decide +kernel
theorem dL_print_2 : decode cL_print 2 = .ok (.aload_n 0, 1) := by decide +kernel
theorem dL_print_3 : decode cL_print 3 = .ok (.iload_n 1, 1) := by decide +kernel
theorem dL_print_4 : decode cL_print 4 = .ok (.iload_n 2, 1) := by decide +kernel
theorem dL_print_5 : decode cL_print 5 = .ok (.invokevirtual 40, 3) := by decide +kernel
theorem dL_print_8 : decode cL_print 8 = .ok (.i2l, 1) := by decide +kernel
theorem dL_print_9 : decode cL_print 9 = .ok (.lastore, 1) := by decide +kernel
theorem dL_print_10 : decode cL_print 10 = .ok (.goto 15, 3) := by decide +kernel
theorem dL_print_13 : decode cL_print 13 = .ok (.astore 4, 2) := by decide +kernel
theorem dL_print_15 : decode cL_print 15 = .ok (.iconst 1, 1) := by decide +kernel
theorem dL_print_16 : decode cL_print 16 = .ok (.ireturn, 1) := by decide +kernel
theorem dL_print_17 : decode cL_print 17 = .ok (.astore 4, 2) := by decide +kernel
theorem dL_print_19 : decode cL_print 19 = .ok (.iconst 2, 1) := by decide +kernel
theorem dL_print_20 : decode cL_print 20 = .ok (.ireturn, 1) := by decide +kernel
theorem dL_print_21 : decode cL_print 21 = .ok (.astore 4, 2) := by decide +kernel
theorem dL_print_23 : decode cL_print 23 = .ok (.iconst 3, 1) := by decide +kernel
theorem dL_print_24 : decode cL_print 24 = .ok (.ireturn, 1) := by decide +kernel
theorem dL_print_25 : decode cL_print 25 = .ok (.iconst 0, 1) := by decide +kernel
theorem dL_print_26 : decode cL_print 26 = .ok (.ireturn, 1) := by decide +kernel
set_option maxRecDepth 20000 in
theorem ggL_printed_X0_printed : GoodIn wsL_printed wsX0_printed := goodIn_ca (goodIn_r _ [6, 7, 8, 9, 10, 5, 11, 12, 13, 14, 15, 16, 17, 18, 19, 20, 21, 22, 23, 24, 25, 26, 27, 28, 29, 30, 31, 32, 33, 34, 35, 36, 37, 38, 39, 40, 41] (by decide +kernel) (by decide +kernel)) (goodIn_sub (fun _ h => List.mem_cons_of_mem _ (List.mem_append_right _ h)) (by decide +kernel))
set_option maxRecDepth 20000 in
theorem gL_printed_X0_printed : GoodIn wsL_printed (wsV RL 43 RX0 yX0_printed wsX0_printed) := goodIn_app (goodIn_of _ (by decide +kernel)) ggL_printed_X0_printed
theorem dL_printed_0 : decode cL_printed 0 = .ok (.aload_n 3, 1) := by decide +kernel
theorem dL_printed_1 : decode cL_printed 1 = .ok (.iconst 0, 1) := by decide +kernel
theorem dL_printed_2 : decode cL_printed 2 = .ok (.aload_n 0, 1) := by decide +kernel
theorem dL_printed_3 : decode cL_printed 3 = .ok (.iload_n 1, 1) := by decide +kernel
theorem dL_printed_4 : decode cL_printed 4 = .ok (.iload_n 2, 1) := by decide +kernel
theorem dL_printed_5 : decode cL_printed 5 = .ok (.invokevirtual 43, 3) := by decide +kernel
theorem dL_printed_8 : decode cL_printed 8 = .ok (.i2l, 1) := by decide +kernel
theorem dL_printed_9 : decode cL_printed 9 = .ok (.lastore, 1) := by decide +kernel
theorem dL_printed_10 : decode cL_printed 10 = .ok (.goto 7, 3) := by decide +kernel
theorem dL_printed_13 : decode cL_printed 13 = .ok (.astore 4, 2) := by decide +kernel
theorem dL_printed_15 : decode cL_printed 15 = .ok (.iconst 1, 1) := by decide +kernel
theorem dL_printed_16 : decode cL_printed 16 = .ok (.ireturn, 1) := by decide +kernel
theorem dL_printed_17 : decode cL_printed 17 = .ok (.iconst 0, 1) := by decide +kernel
theorem dL_printed_18 : decode cL_printed 18 = .ok (.ireturn, 1) := by decide +kernel
set_option maxRecDepth 20000 in
theorem ggL_learn_X0_learn : GoodIn wsL_learn wsX0_learn := goodIn_ca (goodIn_r _ [6, 7, 8, 9, 5, 10, 11, 12, 13, 14, 15, 16, 17, 18, 19, 20, 21, 22, 23, 24, 25, 26, 27, 28, 29, 30, 31, 32, 33, 34, 35, 36, 37, 38, 39, 40, 41, 42, 43, 44] (by decide +kernel) (by decide +kernel)) (goodIn_sub (fun _ h => List.mem_cons_of_mem _ (List.mem_append_right _ h)) (by decide +kernel))
set_option maxRecDepth 20000 in
theorem gL_learn_X0_learn : GoodIn wsL_learn (wsV RL 46 RX0 yX0_learn wsX0_learn) := goodIn_app (goodIn_of _ (by decide +kernel)) ggL_learn_X0_learn
theorem dL_learn_0 : decode cL_learn 0 = .ok (.aload_n 3, 1) := by decide +kernel
theorem dL_learn_1 : decode cL_learn 1 = .ok (.iconst 0, 1) := by decide +kernel
theorem dL_learn_2 : decode cL_learn 2 = .ok (.aload_n 0, 1) := by decide +kernel
theorem dL_learn_3 : decode cL_learn 3 = .ok (.iload_n 1, 1) := by decide +kernel
theorem dL_learn_4 : decode cL_learn 4 = .ok (.iload_n 2, 1) := by decide +kernel
theorem dL_learn_5 : decode cL_learn 5 = .ok (.invokevirtual 46, 3) := by decide +kernel
theorem dL_learn_8 : decode cL_learn 8 = .ok (.ifCond .eq 7, 3) := by decide +kernel
theorem dL_learn_11 : decode cL_learn 11 = .ok (.lconst 1, 1) := by decide +kernel
theorem dL_learn_12 : decode cL_learn 12 = .ok (.goto 4, 3) := by decide +kernel
theorem dL_learn_15 : decode cL_learn 15 = .ok (.lconst 0, 1) := by decide +kernel
theorem dL_learn_16 : decode cL_learn 16 = .ok (.lastore, 1) := by decide +kernel
theorem dL_learn_17 : decode cL_learn 17 = .ok (.goto 7, 3) := by decide +kernel
theorem dL_learn_20 : decode cL_learn 20 = .ok (.astore 4, 2) := by decide +kernel
theorem dL_learn_22 : decode cL_learn 22 = .ok (.iconst 1, 1) := by decide +kernel
theorem dL_learn_23 : decode cL_learn 23 = .ok (.ireturn, 1) := by decide +kernel
theorem dL_learn_24 : decode cL_learn 24 = .ok (.iconst 0, 1) := by decide +kernel
theorem dL_learn_25 : decode cL_learn 25 = .ok (.ireturn, 1) := by decide +kernel
set_option maxRecDepth 20000 in
theorem ggL_service_X0_service : GoodIn wsL_service wsX0_service := goodIn_ca (goodIn_ca (goodIn_ca (goodIn_r _ [8, 9, 10, 11, 12, 13, 14, 7, 15, 16, 17, 18, 19, 20, 21, 22, 23, 24, 25, 26, 27, 28, 29, 30, 31, 32, 33, 34, 35, 36, 37, 38, 39, 40, 41, 42, 43, 44, 45, 46, 47, 48, 49, 50, 51, 52, 53, 54, 55, 56, 57, 58, 59, 60, 61, 62, 63, 64, 65, 66, 67, 68, 69, 70, 71, 72, 73, 74, 75, 76, 77, 78, 79, 80, 81, 82, 83, 84, 85, 86, 87, 88, 89, 90, 91, 92, 93, 94, 95, 96, 97, 98] (by decide +kernel) (by decide +kernel)) (goodIn_sub (fun _ h => List.mem_cons_of_mem _ (List.mem_append_left _ (List.mem_append_left _ (List.mem_append_right _ h)))) (by decide +kernel))) (goodIn_sub (fun _ h => List.mem_cons_of_mem _ (List.mem_append_left _ (List.mem_append_right _ h))) (by decide +kernel))) (goodIn_sub (fun _ h => List.mem_cons_of_mem _ (List.mem_append_right _ h)) (by decide +kernel))
set_option maxRecDepth 20000 in
theorem gL_service_X0_service : GoodIn wsL_service (wsV RL 50 RX0 yX0_service wsX0_service) := goodIn_app (goodIn_of _ (by decide +kernel)) ggL_service_X0_service
theorem dL_service_0 : decode cL_service 0 = .ok (.aload_n 3, 1) := by decide +kernel
theorem dL_service_1 : decode cL_service 1 = .ok (.iconst 0, 1) := by decide +kernel
theorem dL_service_2 : decode cL_service 2 = .ok (.aload_n 0, 1) := by decide +kernel
theorem dL_service_3 : decode cL_service 3 = .ok (.iload_n 1, 1) := by decide +kernel
theorem dL_service_4 : decode cL_service 4 = .ok (.iload_n 2, 1) := by decide +kernel
theorem dL_service_5 : decode cL_service 5 = .ok (.invokevirtual 50, 3) := by decide +kernel
theorem dL_service_8 : decode cL_service 8 = .ok (.i2l, 1) := by decide +kernel
theorem dL_service_9 : decode cL_service 9 = .ok (.lastore, 1) := by decide +kernel
theorem dL_service_10 : decode cL_service 10 = .ok (.goto 15, 3) := by decide +kernel
theorem dL_service_13 : decode cL_service 13 = .ok (.astore 4, 2) := by decide +kernel
theorem dL_service_15 : decode cL_service 15 = .ok (.iconst 1, 1) := by decide +kernel
theorem dL_service_16 : decode cL_service 16 = .ok (.ireturn, 1) := by decide +kernel
theorem dL_service_17 : decode cL_service 17 = .ok (.astore 4, 2) := by decide +kernel
theorem dL_service_19 : decode cL_service 19 = .ok (.iconst 2, 1) := by decide +kernel
theorem dL_service_20 : decode cL_service 20 = .ok (.ireturn, 1) := by decide +kernel
theorem dL_service_21 : decode cL_service 21 = .ok (.astore 4, 2) := by decide +kernel
theorem dL_service_23 : decode cL_service 23 = .ok (.iconst 3, 1) := by decide +kernel
theorem dL_service_24 : decode cL_service 24 = .ok (.ireturn, 1) := by decide +kernel
theorem dL_service_25 : decode cL_service 25 = .ok (.iconst 0, 1) := by decide +kernel
theorem dL_service_26 : decode cL_service 26 = .ok (.ireturn, 1) := by decide +kernel
set_option maxRecDepth 20000 in
theorem ggL_plan_X0_plan : GoodIn wsL_plan wsX0_plan := goodIn_ca (goodIn_ca (goodIn_r _ [7, 8, 9, 10, 11, 12, 13, 6, 14, 15, 16, 17, 18, 19, 20, 21, 22, 23, 24, 25, 26, 27, 28, 29, 30, 31, 32, 33, 34, 35, 36, 37, 38, 39, 40, 41, 42, 43, 44, 45, 46, 47, 48, 49, 50, 51, 52, 53, 54, 55, 56, 57, 58, 59, 60, 61, 62, 63, 64, 65, 66, 67, 68, 69, 70, 71, 72, 73, 74, 75, 76, 77, 78, 79, 80, 81, 82, 83, 84, 85, 86, 87, 88, 89] (by decide +kernel) (by decide +kernel)) (goodIn_sub (fun _ h => List.mem_cons_of_mem _ (List.mem_append_left _ (List.mem_append_right _ h))) (by decide +kernel))) (goodIn_sub (fun _ h => List.mem_cons_of_mem _ (List.mem_append_right _ h)) (by decide +kernel))
set_option maxRecDepth 20000 in
theorem gL_plan_X0_plan : GoodIn wsL_plan (wsV RL 53 RX0 yX0_plan wsX0_plan) := goodIn_app (goodIn_of _ (by decide +kernel)) ggL_plan_X0_plan
theorem dL_plan_0 : decode cL_plan 0 = .ok (.aload_n 2, 1) := by decide +kernel
theorem dL_plan_1 : decode cL_plan 1 = .ok (.iconst 0, 1) := by decide +kernel
theorem dL_plan_2 : decode cL_plan 2 = .ok (.aload_n 0, 1) := by decide +kernel
theorem dL_plan_3 : decode cL_plan 3 = .ok (.iload_n 1, 1) := by decide +kernel
theorem dL_plan_4 : decode cL_plan 4 = .ok (.invokevirtual 53, 3) := by decide +kernel
theorem dL_plan_7 : decode cL_plan 7 = .ok (.i2l, 1) := by decide +kernel
theorem dL_plan_8 : decode cL_plan 8 = .ok (.lastore, 1) := by decide +kernel
theorem dL_plan_9 : decode cL_plan 9 = .ok (.goto 9, 3) := by decide +kernel
theorem dL_plan_12 : decode cL_plan 12 = .ok (.astore_n 3, 1) := by decide +kernel
theorem dL_plan_13 : decode cL_plan 13 = .ok (.iconst 1, 1) := by decide +kernel
theorem dL_plan_14 : decode cL_plan 14 = .ok (.ireturn, 1) := by decide +kernel
theorem dL_plan_15 : decode cL_plan 15 = .ok (.astore_n 3, 1) := by decide +kernel
theorem dL_plan_16 : decode cL_plan 16 = .ok (.iconst 2, 1) := by decide +kernel
theorem dL_plan_17 : decode cL_plan 17 = .ok (.ireturn, 1) := by decide +kernel
theorem dL_plan_18 : decode cL_plan 18 = .ok (.iconst 0, 1) := by decide +kernel
theorem dL_plan_19 : decode cL_plan 19 = .ok (.ireturn, 1) := by decide +kernel
set_option maxRecDepth 20000 in
theorem ggL_hymnOf_X0_hymnOf : GoodIn wsL_hymnOf wsX0_hymnOf := goodIn_ca (goodIn_r _ [6, 7, 8, 9, 10, 5, 11, 12, 13, 14, 15, 16, 17, 18, 19, 20, 21, 22, 23, 24, 25, 26, 27, 28, 29, 30, 31, 32, 33, 34, 35, 36, 37, 38] (by decide +kernel) (by decide +kernel)) (goodIn_sub (fun _ h => List.mem_cons_of_mem _ (List.mem_append_right _ h)) (by decide +kernel))
set_option maxRecDepth 20000 in
theorem gL_hymnOf_X0_hymnOf : GoodIn wsL_hymnOf (wsV RL 56 RX0 yX0_hymnOf wsX0_hymnOf) := goodIn_app (goodIn_of _ (by decide +kernel)) ggL_hymnOf_X0_hymnOf
theorem dL_hymnOf_0 : decode cL_hymnOf 0 = .ok (.aload_n 2, 1) := by decide +kernel
theorem dL_hymnOf_1 : decode cL_hymnOf 1 = .ok (.iconst 0, 1) := by decide +kernel
theorem dL_hymnOf_2 : decode cL_hymnOf 2 = .ok (.aload_n 0, 1) := by decide +kernel
theorem dL_hymnOf_3 : decode cL_hymnOf 3 = .ok (.iload_n 1, 1) := by decide +kernel
theorem dL_hymnOf_4 : decode cL_hymnOf 4 = .ok (.invokevirtual 56, 3) := by decide +kernel
theorem dL_hymnOf_7 : decode cL_hymnOf 7 = .ok (.i2l, 1) := by decide +kernel
theorem dL_hymnOf_8 : decode cL_hymnOf 8 = .ok (.lastore, 1) := by decide +kernel
theorem dL_hymnOf_9 : decode cL_hymnOf 9 = .ok (.goto 6, 3) := by decide +kernel
theorem dL_hymnOf_12 : decode cL_hymnOf 12 = .ok (.astore_n 3, 1) := by decide +kernel
theorem dL_hymnOf_13 : decode cL_hymnOf 13 = .ok (.iconst 1, 1) := by decide +kernel
theorem dL_hymnOf_14 : decode cL_hymnOf 14 = .ok (.ireturn, 1) := by decide +kernel
theorem dL_hymnOf_15 : decode cL_hymnOf 15 = .ok (.iconst 0, 1) := by decide +kernel
theorem dL_hymnOf_16 : decode cL_hymnOf 16 = .ok (.ireturn, 1) := by decide +kernel
set_option maxRecDepth 20000 in
theorem ggL_sung_X0_sung : GoodIn wsL_sung wsX0_sung := goodIn_ca (goodIn_r _ [6, 7, 8, 9, 10, 11, 5, 12, 13, 14, 15, 16, 17, 18, 19, 20, 21, 22, 23, 24, 25, 26, 27, 28, 29, 30, 31, 32, 33, 34, 35, 36, 37, 38, 39, 40, 41, 42, 43, 44, 45, 46, 47, 48, 49, 50, 51, 52] (by decide +kernel) (by decide +kernel)) (goodIn_sub (fun _ h => List.mem_cons_of_mem _ (List.mem_append_right _ h)) (by decide +kernel))
set_option maxRecDepth 20000 in
theorem gL_sung_X0_sung : GoodIn wsL_sung (wsV RL 59 RX0 yX0_sung wsX0_sung) := goodIn_app (goodIn_of _ (by decide +kernel)) ggL_sung_X0_sung
theorem dL_sung_0 : decode cL_sung 0 = .ok (.aload_n 3, 1) := by decide +kernel
theorem dL_sung_1 : decode cL_sung 1 = .ok (.iconst 0, 1) := by decide +kernel
theorem dL_sung_2 : decode cL_sung 2 = .ok (.aload_n 0, 1) := by decide +kernel
theorem dL_sung_3 : decode cL_sung 3 = .ok (.iload_n 1, 1) := by decide +kernel
theorem dL_sung_4 : decode cL_sung 4 = .ok (.iload_n 2, 1) := by decide +kernel
theorem dL_sung_5 : decode cL_sung 5 = .ok (.invokevirtual 59, 3) := by decide +kernel
theorem dL_sung_8 : decode cL_sung 8 = .ok (.i2l, 1) := by decide +kernel
theorem dL_sung_9 : decode cL_sung 9 = .ok (.lastore, 1) := by decide +kernel
theorem dL_sung_10 : decode cL_sung 10 = .ok (.goto 7, 3) := by decide +kernel
theorem dL_sung_13 : decode cL_sung 13 = .ok (.astore 4, 2) := by decide +kernel
theorem dL_sung_15 : decode cL_sung 15 = .ok (.iconst 1, 1) := by decide +kernel
theorem dL_sung_16 : decode cL_sung 16 = .ok (.ireturn, 1) := by decide +kernel
theorem dL_sung_17 : decode cL_sung 17 = .ok (.iconst 0, 1) := by decide +kernel
theorem dL_sung_18 : decode cL_sung 18 = .ok (.ireturn, 1) := by decide +kernel
set_option maxRecDepth 20000 in
theorem ggL_sungByHymns_X0_sungByHymns : GoodIn wsL_sungByHymns wsX0_sungByHymns := goodIn_ca (goodIn_r _ [6, 7, 8, 9, 10, 5, 11, 12, 13, 14, 15, 16, 17, 18, 19, 20, 21, 22, 23, 24, 25, 26, 27, 28, 29, 30, 31, 32, 33, 34, 35, 36, 37, 38, 39, 40, 41, 42, 43, 44, 45, 46, 47, 48, 49, 50, 51, 52] (by decide +kernel) (by decide +kernel)) (goodIn_sub (fun _ h => List.mem_cons_of_mem _ (List.mem_append_right _ h)) (by decide +kernel))
set_option maxRecDepth 20000 in
theorem gL_sungByHymns_X0_sungByHymns : GoodIn wsL_sungByHymns (wsV RL 62 RX0 yX0_sungByHymns wsX0_sungByHymns) := goodIn_app (goodIn_of _ (by decide +kernel)) ggL_sungByHymns_X0_sungByHymns
theorem dL_sungByHymns_0 : decode cL_sungByHymns 0 = .ok (.aload_n 3, 1) := by decide +kernel
theorem dL_sungByHymns_1 : decode cL_sungByHymns 1 = .ok (.iconst 0, 1) := by decide +kernel
theorem dL_sungByHymns_2 : decode cL_sungByHymns 2 = .ok (.aload_n 0, 1) := by decide +kernel
theorem dL_sungByHymns_3 : decode cL_sungByHymns 3 = .ok (.iload_n 1, 1) := by decide +kernel
theorem dL_sungByHymns_4 : decode cL_sungByHymns 4 = .ok (.iload_n 2, 1) := by decide +kernel
theorem dL_sungByHymns_5 : decode cL_sungByHymns 5 = .ok (.invokevirtual 62, 3) := by decide +kernel
theorem dL_sungByHymns_8 : decode cL_sungByHymns 8 = .ok (.i2l, 1) := by decide +kernel
theorem dL_sungByHymns_9 : decode cL_sungByHymns 9 = .ok (.lastore, 1) := by decide +kernel
theorem dL_sungByHymns_10 : decode cL_sungByHymns 10 = .ok (.goto 7, 3) := by decide +kernel
theorem dL_sungByHymns_13 : decode cL_sungByHymns 13 = .ok (.astore 4, 2) := by decide +kernel
theorem dL_sungByHymns_15 : decode cL_sungByHymns 15 = .ok (.iconst 1, 1) := by decide +kernel
theorem dL_sungByHymns_16 : decode cL_sungByHymns 16 = .ok (.ireturn, 1) := by decide +kernel
theorem dL_sungByHymns_17 : decode cL_sungByHymns 17 = .ok (.iconst 0, 1) := by decide +kernel
theorem dL_sungByHymns_18 : decode cL_sungByHymns 18 = .ok (.ireturn, 1) := by decide +kernel
set_option maxRecDepth 20000 in
theorem ggL_pass_X0_pass : GoodIn wsL_pass wsX0_pass := goodIn_ca (goodIn_ca (goodIn_r _ [7, 8, 9, 10, 6, 11, 12, 13, 14, 15, 16, 17, 18, 19, 20, 21, 22, 23, 24, 25, 26, 27, 28, 29, 30, 31, 32, 33, 34, 35, 36, 37, 38, 39] (by decide +kernel) (by decide +kernel)) (goodIn_sub (fun _ h => List.mem_cons_of_mem _ (List.mem_append_left _ (List.mem_append_right _ h))) (by decide +kernel))) (goodIn_sub (fun _ h => List.mem_cons_of_mem _ (List.mem_append_right _ h)) (by decide +kernel))
set_option maxRecDepth 20000 in
theorem gL_pass_X0_pass : GoodIn wsL_pass (wsV RL 65 RX0 yX0_pass wsX0_pass) := goodIn_app (goodIn_of _ (by decide +kernel)) ggL_pass_X0_pass
theorem dL_pass_0 : decode cL_pass 0 = .ok (.aload_n 2, 1) := by decide +kernel
theorem dL_pass_1 : decode cL_pass 1 = .ok (.iconst 0, 1) := by decide +kernel
theorem dL_pass_2 : decode cL_pass 2 = .ok (.aload_n 0, 1) := by decide +kernel
theorem dL_pass_3 : decode cL_pass 3 = .ok (.iload_n 1, 1) := by decide +kernel
theorem dL_pass_4 : decode cL_pass 4 = .ok (.invokevirtual 65, 3) := by decide +kernel
theorem dL_pass_7 : decode cL_pass 7 = .ok (.i2l, 1) := by decide +kernel
theorem dL_pass_8 : decode cL_pass 8 = .ok (.lastore, 1) := by decide +kernel
theorem dL_pass_9 : decode cL_pass 9 = .ok (.goto 9, 3) := by decide +kernel
theorem dL_pass_12 : decode cL_pass 12 = .ok (.astore_n 3, 1) := by decide +kernel
theorem dL_pass_13 : decode cL_pass 13 = .ok (.iconst 1, 1) := by decide +kernel
theorem dL_pass_14 : decode cL_pass 14 = .ok (.ireturn, 1) := by decide +kernel
theorem dL_pass_15 : decode cL_pass 15 = .ok (.astore_n 3, 1) := by decide +kernel
theorem dL_pass_16 : decode cL_pass 16 = .ok (.iconst 2, 1) := by decide +kernel
theorem dL_pass_17 : decode cL_pass 17 = .ok (.ireturn, 1) := by decide +kernel
theorem dL_pass_18 : decode cL_pass 18 = .ok (.iconst 0, 1) := by decide +kernel
theorem dL_pass_19 : decode cL_pass 19 = .ok (.ireturn, 1) := by decide +kernel
set_option maxRecDepth 20000 in
theorem ggL_law_X0_init : GoodIn wsL_law wsX0_init := goodIn_r _ [9, 10, 11, 12, 13, 14, 15, 16, 17, 18, 19, 20, 21, 22, 23, 24, 25, 26, 27, 428, 429, 430, 431, 432, 433, 434, 435, 436, 437, 438, 439, 440, 441, 442, 443, 444, 445] (by decide +kernel) (by decide +kernel)
set_option maxRecDepth 20000 in
theorem gL_law_X0_init : GoodIn wsL_law (wsX0_init) := ggL_law_X0_init
set_option maxRecDepth 20000 in
theorem ggL_law_X1_init : GoodIn wsL_law wsX1_init := goodIn_r _ [30, 31, 11, 12, 13, 32, 33, 34, 35, 36, 37, 38, 39, 40, 41, 42, 43, 44, 45, 46, 446, 447, 448, 449, 450, 451, 452, 453, 454, 455, 456, 457, 458, 459, 460, 461, 462, 463, 464] (by decide +kernel) (by decide +kernel)
set_option maxRecDepth 20000 in
theorem gL_law_X1_init : GoodIn wsL_law (wsX1_init) := ggL_law_X1_init
set_option maxRecDepth 20000 in
theorem ggL_law_L_hymn : GoodIn wsL_law wsL_hymn := goodIn_ca (goodIn_ca (goodIn_ca (goodIn_r _ [50, 51, 52, 53, 54, 55, 56, 2, 57, 58, 14, 15, 16, 17, 18, 59, 60, 61, 62, 63, 64, 65, 66, 67, 68, 69, 70, 71, 72, 73, 74, 75, 76, 77, 78, 79, 80, 81, 82, 83, 84, 85, 428, 429, 430, 431, 432, 433, 434, 435, 436, 437, 438, 439, 440, 441, 442, 443, 444, 445] (by decide +kernel) (by decide +kernel)) (goodIn_sub (fun _ h => List.mem_append_left _ (List.mem_append_left _ (List.mem_append_right _ h))) (by decide +kernel))) (goodIn_sub (fun _ h => List.mem_append_left _ (List.mem_append_right _ h)) (by decide +kernel))) (goodIn_sub (fun _ h => List.mem_append_right _ h) (by decide +kernel))
set_option maxRecDepth 20000 in
theorem gL_law_L_hymn : GoodIn wsL_law (va_wsS RL 72 yL_hymn wsL_hymn) := goodIn_app (goodIn_of _ (by decide +kernel)) ggL_law_L_hymn
set_option maxRecDepth 20000 in
theorem ggL_law_X1_hymn : GoodIn wsL_law wsX1_hymn := goodIn_r _ [89, 90, 91, 32, 33, 34, 35, 92, 93, 5, 94, 446, 447, 448, 449, 450, 451, 452, 453, 454, 455, 456, 457, 458, 459, 460, 461, 462, 463, 464] (by decide +kernel) (by decide +kernel)
set_option maxRecDepth 20000 in
theorem gL_law_X1_hymn : GoodIn wsL_law (wsV RL 77 RX1 yX1_hymn wsX1_hymn) := goodIn_app (goodIn_of _ (by decide +kernel)) ggL_law_X1_hymn
set_option maxRecDepth 20000 in
theorem ggL_law_X1_thrown : GoodIn wsL_law wsX1_thrown := goodIn_r _ [98, 91, 446, 447, 448, 449, 450, 451, 452, 453, 454, 455, 456, 457, 458, 459, 460, 461, 462, 463, 464] (by decide +kernel) (by decide +kernel)
set_option maxRecDepth 20000 in
theorem gL_law_X1_thrown : GoodIn wsL_law (wsV RL 78 RX1 yX1_thrown wsX1_thrown) := goodIn_app (goodIn_of _ (by decide +kernel)) ggL_law_X1_thrown
set_option maxRecDepth 20000 in
theorem ggL_law_X0_hymns : GoodIn wsL_law wsX0_hymns := goodIn_r _ [102, 58, 428, 429, 430, 431, 432, 433, 434, 435, 436, 437, 438, 439, 440, 441, 442, 443, 444, 445] (by decide +kernel) (by decide +kernel)
set_option maxRecDepth 20000 in
theorem gL_law_X0_hymns : GoodIn wsL_law (wsV RL 82 RX0 yX0_hymns wsX0_hymns) := goodIn_app (goodIn_of _ (by decide +kernel)) ggL_law_X0_hymns
set_option maxRecDepth 20000 in
theorem ggL_law_X1_hymns : GoodIn wsL_law wsX1_hymns := goodIn_r _ [106, 91, 90, 446, 447, 448, 449, 450, 451, 452, 453, 454, 455, 456, 457, 458, 459, 460, 461, 462, 463, 464] (by decide +kernel) (by decide +kernel)
set_option maxRecDepth 20000 in
theorem gL_law_X1_hymns : GoodIn wsL_law (wsV RL 85 RX1 yX1_hymns wsX1_hymns) := goodIn_app (goodIn_of _ (by decide +kernel)) ggL_law_X1_hymns
set_option maxRecDepth 20000 in
theorem ggL_law_L_pages : GoodIn wsL_law wsL_pages := goodIn_ca (goodIn_r _ [109, 51, 110, 111, 112, 2, 113, 114, 115, 116, 117, 58, 59, 60, 61, 62, 63, 64, 65, 66, 118, 119, 120, 121, 18, 122, 123, 124, 125, 126, 127, 128, 428, 429, 430, 431, 432, 433, 434, 435, 436, 437, 438, 439, 440, 441, 442, 443, 444, 445] (by decide +kernel) (by decide +kernel)) (goodIn_sub (fun _ h => List.mem_append_left _ (List.mem_append_left _ (List.mem_append_right _ h))) (by decide +kernel))
set_option maxRecDepth 20000 in
theorem gL_law_L_pages : GoodIn wsL_law (va_wsS RL 86 yL_pages wsL_pages) := goodIn_app (goodIn_of _ (by decide +kernel)) ggL_law_L_pages
set_option maxRecDepth 20000 in
theorem ggL_law_X1_pages : GoodIn wsL_law wsX1_pages := goodIn_r _ [132, 91, 133, 134, 135, 5, 136, 90, 92, 93, 94, 137, 138, 139, 140, 34, 141, 142, 143, 144, 145, 146, 147, 148, 35, 446, 447, 448, 449, 450, 451, 452, 453, 454, 455, 456, 457, 458, 459, 460, 461, 462, 463, 464] (by decide +kernel) (by decide +kernel)
set_option maxRecDepth 20000 in
theorem gL_law_X1_pages : GoodIn wsL_law (wsV RL 89 RX1 yX1_pages wsX1_pages) := goodIn_app (goodIn_of _ (by decide +kernel)) ggL_law_X1_pages
set_option maxRecDepth 20000 in
theorem ggL_law_L_pageOf : GoodIn wsL_law wsL_pageOf := goodIn_ca (goodIn_r _ [151, 51, 152, 153, 154, 2, 155, 16, 18, 114, 115, 116, 117, 58, 59, 60, 61, 62, 63, 64, 65, 66, 122, 123, 124, 125, 126, 127, 128, 428, 429, 430, 431, 432, 433, 434, 435, 436, 437, 438, 439, 440, 441, 442, 443, 444, 445] (by decide +kernel) (by decide +kernel)) (goodIn_sub (fun _ h => List.mem_append_left _ (List.mem_append_left _ (List.mem_append_right _ h))) (by decide +kernel))
set_option maxRecDepth 20000 in
theorem gL_law_L_pageOf : GoodIn wsL_law (va_wsS RL 90 yL_pageOf wsL_pageOf) := goodIn_app (goodIn_of _ (by decide +kernel)) ggL_law_L_pageOf
set_option maxRecDepth 20000 in
theorem ggL_law_X1_pageOf : GoodIn wsL_law wsX1_pageOf := goodIn_r _ [159, 34, 91, 133, 134, 135, 5, 136, 90, 92, 93, 94, 141, 142, 143, 144, 145, 146, 147, 148, 35, 446, 447, 448, 449, 450, 451, 452, 453, 454, 455, 456, 457, 458, 459, 460, 461, 462, 463, 464] (by decide +kernel) (by decide +kernel)
set_option maxRecDepth 20000 in
theorem gL_law_X1_pageOf : GoodIn wsL_law (wsV RL 93 RX1 yX1_pageOf wsX1_pageOf) := goodIn_app (goodIn_of _ (by decide +kernel)) ggL_law_X1_pageOf
set_option maxRecDepth 20000 in
theorem ggL_law_L_badTurns : GoodIn wsL_law wsL_badTurns := goodIn_ca (goodIn_r _ [162, 51, 163, 164, 165, 2, 166, 18, 17, 114, 115, 116, 117, 58, 59, 60, 61, 62, 63, 64, 65, 66, 122, 123, 124, 125, 126, 127, 128, 428, 429, 430, 431, 432, 433, 434, 435, 436, 437, 438, 439, 440, 441, 442, 443, 444, 445] (by decide +kernel) (by decide +kernel)) (goodIn_sub (fun _ h => List.mem_append_left _ (List.mem_append_left _ (List.mem_append_right _ h))) (by decide +kernel))
set_option maxRecDepth 20000 in
theorem gL_law_L_badTurns : GoodIn wsL_law (va_wsS RL 94 yL_badTurns wsL_badTurns) := goodIn_app (goodIn_of _ (by decide +kernel)) ggL_law_L_badTurns
set_option maxRecDepth 20000 in
theorem ggL_law_X1_badTurns : GoodIn wsL_law wsX1_badTurns := goodIn_r _ [170, 91, 34, 133, 134, 135, 5, 136, 90, 92, 93, 94, 141, 142, 143, 144, 145, 146, 147, 148, 35, 446, 447, 448, 449, 450, 451, 452, 453, 454, 455, 456, 457, 458, 459, 460, 461, 462, 463, 464] (by decide +kernel) (by decide +kernel)
set_option maxRecDepth 20000 in
theorem gL_law_X1_badTurns : GoodIn wsL_law (wsV RL 96 RX1 yX1_badTurns wsX1_badTurns) := goodIn_app (goodIn_of _ (by decide +kernel)) ggL_law_X1_badTurns
set_option maxRecDepth 20000 in
theorem ggL_law_L_right : GoodIn wsL_law wsL_right := goodIn_ca (goodIn_ca (goodIn_ca (goodIn_r _ [173, 51, 52, 53, 174, 175, 176, 2, 177, 178, 21, 22, 23, 24, 114, 115, 116, 117, 58, 59, 60, 61, 62, 63, 64, 65, 66, 179, 180, 181, 182, 183, 184, 67, 68, 69, 70, 71, 72, 73, 74, 75, 76, 428, 429, 430, 431, 432, 433, 434, 435, 436, 437, 438, 439, 440, 441, 442, 443, 444, 445] (by decide +kernel) (by decide +kernel)) (goodIn_sub (fun _ h => List.mem_append_left _ (List.mem_append_left _ (List.mem_append_right _ h))) (by decide +kernel))) (goodIn_sub (fun _ h => List.mem_append_left _ (List.mem_append_right _ h)) (by decide +kernel))) (goodIn_sub (fun _ h => List.mem_append_right _ h) (by decide +kernel))
set_option maxRecDepth 20000 in
theorem gL_law_L_right : GoodIn wsL_law (va_wsS RL 97 yL_right wsL_right) := goodIn_app (goodIn_of _ (by decide +kernel)) ggL_law_L_right
set_option maxRecDepth 20000 in
theorem ggL_law_X1_right : GoodIn wsL_law wsX1_right := goodIn_r _ [188, 189, 91, 37, 38, 39, 40, 133, 134, 135, 5, 136, 90, 92, 93, 94, 190, 191, 192, 193, 194, 195, 446, 447, 448, 449, 450, 451, 452, 453, 454, 455, 456, 457, 458, 459, 460, 461, 462, 463, 464] (by decide +kernel) (by decide +kernel)
set_option maxRecDepth 20000 in
theorem gL_law_X1_right : GoodIn wsL_law (wsV RL 99 RX1 yX1_right wsX1_right) := goodIn_app (goodIn_of _ (by decide +kernel)) ggL_law_X1_right
set_option maxRecDepth 20000 in
theorem ggL_law_L_end : GoodIn wsL_law wsL_end := goodIn_ca (goodIn_ca (goodIn_ca (goodIn_r _ [198, 51, 52, 53, 199, 200, 201, 2, 202, 178, 203, 24, 59, 60, 61, 62, 63, 64, 65, 66, 67, 68, 69, 70, 71, 72, 73, 74, 75, 76, 204, 205, 206, 207, 208, 27, 209, 210, 211, 212, 26, 213, 214, 215, 216, 21, 22, 23, 217, 218, 219, 220, 83, 84, 85, 221, 222, 223, 224, 25, 225, 226, 227, 228, 58, 229, 230, 231, 232, 19, 15, 233, 234, 235, 236, 237, 238, 239, 240, 241, 242, 243, 244, 245, 246, 247, 248, 249, 250, 251, 252, 253, 254, 428, 429, 430, 431, 432, 433, 434, 435, 436, 437, 438, 439, 440, 441, 442, 443, 444, 445] (by decide +kernel) (by decide +kernel)) (goodIn_sub (fun _ h => List.mem_append_left _ (List.mem_append_left _ (List.mem_append_right _ h))) (by decide +kernel))) (goodIn_sub (fun _ h => List.mem_append_left _ (List.mem_append_right _ h)) (by decide +kernel))) (goodIn_sub (fun _ h => List.mem_append_right _ h) (by decide +kernel))
set_option maxRecDepth 20000 in
theorem gL_law_L_end : GoodIn wsL_law (va_wsS RL 100 yL_end wsL_end) := goodIn_app (goodIn_of _ (by decide +kernel)) ggL_law_L_end
set_option maxRecDepth 20000 in
theorem ggL_law_X1_end : GoodIn wsL_law wsX1_end := goodIn_r _ [258, 189, 91, 259, 40, 260, 46, 43, 44, 92, 93, 5, 94, 261, 262, 263, 264, 37, 38, 39, 265, 266, 267, 268, 90, 41, 42, 33, 269, 270, 271, 272, 273, 274, 275, 276, 446, 447, 448, 449, 450, 451, 452, 453, 454, 455, 456, 457, 458, 459, 460, 461, 462, 463, 464] (by decide +kernel) (by decide +kernel)
set_option maxRecDepth 20000 in
theorem gL_law_X1_end : GoodIn wsL_law (wsV RL 102 RX1 yX1_end wsX1_end) := goodIn_app (goodIn_of _ (by decide +kernel)) ggL_law_X1_end
set_option maxRecDepth 20000 in
theorem ggL_law_L_hasRight : GoodIn wsL_law wsL_hasRight := goodIn_ca (goodIn_ca (goodIn_r _ [279, 51, 52, 280, 281, 282, 2, 283, 114, 115, 116, 117, 58, 59, 60, 61, 62, 63, 64, 65, 66, 179, 180, 181, 182, 183, 184, 67, 68, 69, 70, 71, 213, 214, 215, 216, 178, 21, 22, 23, 24, 428, 429, 430, 431, 432, 433, 434, 435, 436, 437, 438, 439, 440, 441, 442, 443, 444, 445] (by decide +kernel) (by decide +kernel)) (goodIn_sub (fun _ h => List.mem_append_left _ (List.mem_append_left _ (List.mem_append_right _ h))) (by decide +kernel))) (goodIn_sub (fun _ h => List.mem_append_left _ (List.mem_append_right _ h)) (by decide +kernel))
set_option maxRecDepth 20000 in
theorem gL_law_L_hasRight : GoodIn wsL_law (va_wsS RL 103 yL_hasRight wsL_hasRight) := goodIn_app (goodIn_of _ (by decide +kernel)) ggL_law_L_hasRight
set_option maxRecDepth 20000 in
theorem ggL_law_X1_hasRight : GoodIn wsL_law wsX1_hasRight := goodIn_r _ [287, 91, 133, 134, 135, 5, 136, 90, 92, 93, 94, 190, 191, 192, 193, 194, 195, 261, 262, 263, 264, 189, 37, 38, 39, 40, 446, 447, 448, 449, 450, 451, 452, 453, 454, 455, 456, 457, 458, 459, 460, 461, 462, 463, 464] (by decide +kernel) (by decide +kernel)
set_option maxRecDepth 20000 in
theorem gL_law_X1_hasRight : GoodIn wsL_law (wsV RL 106 RX1 yX1_hasRight wsX1_hasRight) := goodIn_app (goodIn_of _ (by decide +kernel)) ggL_law_X1_hasRight
set_option maxRecDepth 20000 in
theorem ggL_law_L_print : GoodIn wsL_law wsL_print := goodIn_ca (goodIn_ca (goodIn_ca (goodIn_r _ [290, 51, 52, 53, 291, 292, 293, 2, 294, 203, 20, 114, 115, 116, 117, 58, 59, 60, 61, 62, 63, 64, 65, 66, 67, 68, 69, 70, 71, 213, 214, 215, 216, 178, 21, 22, 23, 24, 72, 73, 74, 75, 76, 295, 296, 297, 118, 119, 120, 121, 18, 122, 123, 124, 125, 126, 127, 128, 428, 429, 430, 431, 432, 433, 434, 435, 436, 437, 438, 439, 440, 441, 442, 443, 444, 445] (by decide +kernel) (by decide +kernel)) (goodIn_sub (fun _ h => List.mem_append_left _ (List.mem_append_left _ (List.mem_append_right _ h))) (by decide +kernel))) (goodIn_sub (fun _ h => List.mem_append_left _ (List.mem_append_right _ h)) (by decide +kernel))) (goodIn_sub (fun _ h => List.mem_append_right _ h) (by decide +kernel))
set_option maxRecDepth 20000 in
theorem gL_law_L_print : GoodIn wsL_law (va_wsS RL 107 yL_print wsL_print) := goodIn_app (goodIn_of _ (by decide +kernel)) ggL_law_L_print
set_option maxRecDepth 20000 in
theorem ggL_law_X1_print : GoodIn wsL_law wsX1_print := goodIn_r _ [301, 91, 259, 36, 133, 134, 135, 5, 136, 90, 92, 93, 94, 261, 262, 263, 264, 189, 37, 38, 39, 40, 137, 138, 139, 140, 34, 141, 142, 143, 144, 145, 146, 147, 148, 35, 446, 447, 448, 449, 450, 451, 452, 453, 454, 455, 456, 457, 458, 459, 460, 461, 462, 463, 464] (by decide +kernel) (by decide +kernel)
set_option maxRecDepth 20000 in
theorem gL_law_X1_print : GoodIn wsL_law (wsV RL 109 RX1 yX1_print wsX1_print) := goodIn_app (goodIn_of _ (by decide +kernel)) ggL_law_X1_print
set_option maxRecDepth 20000 in
theorem ggL_law_L_printed : GoodIn wsL_law wsL_printed := goodIn_ca (goodIn_r _ [304, 51, 305, 306, 307, 2, 308, 20, 114, 115, 116, 117, 58, 59, 60, 61, 62, 63, 64, 65, 66, 309, 310, 311, 428, 429, 430, 431, 432, 433, 434, 435, 436, 437, 438, 439, 440, 441, 442, 443, 444, 445] (by decide +kernel) (by decide +kernel)) (goodIn_sub (fun _ h => List.mem_append_left _ (List.mem_append_left _ (List.mem_append_right _ h))) (by decide +kernel))
set_option maxRecDepth 20000 in
theorem gL_law_L_printed : GoodIn wsL_law (va_wsS RL 110 yL_printed wsL_printed) := goodIn_app (goodIn_of _ (by decide +kernel)) ggL_law_L_printed
set_option maxRecDepth 20000 in
theorem ggL_law_X1_printed : GoodIn wsL_law wsX1_printed := goodIn_r _ [315, 91, 36, 133, 134, 135, 5, 136, 90, 92, 93, 94, 446, 447, 448, 449, 450, 451, 452, 453, 454, 455, 456, 457, 458, 459, 460, 461, 462, 463, 464] (by decide +kernel) (by decide +kernel)
set_option maxRecDepth 20000 in
theorem gL_law_X1_printed : GoodIn wsL_law (wsV RL 112 RX1 yX1_printed wsX1_printed) := goodIn_app (goodIn_of _ (by decide +kernel)) ggL_law_X1_printed
set_option maxRecDepth 20000 in
theorem ggL_law_L_learn : GoodIn wsL_law wsL_learn := goodIn_ca (goodIn_r _ [318, 51, 319, 320, 321, 2, 322, 19, 323, 324, 325, 59, 60, 61, 62, 63, 64, 65, 66, 114, 115, 116, 117, 58, 83, 84, 85, 428, 429, 430, 431, 432, 433, 434, 435, 436, 437, 438, 439, 440, 441, 442, 443, 444, 445] (by decide +kernel) (by decide +kernel)) (goodIn_sub (fun _ h => List.mem_append_left _ (List.mem_append_left _ (List.mem_append_right _ h))) (by decide +kernel))
set_option maxRecDepth 20000 in
theorem gL_law_L_learn : GoodIn wsL_law (va_wsS RL 113 yL_learn wsL_learn) := goodIn_app (goodIn_of _ (by decide +kernel)) ggL_law_L_learn
set_option maxRecDepth 20000 in
theorem ggL_law_X1_learn : GoodIn wsL_law wsX1_learn := goodIn_r _ [329, 91, 41, 92, 93, 5, 94, 133, 134, 135, 136, 90, 446, 447, 448, 449, 450, 451, 452, 453, 454, 455, 456, 457, 458, 459, 460, 461, 462, 463, 464] (by decide +kernel) (by decide +kernel)
set_option maxRecDepth 20000 in
theorem gL_law_X1_learn : GoodIn wsL_law (wsV RL 115 RX1 yX1_learn wsX1_learn) := goodIn_app (goodIn_of _ (by decide +kernel)) ggL_law_X1_learn
set_option maxRecDepth 20000 in
theorem ggL_law_L_service : GoodIn wsL_law wsL_service := goodIn_ca (goodIn_ca (goodIn_ca (goodIn_r _ [332, 51, 52, 53, 333, 334, 335, 2, 336, 203, 208, 25, 26, 323, 324, 325, 59, 60, 61, 62, 63, 64, 65, 66, 67, 68, 69, 70, 71, 72, 73, 74, 75, 76, 337, 338, 339, 340, 221, 222, 223, 224, 27, 225, 226, 227, 228, 58, 229, 230, 231, 232, 19, 15, 83, 84, 85, 233, 234, 235, 213, 214, 215, 216, 178, 21, 22, 23, 24, 236, 237, 238, 239, 240, 241, 242, 243, 244, 245, 246, 247, 428, 429, 430, 431, 432, 433, 434, 435, 436, 437, 438, 439, 440, 441, 442, 443, 444, 445] (by decide +kernel) (by decide +kernel)) (goodIn_sub (fun _ h => List.mem_append_left _ (List.mem_append_left _ (List.mem_append_right _ h))) (by decide +kernel))) (goodIn_sub (fun _ h => List.mem_append_left _ (List.mem_append_right _ h)) (by decide +kernel))) (goodIn_sub (fun _ h => List.mem_append_right _ h) (by decide +kernel))
set_option maxRecDepth 20000 in
theorem gL_law_L_service : GoodIn wsL_law (va_wsS RL 116 yL_service wsL_service) := goodIn_app (goodIn_of _ (by decide +kernel)) ggL_law_L_service
set_option maxRecDepth 20000 in
theorem ggL_law_X1_service : GoodIn wsL_law wsX1_service := goodIn_r _ [344, 259, 91, 260, 42, 43, 44, 92, 93, 5, 94, 265, 266, 267, 268, 90, 41, 33, 261, 262, 263, 264, 189, 37, 38, 39, 40, 269, 270, 271, 272, 273, 274, 275, 276, 446, 447, 448, 449, 450, 451, 452, 453, 454, 455, 456, 457, 458, 459, 460, 461, 462, 463, 464] (by decide +kernel) (by decide +kernel)
set_option maxRecDepth 20000 in
theorem gL_law_X1_service : GoodIn wsL_law (wsV RL 118 RX1 yX1_service wsX1_service) := goodIn_app (goodIn_of _ (by decide +kernel)) ggL_law_X1_service
set_option maxRecDepth 20000 in
theorem ggL_law_L_plan : GoodIn wsL_law wsL_plan := goodIn_ca (goodIn_ca (goodIn_r _ [347, 51, 53, 348, 349, 350, 2, 351, 26, 203, 27, 352, 353, 354, 355, 208, 59, 60, 61, 62, 63, 64, 65, 66, 72, 73, 74, 75, 76, 221, 222, 223, 224, 25, 225, 226, 227, 228, 58, 229, 230, 231, 232, 19, 15, 83, 84, 85, 233, 234, 235, 213, 214, 215, 216, 178, 21, 22, 23, 24, 236, 237, 238, 239, 240, 241, 242, 243, 244, 245, 246, 247, 428, 429, 430, 431, 432, 433, 434, 435, 436, 437, 438, 439, 440, 441, 442, 443, 444, 445] (by decide +kernel) (by decide +kernel)) (goodIn_sub (fun _ h => List.mem_append_left _ (List.mem_append_left _ (List.mem_append_right _ h))) (by decide +kernel))) (goodIn_sub (fun _ h => List.mem_append_right _ h) (by decide +kernel))
set_option maxRecDepth 20000 in
theorem gL_law_L_plan : GoodIn wsL_law (va_wsS RL 119 yL_plan wsL_plan) := goodIn_app (goodIn_of _ (by decide +kernel)) ggL_law_L_plan
set_option maxRecDepth 20000 in
theorem ggL_law_X1_plan : GoodIn wsL_law wsX1_plan := goodIn_r _ [359, 43, 259, 91, 44, 360, 361, 362, 5, 363, 260, 92, 93, 94, 265, 266, 267, 268, 90, 41, 42, 33, 261, 262, 263, 264, 189, 37, 38, 39, 40, 269, 270, 271, 272, 273, 274, 275, 276, 446, 447, 448, 449, 450, 451, 452, 453, 454, 455, 456, 457, 458, 459, 460, 461, 462, 463, 464] (by decide +kernel) (by decide +kernel)
set_option maxRecDepth 20000 in
theorem gL_law_X1_plan : GoodIn wsL_law (wsV RL 121 RX1 yX1_plan wsX1_plan) := goodIn_app (goodIn_of _ (by decide +kernel)) ggL_law_X1_plan
set_option maxRecDepth 20000 in
theorem ggL_law_L_hymnOf : GoodIn wsL_law wsL_hymnOf := goodIn_ca (goodIn_r _ [366, 51, 367, 368, 369, 2, 370, 27, 352, 353, 354, 355, 208, 59, 60, 61, 62, 63, 64, 65, 66, 428, 429, 430, 431, 432, 433, 434, 435, 436, 437, 438, 439, 440, 441, 442, 443, 444, 445] (by decide +kernel) (by decide +kernel)) (goodIn_sub (fun _ h => List.mem_append_left _ (List.mem_append_left _ (List.mem_append_right _ h))) (by decide +kernel))
set_option maxRecDepth 20000 in
theorem gL_law_L_hymnOf : GoodIn wsL_law (va_wsS RL 122 yL_hymnOf wsL_hymnOf) := goodIn_app (goodIn_of _ (by decide +kernel)) ggL_law_L_hymnOf
set_option maxRecDepth 20000 in
theorem ggL_law_X1_hymnOf : GoodIn wsL_law wsX1_hymnOf := goodIn_r _ [374, 91, 44, 360, 361, 362, 5, 363, 260, 92, 93, 94, 446, 447, 448, 449, 450, 451, 452, 453, 454, 455, 456, 457, 458, 459, 460, 461, 462, 463, 464] (by decide +kernel) (by decide +kernel)
set_option maxRecDepth 20000 in
theorem gL_law_X1_hymnOf : GoodIn wsL_law (wsV RL 124 RX1 yX1_hymnOf wsX1_hymnOf) := goodIn_app (goodIn_of _ (by decide +kernel)) ggL_law_X1_hymnOf
set_option maxRecDepth 20000 in
theorem ggL_law_X0_silent : GoodIn wsL_law wsX0_silent := goodIn_r _ [378, 208, 26, 203, 27, 428, 429, 430, 431, 432, 433, 434, 435, 436, 437, 438, 439, 440, 441, 442, 443, 444, 445] (by decide +kernel) (by decide +kernel)
set_option maxRecDepth 20000 in
theorem gL_law_X0_silent : GoodIn wsL_law (wsV RL 125 RX0 yX0_silent wsX0_silent) := goodIn_app (goodIn_of _ (by decide +kernel)) ggL_law_X0_silent
set_option maxRecDepth 20000 in
theorem ggL_law_X1_silent : GoodIn wsL_law wsX1_silent := goodIn_r _ [382, 91, 260, 43, 259, 44, 446, 447, 448, 449, 450, 451, 452, 453, 454, 455, 456, 457, 458, 459, 460, 461, 462, 463, 464] (by decide +kernel) (by decide +kernel)
set_option maxRecDepth 20000 in
theorem gL_law_X1_silent : GoodIn wsL_law (wsV RL 128 RX1 yX1_silent wsX1_silent) := goodIn_app (goodIn_of _ (by decide +kernel)) ggL_law_X1_silent
set_option maxRecDepth 20000 in
theorem ggL_law_L_sung : GoodIn wsL_law wsL_sung := goodIn_ca (goodIn_r _ [385, 51, 386, 387, 388, 2, 389, 208, 27, 14, 59, 60, 61, 62, 63, 64, 65, 66, 309, 310, 311, 390, 391, 392, 393, 26, 203, 295, 296, 297, 114, 115, 116, 117, 58, 428, 429, 430, 431, 432, 433, 434, 435, 436, 437, 438, 439, 440, 441, 442, 443, 444, 445] (by decide +kernel) (by decide +kernel)) (goodIn_sub (fun _ h => List.mem_append_left _ (List.mem_append_left _ (List.mem_append_right _ h))) (by decide +kernel))
set_option maxRecDepth 20000 in
theorem gL_law_L_sung : GoodIn wsL_law (va_wsS RL 129 yL_sung wsL_sung) := goodIn_app (goodIn_of _ (by decide +kernel)) ggL_law_L_sung
set_option maxRecDepth 20000 in
theorem ggL_law_X1_sung : GoodIn wsL_law wsX1_sung := goodIn_r _ [397, 91, 92, 93, 5, 94, 398, 399, 400, 401, 260, 43, 259, 44, 32, 446, 447, 448, 449, 450, 451, 452, 453, 454, 455, 456, 457, 458, 459, 460, 461, 462, 463, 464] (by decide +kernel) (by decide +kernel)
set_option maxRecDepth 20000 in
theorem gL_law_X1_sung : GoodIn wsL_law (wsV RL 131 RX1 yX1_sung wsX1_sung) := goodIn_app (goodIn_of _ (by decide +kernel)) ggL_law_X1_sung
set_option maxRecDepth 20000 in
theorem ggL_law_L_sungByHymns : GoodIn wsL_law wsL_sungByHymns := goodIn_ca (goodIn_r _ [404, 51, 405, 406, 407, 2, 408, 58, 14, 59, 60, 61, 62, 63, 64, 65, 66, 309, 310, 311, 409, 410, 411, 412, 208, 27, 390, 391, 392, 393, 26, 203, 295, 296, 297, 428, 429, 430, 431, 432, 433, 434, 435, 436, 437, 438, 439, 440, 441, 442, 443, 444, 445] (by decide +kernel) (by decide +kernel)) (goodIn_sub (fun _ h => List.mem_append_left _ (List.mem_append_left _ (List.mem_append_right _ h))) (by decide +kernel))
set_option maxRecDepth 20000 in
theorem gL_law_L_sungByHymns : GoodIn wsL_law (va_wsS RL 132 yL_sungByHymns wsL_sungByHymns) := goodIn_app (goodIn_of _ (by decide +kernel)) ggL_law_L_sungByHymns
set_option maxRecDepth 20000 in
theorem ggL_law_X1_sungByHymns : GoodIn wsL_law wsX1_sungByHymns := goodIn_r _ [416, 91, 92, 93, 5, 94, 398, 399, 400, 401, 260, 43, 259, 44, 32, 446, 447, 448, 449, 450, 451, 452, 453, 454, 455, 456, 457, 458, 459, 460, 461, 462, 463, 464] (by decide +kernel) (by decide +kernel)
set_option maxRecDepth 20000 in
theorem gL_law_X1_sungByHymns : GoodIn wsL_law (wsV RL 134 RX1 yX1_sungByHymns wsX1_sungByHymns) := goodIn_app (goodIn_of _ (by decide +kernel)) ggL_law_X1_sungByHymns
set_option maxRecDepth 20000 in
theorem ggL_law_L_pass : GoodIn wsL_law wsL_pass := goodIn_ca (goodIn_ca (goodIn_r _ [419, 52, 53, 420, 421, 422, 2, 423, 203, 59, 60, 61, 67, 68, 69, 70, 71, 72, 73, 74, 75, 76, 428, 429, 430, 431, 432, 433, 434, 435, 436, 437, 438, 439, 440, 441, 442, 443, 444, 445] (by decide +kernel) (by decide +kernel)) (goodIn_sub (fun _ h => List.mem_append_left _ (List.mem_append_right _ h)) (by decide +kernel))) (goodIn_sub (fun _ h => List.mem_append_right _ h) (by decide +kernel))
set_option maxRecDepth 20000 in
theorem gL_law_L_pass : GoodIn wsL_law (va_wsS RL 135 yL_pass wsL_pass) := goodIn_app (goodIn_of _ (by decide +kernel)) ggL_law_L_pass
set_option maxRecDepth 20000 in
theorem ggL_law_X1_pass : GoodIn wsL_law wsX1_pass := goodIn_r _ [427, 259, 91, 92, 93, 5, 94, 446, 447, 448, 449, 450, 451, 452, 453, 454, 455, 456, 457, 458, 459, 460, 461, 462, 463, 464] (by decide +kernel) (by decide +kernel)
set_option maxRecDepth 20000 in
theorem gL_law_X1_pass : GoodIn wsL_law (wsV RL 137 RX1 yX1_pass wsX1_pass) := goodIn_app (goodIn_of _ (by decide +kernel)) ggL_law_X1_pass
theorem dL_law_0 : decode cL_law 0 = .ok (.new 8, 3) := by decide +kernel
theorem dL_law_3 : decode cL_law 3 = .ok (.dup, 1) := by decide +kernel
theorem dL_law_4 : decode cL_law 4 = .ok (.invokespecial 68, 3) := by decide +kernel
theorem dL_law_7 : decode cL_law 7 = .ok (.astore_n 1, 1) := by decide +kernel
theorem dL_law_8 : decode cL_law 8 = .ok (.new 69, 3) := by decide +kernel
theorem dL_law_11 : decode cL_law 11 = .ok (.dup, 1) := by decide +kernel
theorem dL_law_12 : decode cL_law 12 = .ok (.invokespecial 71, 3) := by decide +kernel
theorem dL_law_15 : decode cL_law 15 = .ok (.astore_n 2, 1) := by decide +kernel
theorem dL_law_16 : decode cL_law 16 = .ok (.iconst 1, 1) := by decide +kernel
theorem dL_law_17 : decode cL_law 17 = .ok (.newarray .long, 2) := by decide +kernel
theorem dL_law_19 : decode cL_law 19 = .ok (.astore_n 3, 1) := by decide +kernel
theorem dL_law_20 : decode cL_law 20 = .ok (.iconst 0, 1) := by decide +kernel
theorem dL_law_21 : decode cL_law 21 = .ok (.istore 4, 2) := by decide +kernel
theorem dL_law_23 : decode cL_law 23 = .ok (.iload 4, 2) := by decide +kernel
theorem dL_law_25 : decode cL_law 25 = .ok (.aload_n 0, 1) := by decide +kernel
theorem dL_law_26 : decode cL_law 26 = .ok (.arraylength, 1) := by decide +kernel
theorem dL_law_27 : decode cL_law 27 = .ok (.iconst 5, 1) := by decide +kernel
theorem dL_law_28 : decode cL_law 28 = .ok (.isub, 1) := by decide +kernel
theorem dL_law_29 : decode cL_law 29 = .ok (.if_icmp .gt 1229, 3) := by decide +kernel
theorem dL_law_32 : decode cL_law 32 = .ok (.aload_n 0, 1) := by decide +kernel
theorem dL_law_33 : decode cL_law 33 = .ok (.iload 4, 2) := by decide +kernel
theorem dL_law_35 : decode cL_law 35 = .ok (.iaload, 1) := by decide +kernel
theorem dL_law_36 : decode cL_law 36 = .ok (.bipush 31, 2) := by decide +kernel
theorem dL_law_38 : decode cL_law 38 = .ok (.iand, 1) := by decide +kernel
theorem dL_law_39 : decode cL_law 39 = .ok (.tableswitch 1213 0 17 #[85, 177, 190, 246, 314, 370, 462, 530, 617, 685, 753, 828, 896, 952, 1008, 1021, 1089, 1157], 85) := by decide +kernel
theorem dL_law_124 : decode cL_law 124 = .ok (.aload_n 1, 1) := by decide +kernel
theorem dL_law_125 : decode cL_law 125 = .ok (.aload_n 0, 1) := by decide +kernel
theorem dL_law_126 : decode cL_law 126 = .ok (.iload 4, 2) := by decide +kernel
theorem dL_law_128 : decode cL_law 128 = .ok (.iconst 1, 1) := by decide +kernel
theorem dL_law_129 : decode cL_law 129 = .ok (.iadd, 1) := by decide +kernel
theorem dL_law_130 : decode cL_law 130 = .ok (.iaload, 1) := by decide +kernel
theorem dL_law_131 : decode cL_law 131 = .ok (.aload_n 0, 1) := by decide +kernel
theorem dL_law_132 : decode cL_law 132 = .ok (.iload 4, 2) := by decide +kernel
theorem dL_law_134 : decode cL_law 134 = .ok (.iconst 2, 1) := by decide +kernel
theorem dL_law_135 : decode cL_law 135 = .ok (.iadd, 1) := by decide +kernel
theorem dL_law_136 : decode cL_law 136 = .ok (.iaload, 1) := by decide +kernel
theorem dL_law_137 : decode cL_law 137 = .ok (.aload_n 0, 1) := by decide +kernel
theorem dL_law_138 : decode cL_law 138 = .ok (.iload 4, 2) := by decide +kernel
theorem dL_law_140 : decode cL_law 140 = .ok (.iconst 3, 1) := by decide +kernel
theorem dL_law_141 : decode cL_law 141 = .ok (.iadd, 1) := by decide +kernel
theorem dL_law_142 : decode cL_law 142 = .ok (.iaload, 1) := by decide +kernel
theorem dL_law_143 : decode cL_law 143 = .ok (.aload_n 0, 1) := by decide +kernel
theorem dL_law_144 : decode cL_law 144 = .ok (.iload 4, 2) := by decide +kernel
theorem dL_law_146 : decode cL_law 146 = .ok (.iconst 4, 1) := by decide +kernel
theorem dL_law_147 : decode cL_law 147 = .ok (.iadd, 1) := by decide +kernel
theorem dL_law_148 : decode cL_law 148 = .ok (.iaload, 1) := by decide +kernel
theorem dL_law_149 : decode cL_law 149 = .ok (.aload_n 3, 1) := by decide +kernel
theorem dL_law_150 : decode cL_law 150 = .ok (.invokestatic 72, 3) := by decide +kernel
theorem dL_law_153 : decode cL_law 153 = .ok (.istore 5, 2) := by decide +kernel
theorem dL_law_155 : decode cL_law 155 = .ok (.aload_n 2, 1) := by decide +kernel
theorem dL_law_156 : decode cL_law 156 = .ok (.aload_n 0, 1) := by decide +kernel
theorem dL_law_157 : decode cL_law 157 = .ok (.iload 4, 2) := by decide +kernel
theorem dL_law_159 : decode cL_law 159 = .ok (.iconst 1, 1) := by decide +kernel
theorem dL_law_160 : decode cL_law 160 = .ok (.iadd, 1) := by decide +kernel
theorem dL_law_161 : decode cL_law 161 = .ok (.iaload, 1) := by decide +kernel
theorem dL_law_162 : decode cL_law 162 = .ok (.aload_n 0, 1) := by decide +kernel
theorem dL_law_163 : decode cL_law 163 = .ok (.iload 4, 2) := by decide +kernel
theorem dL_law_165 : decode cL_law 165 = .ok (.iconst 2, 1) := by decide +kernel
theorem dL_law_166 : decode cL_law 166 = .ok (.iadd, 1) := by decide +kernel
theorem dL_law_167 : decode cL_law 167 = .ok (.iaload, 1) := by decide +kernel
theorem dL_law_168 : decode cL_law 168 = .ok (.aload_n 0, 1) := by decide +kernel
theorem dL_law_169 : decode cL_law 169 = .ok (.iload 4, 2) := by decide +kernel
theorem dL_law_171 : decode cL_law 171 = .ok (.iconst 3, 1) := by decide +kernel
theorem dL_law_172 : decode cL_law 172 = .ok (.iadd, 1) := by decide +kernel
theorem dL_law_173 : decode cL_law 173 = .ok (.iaload, 1) := by decide +kernel
theorem dL_law_174 : decode cL_law 174 = .ok (.aload_n 0, 1) := by decide +kernel
theorem dL_law_175 : decode cL_law 175 = .ok (.iload 4, 2) := by decide +kernel
theorem dL_law_177 : decode cL_law 177 = .ok (.iconst 4, 1) := by decide +kernel
theorem dL_law_178 : decode cL_law 178 = .ok (.iadd, 1) := by decide +kernel
theorem dL_law_179 : decode cL_law 179 = .ok (.iaload, 1) := by decide +kernel
theorem dL_law_180 : decode cL_law 180 = .ok (.invokevirtual 77, 3) := by decide +kernel
theorem dL_law_183 : decode cL_law 183 = .ok (.istore 6, 2) := by decide +kernel
theorem dL_law_185 : decode cL_law 185 = .ok (.aload_n 2, 1) := by decide +kernel
theorem dL_law_186 : decode cL_law 186 = .ok (.invokevirtual 78, 3) := by decide +kernel
theorem dL_law_189 : decode cL_law 189 = .ok (.iload 5, 2) := by decide +kernel
theorem dL_law_191 : decode cL_law 191 = .ok (.if_icmp .eq 5, 3) := by decide +kernel
theorem dL_law_194 : decode cL_law 194 = .ok (.iconst 0, 1) := by decide +kernel
theorem dL_law_195 : decode cL_law 195 = .ok (.ireturn, 1) := by decide +kernel
theorem dL_law_196 : decode cL_law 196 = .ok (.iload 5, 2) := by decide +kernel
theorem dL_law_198 : decode cL_law 198 = .ok (.ifCond .ne 15, 3) := by decide +kernel
theorem dL_law_201 : decode cL_law 201 = .ok (.aload_n 3, 1) := by decide +kernel
theorem dL_law_202 : decode cL_law 202 = .ok (.iconst 0, 1) := by decide +kernel
theorem dL_law_203 : decode cL_law 203 = .ok (.laload, 1) := by decide +kernel
theorem dL_law_204 : decode cL_law 204 = .ok (.iload 6, 2) := by decide +kernel
theorem dL_law_206 : decode cL_law 206 = .ok (.i2l, 1) := by decide +kernel
theorem dL_law_207 : decode cL_law 207 = .ok (.lcmp, 1) := by decide +kernel
theorem dL_law_208 : decode cL_law 208 = .ok (.ifCond .eq 5, 3) := by decide +kernel
theorem dL_law_211 : decode cL_law 211 = .ok (.iconst 0, 1) := by decide +kernel
theorem dL_law_212 : decode cL_law 212 = .ok (.ireturn, 1) := by decide +kernel
theorem dL_law_213 : decode cL_law 213 = .ok (.goto 1039, 3) := by decide +kernel
theorem dL_law_216 : decode cL_law 216 = .ok (.aload_n 1, 1) := by decide +kernel
theorem dL_law_217 : decode cL_law 217 = .ok (.invokevirtual 82, 3) := by decide +kernel
theorem dL_law_220 : decode cL_law 220 = .ok (.aload_n 2, 1) := by decide +kernel
theorem dL_law_221 : decode cL_law 221 = .ok (.invokevirtual 85, 3) := by decide +kernel
theorem dL_law_224 : decode cL_law 224 = .ok (.if_icmp .eq 1028, 3) := by decide +kernel
theorem dL_law_227 : decode cL_law 227 = .ok (.iconst 0, 1) := by decide +kernel
theorem dL_law_228 : decode cL_law 228 = .ok (.ireturn, 1) := by decide +kernel
theorem dL_law_229 : decode cL_law 229 = .ok (.aload_n 1, 1) := by decide +kernel
theorem dL_law_230 : decode cL_law 230 = .ok (.aload_n 0, 1) := by decide +kernel
theorem dL_law_231 : decode cL_law 231 = .ok (.iload 4, 2) := by decide +kernel
theorem dL_law_233 : decode cL_law 233 = .ok (.iconst 1, 1) := by decide +kernel
theorem dL_law_234 : decode cL_law 234 = .ok (.iadd, 1) := by decide +kernel
theorem dL_law_235 : decode cL_law 235 = .ok (.iaload, 1) := by decide +kernel
theorem dL_law_236 : decode cL_law 236 = .ok (.aload_n 3, 1) := by decide +kernel
theorem dL_law_237 : decode cL_law 237 = .ok (.invokestatic 86, 3) := by decide +kernel
theorem dL_law_240 : decode cL_law 240 = .ok (.istore 5, 2) := by decide +kernel
theorem dL_law_242 : decode cL_law 242 = .ok (.aload_n 2, 1) := by decide +kernel
theorem dL_law_243 : decode cL_law 243 = .ok (.aload_n 0, 1) := by decide +kernel
theorem dL_law_244 : decode cL_law 244 = .ok (.iload 4, 2) := by decide +kernel
theorem dL_law_246 : decode cL_law 246 = .ok (.iconst 1, 1) := by decide +kernel
theorem dL_law_247 : decode cL_law 247 = .ok (.iadd, 1) := by decide +kernel
theorem dL_law_248 : decode cL_law 248 = .ok (.iaload, 1) := by decide +kernel
theorem dL_law_249 : decode cL_law 249 = .ok (.invokevirtual 89, 3) := by decide +kernel
theorem dL_law_252 : decode cL_law 252 = .ok (.istore 6, 2) := by decide +kernel
theorem dL_law_254 : decode cL_law 254 = .ok (.aload_n 2, 1) := by decide +kernel
theorem dL_law_255 : decode cL_law 255 = .ok (.invokevirtual 78, 3) := by decide +kernel
theorem dL_law_258 : decode cL_law 258 = .ok (.iload 5, 2) := by decide +kernel
theorem dL_law_260 : decode cL_law 260 = .ok (.if_icmp .eq 5, 3) := by decide +kernel
theorem dL_law_263 : decode cL_law 263 = .ok (.iconst 0, 1) := by decide +kernel
theorem dL_law_264 : decode cL_law 264 = .ok (.ireturn, 1) := by decide +kernel
theorem dL_law_265 : decode cL_law 265 = .ok (.iload 5, 2) := by decide +kernel
theorem dL_law_267 : decode cL_law 267 = .ok (.ifCond .ne 15, 3) := by decide +kernel
theorem dL_law_270 : decode cL_law 270 = .ok (.aload_n 3, 1) := by decide +kernel
theorem dL_law_271 : decode cL_law 271 = .ok (.iconst 0, 1) := by decide +kernel
theorem dL_law_272 : decode cL_law 272 = .ok (.laload, 1) := by decide +kernel
theorem dL_law_273 : decode cL_law 273 = .ok (.iload 6, 2) := by decide +kernel
theorem dL_law_275 : decode cL_law 275 = .ok (.i2l, 1) := by decide +kernel
theorem dL_law_276 : decode cL_law 276 = .ok (.lcmp, 1) := by decide +kernel
theorem dL_law_277 : decode cL_law 277 = .ok (.ifCond .eq 5, 3) := by decide +kernel
theorem dL_law_280 : decode cL_law 280 = .ok (.iconst 0, 1) := by decide +kernel
theorem dL_law_281 : decode cL_law 281 = .ok (.ireturn, 1) := by decide +kernel
theorem dL_law_282 : decode cL_law 282 = .ok (.goto 970, 3) := by decide +kernel
theorem dL_law_285 : decode cL_law 285 = .ok (.aload_n 1, 1) := by decide +kernel
theorem dL_law_286 : decode cL_law 286 = .ok (.aload_n 0, 1) := by decide +kernel
theorem dL_law_287 : decode cL_law 287 = .ok (.iload 4, 2) := by decide +kernel
theorem dL_law_289 : decode cL_law 289 = .ok (.iconst 1, 1) := by decide +kernel
theorem dL_law_290 : decode cL_law 290 = .ok (.iadd, 1) := by decide +kernel
theorem dL_law_291 : decode cL_law 291 = .ok (.iaload, 1) := by decide +kernel
theorem dL_law_292 : decode cL_law 292 = .ok (.aload_n 0, 1) := by decide +kernel
theorem dL_law_293 : decode cL_law 293 = .ok (.iload 4, 2) := by decide +kernel
theorem dL_law_295 : decode cL_law 295 = .ok (.iconst 2, 1) := by decide +kernel
theorem dL_law_296 : decode cL_law 296 = .ok (.iadd, 1) := by decide +kernel
theorem dL_law_297 : decode cL_law 297 = .ok (.iaload, 1) := by decide +kernel
theorem dL_law_298 : decode cL_law 298 = .ok (.aload_n 3, 1) := by decide +kernel
theorem dL_law_299 : decode cL_law 299 = .ok (.invokestatic 90, 3) := by decide +kernel
theorem dL_law_302 : decode cL_law 302 = .ok (.istore 5, 2) := by decide +kernel
theorem dL_law_304 : decode cL_law 304 = .ok (.aload_n 2, 1) := by decide +kernel
theorem dL_law_305 : decode cL_law 305 = .ok (.aload_n 0, 1) := by decide +kernel
theorem dL_law_306 : decode cL_law 306 = .ok (.iload 4, 2) := by decide +kernel
theorem dL_law_308 : decode cL_law 308 = .ok (.iconst 1, 1) := by decide +kernel
theorem dL_law_309 : decode cL_law 309 = .ok (.iadd, 1) := by decide +kernel
theorem dL_law_310 : decode cL_law 310 = .ok (.iaload, 1) := by decide +kernel
theorem dL_law_311 : decode cL_law 311 = .ok (.aload_n 0, 1) := by decide +kernel
theorem dL_law_312 : decode cL_law 312 = .ok (.iload 4, 2) := by decide +kernel
theorem dL_law_314 : decode cL_law 314 = .ok (.iconst 2, 1) := by decide +kernel
theorem dL_law_315 : decode cL_law 315 = .ok (.iadd, 1) := by decide +kernel
theorem dL_law_316 : decode cL_law 316 = .ok (.iaload, 1) := by decide +kernel
theorem dL_law_317 : decode cL_law 317 = .ok (.invokevirtual 93, 3) := by decide +kernel
theorem dL_law_320 : decode cL_law 320 = .ok (.istore 6, 2) := by decide +kernel
theorem dL_law_322 : decode cL_law 322 = .ok (.aload_n 2, 1) := by decide +kernel
theorem dL_law_323 : decode cL_law 323 = .ok (.invokevirtual 78, 3) := by decide +kernel
theorem dL_law_326 : decode cL_law 326 = .ok (.iload 5, 2) := by decide +kernel
theorem dL_law_328 : decode cL_law 328 = .ok (.if_icmp .eq 5, 3) := by decide +kernel
theorem dL_law_331 : decode cL_law 331 = .ok (.iconst 0, 1) := by decide +kernel
theorem dL_law_332 : decode cL_law 332 = .ok (.ireturn, 1) := by decide +kernel
theorem dL_law_333 : decode cL_law 333 = .ok (.iload 5, 2) := by decide +kernel
theorem dL_law_335 : decode cL_law 335 = .ok (.ifCond .ne 15, 3) := by decide +kernel
theorem dL_law_338 : decode cL_law 338 = .ok (.aload_n 3, 1) := by decide +kernel
theorem dL_law_339 : decode cL_law 339 = .ok (.iconst 0, 1) := by decide +kernel
theorem dL_law_340 : decode cL_law 340 = .ok (.laload, 1) := by decide +kernel
theorem dL_law_341 : decode cL_law 341 = .ok (.iload 6, 2) := by decide +kernel
theorem dL_law_343 : decode cL_law 343 = .ok (.i2l, 1) := by decide +kernel
theorem dL_law_344 : decode cL_law 344 = .ok (.lcmp, 1) := by decide +kernel
theorem dL_law_345 : decode cL_law 345 = .ok (.ifCond .eq 5, 3) := by decide +kernel
theorem dL_law_348 : decode cL_law 348 = .ok (.iconst 0, 1) := by decide +kernel
theorem dL_law_349 : decode cL_law 349 = .ok (.ireturn, 1) := by decide +kernel
theorem dL_law_350 : decode cL_law 350 = .ok (.goto 902, 3) := by decide +kernel
theorem dL_law_353 : decode cL_law 353 = .ok (.aload_n 1, 1) := by decide +kernel
theorem dL_law_354 : decode cL_law 354 = .ok (.aload_n 0, 1) := by decide +kernel
theorem dL_law_355 : decode cL_law 355 = .ok (.iload 4, 2) := by decide +kernel
theorem dL_law_357 : decode cL_law 357 = .ok (.iconst 1, 1) := by decide +kernel
theorem dL_law_358 : decode cL_law 358 = .ok (.iadd, 1) := by decide +kernel
theorem dL_law_359 : decode cL_law 359 = .ok (.iaload, 1) := by decide +kernel
theorem dL_law_360 : decode cL_law 360 = .ok (.aload_n 3, 1) := by decide +kernel
theorem dL_law_361 : decode cL_law 361 = .ok (.invokestatic 94, 3) := by decide +kernel
theorem dL_law_364 : decode cL_law 364 = .ok (.istore 5, 2) := by decide +kernel
theorem dL_law_366 : decode cL_law 366 = .ok (.aload_n 2, 1) := by decide +kernel
theorem dL_law_367 : decode cL_law 367 = .ok (.aload_n 0, 1) := by decide +kernel
theorem dL_law_368 : decode cL_law 368 = .ok (.iload 4, 2) := by decide +kernel
theorem dL_law_370 : decode cL_law 370 = .ok (.iconst 1, 1) := by decide +kernel
theorem dL_law_371 : decode cL_law 371 = .ok (.iadd, 1) := by decide +kernel
theorem dL_law_372 : decode cL_law 372 = .ok (.iaload, 1) := by decide +kernel
theorem dL_law_373 : decode cL_law 373 = .ok (.invokevirtual 96, 3) := by decide +kernel
theorem dL_law_376 : decode cL_law 376 = .ok (.istore 6, 2) := by decide +kernel
theorem dL_law_378 : decode cL_law 378 = .ok (.aload_n 2, 1) := by decide +kernel
theorem dL_law_379 : decode cL_law 379 = .ok (.invokevirtual 78, 3) := by decide +kernel
theorem dL_law_382 : decode cL_law 382 = .ok (.iload 5, 2) := by decide +kernel
theorem dL_law_384 : decode cL_law 384 = .ok (.if_icmp .eq 5, 3) := by decide +kernel
theorem dL_law_387 : decode cL_law 387 = .ok (.iconst 0, 1) := by decide +kernel
theorem dL_law_388 : decode cL_law 388 = .ok (.ireturn, 1) := by decide +kernel
theorem dL_law_389 : decode cL_law 389 = .ok (.iload 5, 2) := by decide +kernel
theorem dL_law_391 : decode cL_law 391 = .ok (.ifCond .ne 15, 3) := by decide +kernel
theorem dL_law_394 : decode cL_law 394 = .ok (.aload_n 3, 1) := by decide +kernel
theorem dL_law_395 : decode cL_law 395 = .ok (.iconst 0, 1) := by decide +kernel
theorem dL_law_396 : decode cL_law 396 = .ok (.laload, 1) := by decide +kernel
theorem dL_law_397 : decode cL_law 397 = .ok (.iload 6, 2) := by decide +kernel
theorem dL_law_399 : decode cL_law 399 = .ok (.i2l, 1) := by decide +kernel
theorem dL_law_400 : decode cL_law 400 = .ok (.lcmp, 1) := by decide +kernel
theorem dL_law_401 : decode cL_law 401 = .ok (.ifCond .eq 5, 3) := by decide +kernel
theorem dL_law_404 : decode cL_law 404 = .ok (.iconst 0, 1) := by decide +kernel
theorem dL_law_405 : decode cL_law 405 = .ok (.ireturn, 1) := by decide +kernel
theorem dL_law_406 : decode cL_law 406 = .ok (.goto 846, 3) := by decide +kernel
theorem dL_law_409 : decode cL_law 409 = .ok (.aload_n 1, 1) := by decide +kernel
theorem dL_law_410 : decode cL_law 410 = .ok (.aload_n 0, 1) := by decide +kernel
theorem dL_law_411 : decode cL_law 411 = .ok (.iload 4, 2) := by decide +kernel
theorem dL_law_413 : decode cL_law 413 = .ok (.iconst 1, 1) := by decide +kernel
theorem dL_law_414 : decode cL_law 414 = .ok (.iadd, 1) := by decide +kernel
theorem dL_law_415 : decode cL_law 415 = .ok (.iaload, 1) := by decide +kernel
theorem dL_law_416 : decode cL_law 416 = .ok (.aload_n 0, 1) := by decide +kernel
theorem dL_law_417 : decode cL_law 417 = .ok (.iload 4, 2) := by decide +kernel
theorem dL_law_419 : decode cL_law 419 = .ok (.iconst 2, 1) := by decide +kernel
theorem dL_law_420 : decode cL_law 420 = .ok (.iadd, 1) := by decide +kernel
theorem dL_law_421 : decode cL_law 421 = .ok (.iaload, 1) := by decide +kernel
theorem dL_law_422 : decode cL_law 422 = .ok (.aload_n 0, 1) := by decide +kernel
theorem dL_law_423 : decode cL_law 423 = .ok (.iload 4, 2) := by decide +kernel
theorem dL_law_425 : decode cL_law 425 = .ok (.iconst 3, 1) := by decide +kernel
theorem dL_law_426 : decode cL_law 426 = .ok (.iadd, 1) := by decide +kernel
theorem dL_law_427 : decode cL_law 427 = .ok (.iaload, 1) := by decide +kernel
theorem dL_law_428 : decode cL_law 428 = .ok (.aload_n 0, 1) := by decide +kernel
theorem dL_law_429 : decode cL_law 429 = .ok (.iload 4, 2) := by decide +kernel
theorem dL_law_431 : decode cL_law 431 = .ok (.iconst 4, 1) := by decide +kernel
theorem dL_law_432 : decode cL_law 432 = .ok (.iadd, 1) := by decide +kernel
theorem dL_law_433 : decode cL_law 433 = .ok (.iaload, 1) := by decide +kernel
theorem dL_law_434 : decode cL_law 434 = .ok (.aload_n 3, 1) := by decide +kernel
theorem dL_law_435 : decode cL_law 435 = .ok (.invokestatic 97, 3) := by decide +kernel
theorem dL_law_438 : decode cL_law 438 = .ok (.istore 5, 2) := by decide +kernel
theorem dL_law_440 : decode cL_law 440 = .ok (.aload_n 2, 1) := by decide +kernel
theorem dL_law_441 : decode cL_law 441 = .ok (.aload_n 0, 1) := by decide +kernel
theorem dL_law_442 : decode cL_law 442 = .ok (.iload 4, 2) := by decide +kernel
theorem dL_law_444 : decode cL_law 444 = .ok (.iconst 1, 1) := by decide +kernel
theorem dL_law_445 : decode cL_law 445 = .ok (.iadd, 1) := by decide +kernel
theorem dL_law_446 : decode cL_law 446 = .ok (.iaload, 1) := by decide +kernel
theorem dL_law_447 : decode cL_law 447 = .ok (.aload_n 0, 1) := by decide +kernel
theorem dL_law_448 : decode cL_law 448 = .ok (.iload 4, 2) := by decide +kernel
theorem dL_law_450 : decode cL_law 450 = .ok (.iconst 2, 1) := by decide +kernel
theorem dL_law_451 : decode cL_law 451 = .ok (.iadd, 1) := by decide +kernel
theorem dL_law_452 : decode cL_law 452 = .ok (.iaload, 1) := by decide +kernel
theorem dL_law_453 : decode cL_law 453 = .ok (.aload_n 0, 1) := by decide +kernel
theorem dL_law_454 : decode cL_law 454 = .ok (.iload 4, 2) := by decide +kernel
theorem dL_law_456 : decode cL_law 456 = .ok (.iconst 3, 1) := by decide +kernel
theorem dL_law_457 : decode cL_law 457 = .ok (.iadd, 1) := by decide +kernel
theorem dL_law_458 : decode cL_law 458 = .ok (.iaload, 1) := by decide +kernel
theorem dL_law_459 : decode cL_law 459 = .ok (.aload_n 0, 1) := by decide +kernel
theorem dL_law_460 : decode cL_law 460 = .ok (.iload 4, 2) := by decide +kernel
theorem dL_law_462 : decode cL_law 462 = .ok (.iconst 4, 1) := by decide +kernel
theorem dL_law_463 : decode cL_law 463 = .ok (.iadd, 1) := by decide +kernel
theorem dL_law_464 : decode cL_law 464 = .ok (.iaload, 1) := by decide +kernel
theorem dL_law_465 : decode cL_law 465 = .ok (.invokevirtual 99, 3) := by decide +kernel
theorem dL_law_468 : decode cL_law 468 = .ok (.istore 6, 2) := by decide +kernel
theorem dL_law_470 : decode cL_law 470 = .ok (.aload_n 2, 1) := by decide +kernel
theorem dL_law_471 : decode cL_law 471 = .ok (.invokevirtual 78, 3) := by decide +kernel
theorem dL_law_474 : decode cL_law 474 = .ok (.iload 5, 2) := by decide +kernel
theorem dL_law_476 : decode cL_law 476 = .ok (.if_icmp .eq 5, 3) := by decide +kernel
theorem dL_law_479 : decode cL_law 479 = .ok (.iconst 0, 1) := by decide +kernel
theorem dL_law_480 : decode cL_law 480 = .ok (.ireturn, 1) := by decide +kernel
theorem dL_law_481 : decode cL_law 481 = .ok (.iload 5, 2) := by decide +kernel
theorem dL_law_483 : decode cL_law 483 = .ok (.ifCond .ne 15, 3) := by decide +kernel
theorem dL_law_486 : decode cL_law 486 = .ok (.aload_n 3, 1) := by decide +kernel
theorem dL_law_487 : decode cL_law 487 = .ok (.iconst 0, 1) := by decide +kernel
theorem dL_law_488 : decode cL_law 488 = .ok (.laload, 1) := by decide +kernel
theorem dL_law_489 : decode cL_law 489 = .ok (.iload 6, 2) := by decide +kernel
theorem dL_law_491 : decode cL_law 491 = .ok (.i2l, 1) := by decide +kernel
theorem dL_law_492 : decode cL_law 492 = .ok (.lcmp, 1) := by decide +kernel
theorem dL_law_493 : decode cL_law 493 = .ok (.ifCond .eq 5, 3) := by decide +kernel
theorem dL_law_496 : decode cL_law 496 = .ok (.iconst 0, 1) := by decide +kernel
theorem dL_law_497 : decode cL_law 497 = .ok (.ireturn, 1) := by decide +kernel
theorem dL_law_498 : decode cL_law 498 = .ok (.goto 754, 3) := by decide +kernel
theorem dL_law_501 : decode cL_law 501 = .ok (.aload_n 1, 1) := by decide +kernel
theorem dL_law_502 : decode cL_law 502 = .ok (.aload_n 0, 1) := by decide +kernel
theorem dL_law_503 : decode cL_law 503 = .ok (.iload 4, 2) := by decide +kernel
theorem dL_law_505 : decode cL_law 505 = .ok (.iconst 1, 1) := by decide +kernel
theorem dL_law_506 : decode cL_law 506 = .ok (.iadd, 1) := by decide +kernel
theorem dL_law_507 : decode cL_law 507 = .ok (.iaload, 1) := by decide +kernel
theorem dL_law_508 : decode cL_law 508 = .ok (.aload_n 0, 1) := by decide +kernel
theorem dL_law_509 : decode cL_law 509 = .ok (.iload 4, 2) := by decide +kernel
theorem dL_law_511 : decode cL_law 511 = .ok (.iconst 2, 1) := by decide +kernel
theorem dL_law_512 : decode cL_law 512 = .ok (.iadd, 1) := by decide +kernel
theorem dL_law_513 : decode cL_law 513 = .ok (.iaload, 1) := by decide +kernel
theorem dL_law_514 : decode cL_law 514 = .ok (.aload_n 3, 1) := by decide +kernel
theorem dL_law_515 : decode cL_law 515 = .ok (.invokestatic 100, 3) := by decide +kernel
theorem dL_law_518 : decode cL_law 518 = .ok (.istore 5, 2) := by decide +kernel
theorem dL_law_520 : decode cL_law 520 = .ok (.aload_n 2, 1) := by decide +kernel
theorem dL_law_521 : decode cL_law 521 = .ok (.aload_n 0, 1) := by decide +kernel
theorem dL_law_522 : decode cL_law 522 = .ok (.iload 4, 2) := by decide +kernel
theorem dL_law_524 : decode cL_law 524 = .ok (.iconst 1, 1) := by decide +kernel
theorem dL_law_525 : decode cL_law 525 = .ok (.iadd, 1) := by decide +kernel
theorem dL_law_526 : decode cL_law 526 = .ok (.iaload, 1) := by decide +kernel
theorem dL_law_527 : decode cL_law 527 = .ok (.aload_n 0, 1) := by decide +kernel
theorem dL_law_528 : decode cL_law 528 = .ok (.iload 4, 2) := by decide +kernel
theorem dL_law_530 : decode cL_law 530 = .ok (.iconst 2, 1) := by decide +kernel
theorem dL_law_531 : decode cL_law 531 = .ok (.iadd, 1) := by decide +kernel
theorem dL_law_532 : decode cL_law 532 = .ok (.iaload, 1) := by decide +kernel
theorem dL_law_533 : decode cL_law 533 = .ok (.invokevirtual 102, 3) := by decide +kernel
theorem dL_law_536 : decode cL_law 536 = .ok (.istore 6, 2) := by decide +kernel
theorem dL_law_538 : decode cL_law 538 = .ok (.aload_n 2, 1) := by decide +kernel
theorem dL_law_539 : decode cL_law 539 = .ok (.invokevirtual 78, 3) := by decide +kernel
theorem dL_law_542 : decode cL_law 542 = .ok (.iload 5, 2) := by decide +kernel
theorem dL_law_544 : decode cL_law 544 = .ok (.if_icmp .eq 5, 3) := by decide +kernel
theorem dL_law_547 : decode cL_law 547 = .ok (.iconst 0, 1) := by decide +kernel
theorem dL_law_548 : decode cL_law 548 = .ok (.ireturn, 1) := by decide +kernel
theorem dL_law_549 : decode cL_law 549 = .ok (.iload 5, 2) := by decide +kernel
theorem dL_law_551 : decode cL_law 551 = .ok (.ifCond .ne 15, 3) := by decide +kernel
theorem dL_law_554 : decode cL_law 554 = .ok (.aload_n 3, 1) := by decide +kernel
theorem dL_law_555 : decode cL_law 555 = .ok (.iconst 0, 1) := by decide +kernel
theorem dL_law_556 : decode cL_law 556 = .ok (.laload, 1) := by decide +kernel
theorem dL_law_557 : decode cL_law 557 = .ok (.iload 6, 2) := by decide +kernel
theorem dL_law_559 : decode cL_law 559 = .ok (.i2l, 1) := by decide +kernel
theorem dL_law_560 : decode cL_law 560 = .ok (.lcmp, 1) := by decide +kernel
theorem dL_law_561 : decode cL_law 561 = .ok (.ifCond .eq 5, 3) := by decide +kernel
theorem dL_law_564 : decode cL_law 564 = .ok (.iconst 0, 1) := by decide +kernel
theorem dL_law_565 : decode cL_law 565 = .ok (.ireturn, 1) := by decide +kernel
theorem dL_law_566 : decode cL_law 566 = .ok (.goto 686, 3) := by decide +kernel
theorem dL_law_569 : decode cL_law 569 = .ok (.aload_n 1, 1) := by decide +kernel
theorem dL_law_570 : decode cL_law 570 = .ok (.aload_n 0, 1) := by decide +kernel
theorem dL_law_571 : decode cL_law 571 = .ok (.iload 4, 2) := by decide +kernel
theorem dL_law_573 : decode cL_law 573 = .ok (.iconst 1, 1) := by decide +kernel
theorem dL_law_574 : decode cL_law 574 = .ok (.iadd, 1) := by decide +kernel
theorem dL_law_575 : decode cL_law 575 = .ok (.iaload, 1) := by decide +kernel
theorem dL_law_576 : decode cL_law 576 = .ok (.aload_n 0, 1) := by decide +kernel
theorem dL_law_577 : decode cL_law 577 = .ok (.iload 4, 2) := by decide +kernel
theorem dL_law_579 : decode cL_law 579 = .ok (.iconst 2, 1) := by decide +kernel
theorem dL_law_580 : decode cL_law 580 = .ok (.iadd, 1) := by decide +kernel
theorem dL_law_581 : decode cL_law 581 = .ok (.iaload, 1) := by decide +kernel
theorem dL_law_582 : decode cL_law 582 = .ok (.aload_n 0, 1) := by decide +kernel
theorem dL_law_583 : decode cL_law 583 = .ok (.iload 4, 2) := by decide +kernel
theorem dL_law_585 : decode cL_law 585 = .ok (.iconst 3, 1) := by decide +kernel
theorem dL_law_586 : decode cL_law 586 = .ok (.iadd, 1) := by decide +kernel
theorem dL_law_587 : decode cL_law 587 = .ok (.iaload, 1) := by decide +kernel
theorem dL_law_588 : decode cL_law 588 = .ok (.aload_n 3, 1) := by decide +kernel
theorem dL_law_589 : decode cL_law 589 = .ok (.invokestatic 103, 3) := by decide +kernel
theorem dL_law_592 : decode cL_law 592 = .ok (.istore 5, 2) := by decide +kernel
theorem dL_law_594 : decode cL_law 594 = .ok (.aload_n 2, 1) := by decide +kernel
theorem dL_law_595 : decode cL_law 595 = .ok (.aload_n 0, 1) := by decide +kernel
theorem dL_law_596 : decode cL_law 596 = .ok (.iload 4, 2) := by decide +kernel
theorem dL_law_598 : decode cL_law 598 = .ok (.iconst 1, 1) := by decide +kernel
theorem dL_law_599 : decode cL_law 599 = .ok (.iadd, 1) := by decide +kernel
theorem dL_law_600 : decode cL_law 600 = .ok (.iaload, 1) := by decide +kernel
theorem dL_law_601 : decode cL_law 601 = .ok (.aload_n 0, 1) := by decide +kernel
theorem dL_law_602 : decode cL_law 602 = .ok (.iload 4, 2) := by decide +kernel
theorem dL_law_604 : decode cL_law 604 = .ok (.iconst 2, 1) := by decide +kernel
theorem dL_law_605 : decode cL_law 605 = .ok (.iadd, 1) := by decide +kernel
theorem dL_law_606 : decode cL_law 606 = .ok (.iaload, 1) := by decide +kernel
theorem dL_law_607 : decode cL_law 607 = .ok (.aload_n 0, 1) := by decide +kernel
theorem dL_law_608 : decode cL_law 608 = .ok (.iload 4, 2) := by decide +kernel
theorem dL_law_610 : decode cL_law 610 = .ok (.iconst 3, 1) := by decide +kernel
theorem dL_law_611 : decode cL_law 611 = .ok (.iadd, 1) := by decide +kernel
theorem dL_law_612 : decode cL_law 612 = .ok (.iaload, 1) := by decide +kernel
theorem dL_law_613 : decode cL_law 613 = .ok (.invokevirtual 106, 3) := by decide +kernel
theorem dL_law_616 : decode cL_law 616 = .ok (.istore 6, 2) := by decide +kernel
theorem dL_law_618 : decode cL_law 618 = .ok (.aload_n 2, 1) := by decide +kernel
theorem dL_law_619 : decode cL_law 619 = .ok (.invokevirtual 78, 3) := by decide +kernel
theorem dL_law_622 : decode cL_law 622 = .ok (.iload 5, 2) := by decide +kernel
theorem dL_law_624 : decode cL_law 624 = .ok (.if_icmp .eq 5, 3) := by decide +kernel
theorem dL_law_627 : decode cL_law 627 = .ok (.iconst 0, 1) := by decide +kernel
theorem dL_law_628 : decode cL_law 628 = .ok (.ireturn, 1) := by decide +kernel
theorem dL_law_629 : decode cL_law 629 = .ok (.iload 5, 2) := by decide +kernel
theorem dL_law_631 : decode cL_law 631 = .ok (.ifCond .ne 22, 3) := by decide +kernel
theorem dL_law_634 : decode cL_law 634 = .ok (.aload_n 3, 1) := by decide +kernel
theorem dL_law_635 : decode cL_law 635 = .ok (.iconst 0, 1) := by decide +kernel
theorem dL_law_636 : decode cL_law 636 = .ok (.laload, 1) := by decide +kernel
theorem dL_law_637 : decode cL_law 637 = .ok (.iload 6, 2) := by decide +kernel
theorem dL_law_639 : decode cL_law 639 = .ok (.ifCond .eq 7, 3) := by decide +kernel
theorem dL_law_642 : decode cL_law 642 = .ok (.lconst 1, 1) := by decide +kernel
theorem dL_law_643 : decode cL_law 643 = .ok (.goto 4, 3) := by decide +kernel
theorem dL_law_646 : decode cL_law 646 = .ok (.lconst 0, 1) := by decide +kernel
theorem dL_law_647 : decode cL_law 647 = .ok (.lcmp, 1) := by decide +kernel
theorem dL_law_648 : decode cL_law 648 = .ok (.ifCond .eq 5, 3) := by decide +kernel
theorem dL_law_651 : decode cL_law 651 = .ok (.iconst 0, 1) := by decide +kernel
theorem dL_law_652 : decode cL_law 652 = .ok (.ireturn, 1) := by decide +kernel
theorem dL_law_653 : decode cL_law 653 = .ok (.goto 599, 3) := by decide +kernel
theorem dL_law_656 : decode cL_law 656 = .ok (.aload_n 1, 1) := by decide +kernel
theorem dL_law_657 : decode cL_law 657 = .ok (.aload_n 0, 1) := by decide +kernel
theorem dL_law_658 : decode cL_law 658 = .ok (.iload 4, 2) := by decide +kernel
theorem dL_law_660 : decode cL_law 660 = .ok (.iconst 1, 1) := by decide +kernel
theorem dL_law_661 : decode cL_law 661 = .ok (.iadd, 1) := by decide +kernel
theorem dL_law_662 : decode cL_law 662 = .ok (.iaload, 1) := by decide +kernel
theorem dL_law_663 : decode cL_law 663 = .ok (.aload_n 0, 1) := by decide +kernel
theorem dL_law_664 : decode cL_law 664 = .ok (.iload 4, 2) := by decide +kernel
theorem dL_law_666 : decode cL_law 666 = .ok (.iconst 2, 1) := by decide +kernel
theorem dL_law_667 : decode cL_law 667 = .ok (.iadd, 1) := by decide +kernel
theorem dL_law_668 : decode cL_law 668 = .ok (.iaload, 1) := by decide +kernel
theorem dL_law_669 : decode cL_law 669 = .ok (.aload_n 3, 1) := by decide +kernel
theorem dL_law_670 : decode cL_law 670 = .ok (.invokestatic 107, 3) := by decide +kernel
theorem dL_law_673 : decode cL_law 673 = .ok (.istore 5, 2) := by decide +kernel
theorem dL_law_675 : decode cL_law 675 = .ok (.aload_n 2, 1) := by decide +kernel
theorem dL_law_676 : decode cL_law 676 = .ok (.aload_n 0, 1) := by decide +kernel
theorem dL_law_677 : decode cL_law 677 = .ok (.iload 4, 2) := by decide +kernel
theorem dL_law_679 : decode cL_law 679 = .ok (.iconst 1, 1) := by decide +kernel
theorem dL_law_680 : decode cL_law 680 = .ok (.iadd, 1) := by decide +kernel
theorem dL_law_681 : decode cL_law 681 = .ok (.iaload, 1) := by decide +kernel
theorem dL_law_682 : decode cL_law 682 = .ok (.aload_n 0, 1) := by decide +kernel
theorem dL_law_683 : decode cL_law 683 = .ok (.iload 4, 2) := by decide +kernel
theorem dL_law_685 : decode cL_law 685 = .ok (.iconst 2, 1) := by decide +kernel
theorem dL_law_686 : decode cL_law 686 = .ok (.iadd, 1) := by decide +kernel
theorem dL_law_687 : decode cL_law 687 = .ok (.iaload, 1) := by decide +kernel
theorem dL_law_688 : decode cL_law 688 = .ok (.invokevirtual 109, 3) := by decide +kernel
theorem dL_law_691 : decode cL_law 691 = .ok (.istore 6, 2) := by decide +kernel
theorem dL_law_693 : decode cL_law 693 = .ok (.aload_n 2, 1) := by decide +kernel
theorem dL_law_694 : decode cL_law 694 = .ok (.invokevirtual 78, 3) := by decide +kernel
theorem dL_law_697 : decode cL_law 697 = .ok (.iload 5, 2) := by decide +kernel
theorem dL_law_699 : decode cL_law 699 = .ok (.if_icmp .eq 5, 3) := by decide +kernel
theorem dL_law_702 : decode cL_law 702 = .ok (.iconst 0, 1) := by decide +kernel
theorem dL_law_703 : decode cL_law 703 = .ok (.ireturn, 1) := by decide +kernel
theorem dL_law_704 : decode cL_law 704 = .ok (.iload 5, 2) := by decide +kernel
theorem dL_law_706 : decode cL_law 706 = .ok (.ifCond .ne 15, 3) := by decide +kernel
theorem dL_law_709 : decode cL_law 709 = .ok (.aload_n 3, 1) := by decide +kernel
theorem dL_law_710 : decode cL_law 710 = .ok (.iconst 0, 1) := by decide +kernel
theorem dL_law_711 : decode cL_law 711 = .ok (.laload, 1) := by decide +kernel
theorem dL_law_712 : decode cL_law 712 = .ok (.iload 6, 2) := by decide +kernel
theorem dL_law_714 : decode cL_law 714 = .ok (.i2l, 1) := by decide +kernel
theorem dL_law_715 : decode cL_law 715 = .ok (.lcmp, 1) := by decide +kernel
theorem dL_law_716 : decode cL_law 716 = .ok (.ifCond .eq 5, 3) := by decide +kernel
theorem dL_law_719 : decode cL_law 719 = .ok (.iconst 0, 1) := by decide +kernel
theorem dL_law_720 : decode cL_law 720 = .ok (.ireturn, 1) := by decide +kernel
theorem dL_law_721 : decode cL_law 721 = .ok (.goto 531, 3) := by decide +kernel
theorem dL_law_724 : decode cL_law 724 = .ok (.aload_n 1, 1) := by decide +kernel
theorem dL_law_725 : decode cL_law 725 = .ok (.aload_n 0, 1) := by decide +kernel
theorem dL_law_726 : decode cL_law 726 = .ok (.iload 4, 2) := by decide +kernel
theorem dL_law_728 : decode cL_law 728 = .ok (.iconst 1, 1) := by decide +kernel
theorem dL_law_729 : decode cL_law 729 = .ok (.iadd, 1) := by decide +kernel
theorem dL_law_730 : decode cL_law 730 = .ok (.iaload, 1) := by decide +kernel
theorem dL_law_731 : decode cL_law 731 = .ok (.aload_n 0, 1) := by decide +kernel
theorem dL_law_732 : decode cL_law 732 = .ok (.iload 4, 2) := by decide +kernel
theorem dL_law_734 : decode cL_law 734 = .ok (.iconst 2, 1) := by decide +kernel
theorem dL_law_735 : decode cL_law 735 = .ok (.iadd, 1) := by decide +kernel
theorem dL_law_736 : decode cL_law 736 = .ok (.iaload, 1) := by decide +kernel
theorem dL_law_737 : decode cL_law 737 = .ok (.aload_n 3, 1) := by decide +kernel
theorem dL_law_738 : decode cL_law 738 = .ok (.invokestatic 110, 3) := by decide +kernel
theorem dL_law_741 : decode cL_law 741 = .ok (.istore 5, 2) := by decide +kernel
theorem dL_law_743 : decode cL_law 743 = .ok (.aload_n 2, 1) := by decide +kernel
theorem dL_law_744 : decode cL_law 744 = .ok (.aload_n 0, 1) := by decide +kernel
theorem dL_law_745 : decode cL_law 745 = .ok (.iload 4, 2) := by decide +kernel
theorem dL_law_747 : decode cL_law 747 = .ok (.iconst 1, 1) := by decide +kernel
theorem dL_law_748 : decode cL_law 748 = .ok (.iadd, 1) := by decide +kernel
theorem dL_law_749 : decode cL_law 749 = .ok (.iaload, 1) := by decide +kernel
theorem dL_law_750 : decode cL_law 750 = .ok (.aload_n 0, 1) := by decide +kernel
theorem dL_law_751 : decode cL_law 751 = .ok (.iload 4, 2) := by decide +kernel
theorem dL_law_753 : decode cL_law 753 = .ok (.iconst 2, 1) := by decide +kernel
theorem dL_law_754 : decode cL_law 754 = .ok (.iadd, 1) := by decide +kernel
theorem dL_law_755 : decode cL_law 755 = .ok (.iaload, 1) := by decide +kernel
theorem dL_law_756 : decode cL_law 756 = .ok (.invokevirtual 112, 3) := by decide +kernel
theorem dL_law_759 : decode cL_law 759 = .ok (.istore 6, 2) := by decide +kernel
theorem dL_law_761 : decode cL_law 761 = .ok (.aload_n 2, 1) := by decide +kernel
theorem dL_law_762 : decode cL_law 762 = .ok (.invokevirtual 78, 3) := by decide +kernel
theorem dL_law_765 : decode cL_law 765 = .ok (.iload 5, 2) := by decide +kernel
theorem dL_law_767 : decode cL_law 767 = .ok (.if_icmp .eq 5, 3) := by decide +kernel
theorem dL_law_770 : decode cL_law 770 = .ok (.iconst 0, 1) := by decide +kernel
theorem dL_law_771 : decode cL_law 771 = .ok (.ireturn, 1) := by decide +kernel
theorem dL_law_772 : decode cL_law 772 = .ok (.iload 5, 2) := by decide +kernel
theorem dL_law_774 : decode cL_law 774 = .ok (.ifCond .ne 15, 3) := by decide +kernel
theorem dL_law_777 : decode cL_law 777 = .ok (.aload_n 3, 1) := by decide +kernel
theorem dL_law_778 : decode cL_law 778 = .ok (.iconst 0, 1) := by decide +kernel
theorem dL_law_779 : decode cL_law 779 = .ok (.laload, 1) := by decide +kernel
theorem dL_law_780 : decode cL_law 780 = .ok (.iload 6, 2) := by decide +kernel
theorem dL_law_782 : decode cL_law 782 = .ok (.i2l, 1) := by decide +kernel
theorem dL_law_783 : decode cL_law 783 = .ok (.lcmp, 1) := by decide +kernel
theorem dL_law_784 : decode cL_law 784 = .ok (.ifCond .eq 5, 3) := by decide +kernel
theorem dL_law_787 : decode cL_law 787 = .ok (.iconst 0, 1) := by decide +kernel
theorem dL_law_788 : decode cL_law 788 = .ok (.ireturn, 1) := by decide +kernel
theorem dL_law_789 : decode cL_law 789 = .ok (.goto 463, 3) := by decide +kernel
theorem dL_law_792 : decode cL_law 792 = .ok (.aload_n 1, 1) := by decide +kernel
theorem dL_law_793 : decode cL_law 793 = .ok (.aload_n 0, 1) := by decide +kernel
theorem dL_law_794 : decode cL_law 794 = .ok (.iload 4, 2) := by decide +kernel
theorem dL_law_796 : decode cL_law 796 = .ok (.iconst 1, 1) := by decide +kernel
theorem dL_law_797 : decode cL_law 797 = .ok (.iadd, 1) := by decide +kernel
theorem dL_law_798 : decode cL_law 798 = .ok (.iaload, 1) := by decide +kernel
theorem dL_law_799 : decode cL_law 799 = .ok (.aload_n 0, 1) := by decide +kernel
theorem dL_law_800 : decode cL_law 800 = .ok (.iload 4, 2) := by decide +kernel
theorem dL_law_802 : decode cL_law 802 = .ok (.iconst 2, 1) := by decide +kernel
theorem dL_law_803 : decode cL_law 803 = .ok (.iadd, 1) := by decide +kernel
theorem dL_law_804 : decode cL_law 804 = .ok (.iaload, 1) := by decide +kernel
theorem dL_law_805 : decode cL_law 805 = .ok (.aload_n 3, 1) := by decide +kernel
theorem dL_law_806 : decode cL_law 806 = .ok (.invokestatic 113, 3) := by decide +kernel
theorem dL_law_809 : decode cL_law 809 = .ok (.istore 5, 2) := by decide +kernel
theorem dL_law_811 : decode cL_law 811 = .ok (.aload_n 2, 1) := by decide +kernel
theorem dL_law_812 : decode cL_law 812 = .ok (.aload_n 0, 1) := by decide +kernel
theorem dL_law_813 : decode cL_law 813 = .ok (.iload 4, 2) := by decide +kernel
theorem dL_law_815 : decode cL_law 815 = .ok (.iconst 1, 1) := by decide +kernel
theorem dL_law_816 : decode cL_law 816 = .ok (.iadd, 1) := by decide +kernel
theorem dL_law_817 : decode cL_law 817 = .ok (.iaload, 1) := by decide +kernel
theorem dL_law_818 : decode cL_law 818 = .ok (.aload_n 0, 1) := by decide +kernel
theorem dL_law_819 : decode cL_law 819 = .ok (.iload 4, 2) := by decide +kernel
theorem dL_law_821 : decode cL_law 821 = .ok (.iconst 2, 1) := by decide +kernel
theorem dL_law_822 : decode cL_law 822 = .ok (.iadd, 1) := by decide +kernel
theorem dL_law_823 : decode cL_law 823 = .ok (.iaload, 1) := by decide +kernel
theorem dL_law_824 : decode cL_law 824 = .ok (.invokevirtual 115, 3) := by decide +kernel
theorem dL_law_827 : decode cL_law 827 = .ok (.istore 6, 2) := by decide +kernel
theorem dL_law_829 : decode cL_law 829 = .ok (.aload_n 2, 1) := by decide +kernel
theorem dL_law_830 : decode cL_law 830 = .ok (.invokevirtual 78, 3) := by decide +kernel
theorem dL_law_833 : decode cL_law 833 = .ok (.iload 5, 2) := by decide +kernel
theorem dL_law_835 : decode cL_law 835 = .ok (.if_icmp .eq 5, 3) := by decide +kernel
theorem dL_law_838 : decode cL_law 838 = .ok (.iconst 0, 1) := by decide +kernel
theorem dL_law_839 : decode cL_law 839 = .ok (.ireturn, 1) := by decide +kernel
theorem dL_law_840 : decode cL_law 840 = .ok (.iload 5, 2) := by decide +kernel
theorem dL_law_842 : decode cL_law 842 = .ok (.ifCond .ne 22, 3) := by decide +kernel
theorem dL_law_845 : decode cL_law 845 = .ok (.aload_n 3, 1) := by decide +kernel
theorem dL_law_846 : decode cL_law 846 = .ok (.iconst 0, 1) := by decide +kernel
theorem dL_law_847 : decode cL_law 847 = .ok (.laload, 1) := by decide +kernel
theorem dL_law_848 : decode cL_law 848 = .ok (.iload 6, 2) := by decide +kernel
theorem dL_law_850 : decode cL_law 850 = .ok (.ifCond .eq 7, 3) := by decide +kernel
theorem dL_law_853 : decode cL_law 853 = .ok (.lconst 1, 1) := by decide +kernel
theorem dL_law_854 : decode cL_law 854 = .ok (.goto 4, 3) := by decide +kernel
theorem dL_law_857 : decode cL_law 857 = .ok (.lconst 0, 1) := by decide +kernel
theorem dL_law_858 : decode cL_law 858 = .ok (.lcmp, 1) := by decide +kernel
theorem dL_law_859 : decode cL_law 859 = .ok (.ifCond .eq 5, 3) := by decide +kernel
theorem dL_law_862 : decode cL_law 862 = .ok (.iconst 0, 1) := by decide +kernel
theorem dL_law_863 : decode cL_law 863 = .ok (.ireturn, 1) := by decide +kernel
theorem dL_law_864 : decode cL_law 864 = .ok (.goto 388, 3) := by decide +kernel
theorem dL_law_867 : decode cL_law 867 = .ok (.aload_n 1, 1) := by decide +kernel
theorem dL_law_868 : decode cL_law 868 = .ok (.aload_n 0, 1) := by decide +kernel
theorem dL_law_869 : decode cL_law 869 = .ok (.iload 4, 2) := by decide +kernel
theorem dL_law_871 : decode cL_law 871 = .ok (.iconst 1, 1) := by decide +kernel
theorem dL_law_872 : decode cL_law 872 = .ok (.iadd, 1) := by decide +kernel
theorem dL_law_873 : decode cL_law 873 = .ok (.iaload, 1) := by decide +kernel
theorem dL_law_874 : decode cL_law 874 = .ok (.aload_n 0, 1) := by decide +kernel
theorem dL_law_875 : decode cL_law 875 = .ok (.iload 4, 2) := by decide +kernel
theorem dL_law_877 : decode cL_law 877 = .ok (.iconst 2, 1) := by decide +kernel
theorem dL_law_878 : decode cL_law 878 = .ok (.iadd, 1) := by decide +kernel
theorem dL_law_879 : decode cL_law 879 = .ok (.iaload, 1) := by decide +kernel
theorem dL_law_880 : decode cL_law 880 = .ok (.aload_n 3, 1) := by decide +kernel
theorem dL_law_881 : decode cL_law 881 = .ok (.invokestatic 116, 3) := by decide +kernel
theorem dL_law_884 : decode cL_law 884 = .ok (.istore 5, 2) := by decide +kernel
theorem dL_law_886 : decode cL_law 886 = .ok (.aload_n 2, 1) := by decide +kernel
theorem dL_law_887 : decode cL_law 887 = .ok (.aload_n 0, 1) := by decide +kernel
theorem dL_law_888 : decode cL_law 888 = .ok (.iload 4, 2) := by decide +kernel
theorem dL_law_890 : decode cL_law 890 = .ok (.iconst 1, 1) := by decide +kernel
theorem dL_law_891 : decode cL_law 891 = .ok (.iadd, 1) := by decide +kernel
theorem dL_law_892 : decode cL_law 892 = .ok (.iaload, 1) := by decide +kernel
theorem dL_law_893 : decode cL_law 893 = .ok (.aload_n 0, 1) := by decide +kernel
theorem dL_law_894 : decode cL_law 894 = .ok (.iload 4, 2) := by decide +kernel
theorem dL_law_896 : decode cL_law 896 = .ok (.iconst 2, 1) := by decide +kernel
theorem dL_law_897 : decode cL_law 897 = .ok (.iadd, 1) := by decide +kernel
theorem dL_law_898 : decode cL_law 898 = .ok (.iaload, 1) := by decide +kernel
theorem dL_law_899 : decode cL_law 899 = .ok (.invokevirtual 118, 3) := by decide +kernel
theorem dL_law_902 : decode cL_law 902 = .ok (.istore 6, 2) := by decide +kernel
theorem dL_law_904 : decode cL_law 904 = .ok (.aload_n 2, 1) := by decide +kernel
theorem dL_law_905 : decode cL_law 905 = .ok (.invokevirtual 78, 3) := by decide +kernel
theorem dL_law_908 : decode cL_law 908 = .ok (.iload 5, 2) := by decide +kernel
theorem dL_law_910 : decode cL_law 910 = .ok (.if_icmp .eq 5, 3) := by decide +kernel
theorem dL_law_913 : decode cL_law 913 = .ok (.iconst 0, 1) := by decide +kernel
theorem dL_law_914 : decode cL_law 914 = .ok (.ireturn, 1) := by decide +kernel
theorem dL_law_915 : decode cL_law 915 = .ok (.iload 5, 2) := by decide +kernel
theorem dL_law_917 : decode cL_law 917 = .ok (.ifCond .ne 15, 3) := by decide +kernel
theorem dL_law_920 : decode cL_law 920 = .ok (.aload_n 3, 1) := by decide +kernel
theorem dL_law_921 : decode cL_law 921 = .ok (.iconst 0, 1) := by decide +kernel
theorem dL_law_922 : decode cL_law 922 = .ok (.laload, 1) := by decide +kernel
theorem dL_law_923 : decode cL_law 923 = .ok (.iload 6, 2) := by decide +kernel
theorem dL_law_925 : decode cL_law 925 = .ok (.i2l, 1) := by decide +kernel
theorem dL_law_926 : decode cL_law 926 = .ok (.lcmp, 1) := by decide +kernel
theorem dL_law_927 : decode cL_law 927 = .ok (.ifCond .eq 5, 3) := by decide +kernel
theorem dL_law_930 : decode cL_law 930 = .ok (.iconst 0, 1) := by decide +kernel
theorem dL_law_931 : decode cL_law 931 = .ok (.ireturn, 1) := by decide +kernel
theorem dL_law_932 : decode cL_law 932 = .ok (.goto 320, 3) := by decide +kernel
theorem dL_law_935 : decode cL_law 935 = .ok (.aload_n 1, 1) := by decide +kernel
theorem dL_law_936 : decode cL_law 936 = .ok (.aload_n 0, 1) := by decide +kernel
theorem dL_law_937 : decode cL_law 937 = .ok (.iload 4, 2) := by decide +kernel
theorem dL_law_939 : decode cL_law 939 = .ok (.iconst 1, 1) := by decide +kernel
theorem dL_law_940 : decode cL_law 940 = .ok (.iadd, 1) := by decide +kernel
theorem dL_law_941 : decode cL_law 941 = .ok (.iaload, 1) := by decide +kernel
theorem dL_law_942 : decode cL_law 942 = .ok (.aload_n 3, 1) := by decide +kernel
theorem dL_law_943 : decode cL_law 943 = .ok (.invokestatic 119, 3) := by decide +kernel
theorem dL_law_946 : decode cL_law 946 = .ok (.istore 5, 2) := by decide +kernel
theorem dL_law_948 : decode cL_law 948 = .ok (.aload_n 2, 1) := by decide +kernel
theorem dL_law_949 : decode cL_law 949 = .ok (.aload_n 0, 1) := by decide +kernel
theorem dL_law_950 : decode cL_law 950 = .ok (.iload 4, 2) := by decide +kernel
theorem dL_law_952 : decode cL_law 952 = .ok (.iconst 1, 1) := by decide +kernel
theorem dL_law_953 : decode cL_law 953 = .ok (.iadd, 1) := by decide +kernel
theorem dL_law_954 : decode cL_law 954 = .ok (.iaload, 1) := by decide +kernel
theorem dL_law_955 : decode cL_law 955 = .ok (.invokevirtual 121, 3) := by decide +kernel
theorem dL_law_958 : decode cL_law 958 = .ok (.istore 6, 2) := by decide +kernel
theorem dL_law_960 : decode cL_law 960 = .ok (.aload_n 2, 1) := by decide +kernel
theorem dL_law_961 : decode cL_law 961 = .ok (.invokevirtual 78, 3) := by decide +kernel
theorem dL_law_964 : decode cL_law 964 = .ok (.iload 5, 2) := by decide +kernel
theorem dL_law_966 : decode cL_law 966 = .ok (.if_icmp .eq 5, 3) := by decide +kernel
theorem dL_law_969 : decode cL_law 969 = .ok (.iconst 0, 1) := by decide +kernel
theorem dL_law_970 : decode cL_law 970 = .ok (.ireturn, 1) := by decide +kernel
theorem dL_law_971 : decode cL_law 971 = .ok (.iload 5, 2) := by decide +kernel
theorem dL_law_973 : decode cL_law 973 = .ok (.ifCond .ne 15, 3) := by decide +kernel
theorem dL_law_976 : decode cL_law 976 = .ok (.aload_n 3, 1) := by decide +kernel
theorem dL_law_977 : decode cL_law 977 = .ok (.iconst 0, 1) := by decide +kernel
theorem dL_law_978 : decode cL_law 978 = .ok (.laload, 1) := by decide +kernel
theorem dL_law_979 : decode cL_law 979 = .ok (.iload 6, 2) := by decide +kernel
theorem dL_law_981 : decode cL_law 981 = .ok (.i2l, 1) := by decide +kernel
theorem dL_law_982 : decode cL_law 982 = .ok (.lcmp, 1) := by decide +kernel
theorem dL_law_983 : decode cL_law 983 = .ok (.ifCond .eq 5, 3) := by decide +kernel
theorem dL_law_986 : decode cL_law 986 = .ok (.iconst 0, 1) := by decide +kernel
theorem dL_law_987 : decode cL_law 987 = .ok (.ireturn, 1) := by decide +kernel
theorem dL_law_988 : decode cL_law 988 = .ok (.goto 264, 3) := by decide +kernel
theorem dL_law_991 : decode cL_law 991 = .ok (.aload_n 1, 1) := by decide +kernel
theorem dL_law_992 : decode cL_law 992 = .ok (.aload_n 0, 1) := by decide +kernel
theorem dL_law_993 : decode cL_law 993 = .ok (.iload 4, 2) := by decide +kernel
theorem dL_law_995 : decode cL_law 995 = .ok (.iconst 1, 1) := by decide +kernel
theorem dL_law_996 : decode cL_law 996 = .ok (.iadd, 1) := by decide +kernel
theorem dL_law_997 : decode cL_law 997 = .ok (.iaload, 1) := by decide +kernel
theorem dL_law_998 : decode cL_law 998 = .ok (.aload_n 3, 1) := by decide +kernel
theorem dL_law_999 : decode cL_law 999 = .ok (.invokestatic 122, 3) := by decide +kernel
theorem dL_law_1002 : decode cL_law 1002 = .ok (.istore 5, 2) := by decide +kernel
theorem dL_law_1004 : decode cL_law 1004 = .ok (.aload_n 2, 1) := by decide +kernel
theorem dL_law_1005 : decode cL_law 1005 = .ok (.aload_n 0, 1) := by decide +kernel
theorem dL_law_1006 : decode cL_law 1006 = .ok (.iload 4, 2) := by decide +kernel
theorem dL_law_1008 : decode cL_law 1008 = .ok (.iconst 1, 1) := by decide +kernel
theorem dL_law_1009 : decode cL_law 1009 = .ok (.iadd, 1) := by decide +kernel
theorem dL_law_1010 : decode cL_law 1010 = .ok (.iaload, 1) := by decide +kernel
theorem dL_law_1011 : decode cL_law 1011 = .ok (.invokevirtual 124, 3) := by decide +kernel
theorem dL_law_1014 : decode cL_law 1014 = .ok (.istore 6, 2) := by decide +kernel
theorem dL_law_1016 : decode cL_law 1016 = .ok (.aload_n 2, 1) := by decide +kernel
theorem dL_law_1017 : decode cL_law 1017 = .ok (.invokevirtual 78, 3) := by decide +kernel
theorem dL_law_1020 : decode cL_law 1020 = .ok (.iload 5, 2) := by decide +kernel
theorem dL_law_1022 : decode cL_law 1022 = .ok (.if_icmp .eq 5, 3) := by decide +kernel
theorem dL_law_1025 : decode cL_law 1025 = .ok (.iconst 0, 1) := by decide +kernel
theorem dL_law_1026 : decode cL_law 1026 = .ok (.ireturn, 1) := by decide +kernel
theorem dL_law_1027 : decode cL_law 1027 = .ok (.iload 5, 2) := by decide +kernel
theorem dL_law_1029 : decode cL_law 1029 = .ok (.ifCond .ne 15, 3) := by decide +kernel
theorem dL_law_1032 : decode cL_law 1032 = .ok (.aload_n 3, 1) := by decide +kernel
theorem dL_law_1033 : decode cL_law 1033 = .ok (.iconst 0, 1) := by decide +kernel
theorem dL_law_1034 : decode cL_law 1034 = .ok (.laload, 1) := by decide +kernel
theorem dL_law_1035 : decode cL_law 1035 = .ok (.iload 6, 2) := by decide +kernel
theorem dL_law_1037 : decode cL_law 1037 = .ok (.i2l, 1) := by decide +kernel
theorem dL_law_1038 : decode cL_law 1038 = .ok (.lcmp, 1) := by decide +kernel
theorem dL_law_1039 : decode cL_law 1039 = .ok (.ifCond .eq 5, 3) := by decide +kernel
theorem dL_law_1042 : decode cL_law 1042 = .ok (.iconst 0, 1) := by decide +kernel
theorem dL_law_1043 : decode cL_law 1043 = .ok (.ireturn, 1) := by decide +kernel
theorem dL_law_1044 : decode cL_law 1044 = .ok (.goto 208, 3) := by decide +kernel
theorem dL_law_1047 : decode cL_law 1047 = .ok (.aload_n 1, 1) := by decide +kernel
theorem dL_law_1048 : decode cL_law 1048 = .ok (.invokevirtual 125, 3) := by decide +kernel
theorem dL_law_1051 : decode cL_law 1051 = .ok (.aload_n 2, 1) := by decide +kernel
theorem dL_law_1052 : decode cL_law 1052 = .ok (.invokevirtual 128, 3) := by decide +kernel
theorem dL_law_1055 : decode cL_law 1055 = .ok (.if_icmp .eq 197, 3) := by decide +kernel
theorem dL_law_1058 : decode cL_law 1058 = .ok (.iconst 0, 1) := by decide +kernel
theorem dL_law_1059 : decode cL_law 1059 = .ok (.ireturn, 1) := by decide +kernel
theorem dL_law_1060 : decode cL_law 1060 = .ok (.aload_n 1, 1) := by decide +kernel
theorem dL_law_1061 : decode cL_law 1061 = .ok (.aload_n 0, 1) := by decide +kernel
theorem dL_law_1062 : decode cL_law 1062 = .ok (.iload 4, 2) := by decide +kernel
theorem dL_law_1064 : decode cL_law 1064 = .ok (.iconst 1, 1) := by decide +kernel
theorem dL_law_1065 : decode cL_law 1065 = .ok (.iadd, 1) := by decide +kernel
theorem dL_law_1066 : decode cL_law 1066 = .ok (.iaload, 1) := by decide +kernel
theorem dL_law_1067 : decode cL_law 1067 = .ok (.aload_n 0, 1) := by decide +kernel
theorem dL_law_1068 : decode cL_law 1068 = .ok (.iload 4, 2) := by decide +kernel
theorem dL_law_1070 : decode cL_law 1070 = .ok (.iconst 2, 1) := by decide +kernel
theorem dL_law_1071 : decode cL_law 1071 = .ok (.iadd, 1) := by decide +kernel
theorem dL_law_1072 : decode cL_law 1072 = .ok (.iaload, 1) := by decide +kernel
theorem dL_law_1073 : decode cL_law 1073 = .ok (.aload_n 3, 1) := by decide +kernel
theorem dL_law_1074 : decode cL_law 1074 = .ok (.invokestatic 129, 3) := by decide +kernel
theorem dL_law_1077 : decode cL_law 1077 = .ok (.istore 5, 2) := by decide +kernel
theorem dL_law_1079 : decode cL_law 1079 = .ok (.aload_n 2, 1) := by decide +kernel
theorem dL_law_1080 : decode cL_law 1080 = .ok (.aload_n 0, 1) := by decide +kernel
theorem dL_law_1081 : decode cL_law 1081 = .ok (.iload 4, 2) := by decide +kernel
theorem dL_law_1083 : decode cL_law 1083 = .ok (.iconst 1, 1) := by decide +kernel
theorem dL_law_1084 : decode cL_law 1084 = .ok (.iadd, 1) := by decide +kernel
theorem dL_law_1085 : decode cL_law 1085 = .ok (.iaload, 1) := by decide +kernel
theorem dL_law_1086 : decode cL_law 1086 = .ok (.aload_n 0, 1) := by decide +kernel
theorem dL_law_1087 : decode cL_law 1087 = .ok (.iload 4, 2) := by decide +kernel
theorem dL_law_1089 : decode cL_law 1089 = .ok (.iconst 2, 1) := by decide +kernel
theorem dL_law_1090 : decode cL_law 1090 = .ok (.iadd, 1) := by decide +kernel
theorem dL_law_1091 : decode cL_law 1091 = .ok (.iaload, 1) := by decide +kernel
theorem dL_law_1092 : decode cL_law 1092 = .ok (.invokevirtual 131, 3) := by decide +kernel
theorem dL_law_1095 : decode cL_law 1095 = .ok (.istore 6, 2) := by decide +kernel
theorem dL_law_1097 : decode cL_law 1097 = .ok (.aload_n 2, 1) := by decide +kernel
theorem dL_law_1098 : decode cL_law 1098 = .ok (.invokevirtual 78, 3) := by decide +kernel
theorem dL_law_1101 : decode cL_law 1101 = .ok (.iload 5, 2) := by decide +kernel
theorem dL_law_1103 : decode cL_law 1103 = .ok (.if_icmp .eq 5, 3) := by decide +kernel
theorem dL_law_1106 : decode cL_law 1106 = .ok (.iconst 0, 1) := by decide +kernel
theorem dL_law_1107 : decode cL_law 1107 = .ok (.ireturn, 1) := by decide +kernel
theorem dL_law_1108 : decode cL_law 1108 = .ok (.iload 5, 2) := by decide +kernel
theorem dL_law_1110 : decode cL_law 1110 = .ok (.ifCond .ne 15, 3) := by decide +kernel
theorem dL_law_1113 : decode cL_law 1113 = .ok (.aload_n 3, 1) := by decide +kernel
theorem dL_law_1114 : decode cL_law 1114 = .ok (.iconst 0, 1) := by decide +kernel
theorem dL_law_1115 : decode cL_law 1115 = .ok (.laload, 1) := by decide +kernel
theorem dL_law_1116 : decode cL_law 1116 = .ok (.iload 6, 2) := by decide +kernel
theorem dL_law_1118 : decode cL_law 1118 = .ok (.i2l, 1) := by decide +kernel
theorem dL_law_1119 : decode cL_law 1119 = .ok (.lcmp, 1) := by decide +kernel
theorem dL_law_1120 : decode cL_law 1120 = .ok (.ifCond .eq 5, 3) := by decide +kernel
theorem dL_law_1123 : decode cL_law 1123 = .ok (.iconst 0, 1) := by decide +kernel
theorem dL_law_1124 : decode cL_law 1124 = .ok (.ireturn, 1) := by decide +kernel
theorem dL_law_1125 : decode cL_law 1125 = .ok (.goto 127, 3) := by decide +kernel
theorem dL_law_1128 : decode cL_law 1128 = .ok (.aload_n 1, 1) := by decide +kernel
theorem dL_law_1129 : decode cL_law 1129 = .ok (.aload_n 0, 1) := by decide +kernel
theorem dL_law_1130 : decode cL_law 1130 = .ok (.iload 4, 2) := by decide +kernel
theorem dL_law_1132 : decode cL_law 1132 = .ok (.iconst 1, 1) := by decide +kernel
theorem dL_law_1133 : decode cL_law 1133 = .ok (.iadd, 1) := by decide +kernel
theorem dL_law_1134 : decode cL_law 1134 = .ok (.iaload, 1) := by decide +kernel
theorem dL_law_1135 : decode cL_law 1135 = .ok (.aload_n 0, 1) := by decide +kernel
theorem dL_law_1136 : decode cL_law 1136 = .ok (.iload 4, 2) := by decide +kernel
theorem dL_law_1138 : decode cL_law 1138 = .ok (.iconst 2, 1) := by decide +kernel
theorem dL_law_1139 : decode cL_law 1139 = .ok (.iadd, 1) := by decide +kernel
theorem dL_law_1140 : decode cL_law 1140 = .ok (.iaload, 1) := by decide +kernel
theorem dL_law_1141 : decode cL_law 1141 = .ok (.aload_n 3, 1) := by decide +kernel
theorem dL_law_1142 : decode cL_law 1142 = .ok (.invokestatic 132, 3) := by decide +kernel
theorem dL_law_1145 : decode cL_law 1145 = .ok (.istore 5, 2) := by decide +kernel
theorem dL_law_1147 : decode cL_law 1147 = .ok (.aload_n 2, 1) := by decide +kernel
theorem dL_law_1148 : decode cL_law 1148 = .ok (.aload_n 0, 1) := by decide +kernel
theorem dL_law_1149 : decode cL_law 1149 = .ok (.iload 4, 2) := by decide +kernel
theorem dL_law_1151 : decode cL_law 1151 = .ok (.iconst 1, 1) := by decide +kernel
theorem dL_law_1152 : decode cL_law 1152 = .ok (.iadd, 1) := by decide +kernel
theorem dL_law_1153 : decode cL_law 1153 = .ok (.iaload, 1) := by decide +kernel
theorem dL_law_1154 : decode cL_law 1154 = .ok (.aload_n 0, 1) := by decide +kernel
theorem dL_law_1155 : decode cL_law 1155 = .ok (.iload 4, 2) := by decide +kernel
theorem dL_law_1157 : decode cL_law 1157 = .ok (.iconst 2, 1) := by decide +kernel
theorem dL_law_1158 : decode cL_law 1158 = .ok (.iadd, 1) := by decide +kernel
theorem dL_law_1159 : decode cL_law 1159 = .ok (.iaload, 1) := by decide +kernel
theorem dL_law_1160 : decode cL_law 1160 = .ok (.invokevirtual 134, 3) := by decide +kernel
theorem dL_law_1163 : decode cL_law 1163 = .ok (.istore 6, 2) := by decide +kernel
theorem dL_law_1165 : decode cL_law 1165 = .ok (.aload_n 2, 1) := by decide +kernel
theorem dL_law_1166 : decode cL_law 1166 = .ok (.invokevirtual 78, 3) := by decide +kernel
theorem dL_law_1169 : decode cL_law 1169 = .ok (.iload 5, 2) := by decide +kernel
theorem dL_law_1171 : decode cL_law 1171 = .ok (.if_icmp .eq 5, 3) := by decide +kernel
theorem dL_law_1174 : decode cL_law 1174 = .ok (.iconst 0, 1) := by decide +kernel
theorem dL_law_1175 : decode cL_law 1175 = .ok (.ireturn, 1) := by decide +kernel
theorem dL_law_1176 : decode cL_law 1176 = .ok (.iload 5, 2) := by decide +kernel
theorem dL_law_1178 : decode cL_law 1178 = .ok (.ifCond .ne 15, 3) := by decide +kernel
theorem dL_law_1181 : decode cL_law 1181 = .ok (.aload_n 3, 1) := by decide +kernel
theorem dL_law_1182 : decode cL_law 1182 = .ok (.iconst 0, 1) := by decide +kernel
theorem dL_law_1183 : decode cL_law 1183 = .ok (.laload, 1) := by decide +kernel
theorem dL_law_1184 : decode cL_law 1184 = .ok (.iload 6, 2) := by decide +kernel
theorem dL_law_1186 : decode cL_law 1186 = .ok (.i2l, 1) := by decide +kernel
theorem dL_law_1187 : decode cL_law 1187 = .ok (.lcmp, 1) := by decide +kernel
theorem dL_law_1188 : decode cL_law 1188 = .ok (.ifCond .eq 5, 3) := by decide +kernel
theorem dL_law_1191 : decode cL_law 1191 = .ok (.iconst 0, 1) := by decide +kernel
theorem dL_law_1192 : decode cL_law 1192 = .ok (.ireturn, 1) := by decide +kernel
theorem dL_law_1193 : decode cL_law 1193 = .ok (.goto 59, 3) := by decide +kernel
theorem dL_law_1196 : decode cL_law 1196 = .ok (.aload_n 1, 1) := by decide +kernel
theorem dL_law_1197 : decode cL_law 1197 = .ok (.aload_n 0, 1) := by decide +kernel
theorem dL_law_1198 : decode cL_law 1198 = .ok (.iload 4, 2) := by decide +kernel
theorem dL_law_1200 : decode cL_law 1200 = .ok (.iconst 1, 1) := by decide +kernel
theorem dL_law_1201 : decode cL_law 1201 = .ok (.iadd, 1) := by decide +kernel
theorem dL_law_1202 : decode cL_law 1202 = .ok (.iaload, 1) := by decide +kernel
theorem dL_law_1203 : decode cL_law 1203 = .ok (.aload_n 3, 1) := by decide +kernel
theorem dL_law_1204 : decode cL_law 1204 = .ok (.invokestatic 135, 3) := by decide +kernel
theorem dL_law_1207 : decode cL_law 1207 = .ok (.istore 5, 2) := by decide +kernel
theorem dL_law_1209 : decode cL_law 1209 = .ok (.aload_n 2, 1) := by decide +kernel
theorem dL_law_1210 : decode cL_law 1210 = .ok (.aload_n 0, 1) := by decide +kernel
theorem dL_law_1211 : decode cL_law 1211 = .ok (.iload 4, 2) := by decide +kernel
theorem dL_law_1213 : decode cL_law 1213 = .ok (.iconst 1, 1) := by decide +kernel
theorem dL_law_1214 : decode cL_law 1214 = .ok (.iadd, 1) := by decide +kernel
theorem dL_law_1215 : decode cL_law 1215 = .ok (.iaload, 1) := by decide +kernel
theorem dL_law_1216 : decode cL_law 1216 = .ok (.invokevirtual 137, 3) := by decide +kernel
theorem dL_law_1219 : decode cL_law 1219 = .ok (.istore 6, 2) := by decide +kernel
theorem dL_law_1221 : decode cL_law 1221 = .ok (.aload_n 2, 1) := by decide +kernel
theorem dL_law_1222 : decode cL_law 1222 = .ok (.invokevirtual 78, 3) := by decide +kernel
theorem dL_law_1225 : decode cL_law 1225 = .ok (.iload 5, 2) := by decide +kernel
theorem dL_law_1227 : decode cL_law 1227 = .ok (.if_icmp .eq 5, 3) := by decide +kernel
theorem dL_law_1230 : decode cL_law 1230 = .ok (.iconst 0, 1) := by decide +kernel
theorem dL_law_1231 : decode cL_law 1231 = .ok (.ireturn, 1) := by decide +kernel
theorem dL_law_1232 : decode cL_law 1232 = .ok (.iload 5, 2) := by decide +kernel
theorem dL_law_1234 : decode cL_law 1234 = .ok (.ifCond .ne 15, 3) := by decide +kernel
theorem dL_law_1237 : decode cL_law 1237 = .ok (.aload_n 3, 1) := by decide +kernel
theorem dL_law_1238 : decode cL_law 1238 = .ok (.iconst 0, 1) := by decide +kernel
theorem dL_law_1239 : decode cL_law 1239 = .ok (.laload, 1) := by decide +kernel
theorem dL_law_1240 : decode cL_law 1240 = .ok (.iload 6, 2) := by decide +kernel
theorem dL_law_1242 : decode cL_law 1242 = .ok (.i2l, 1) := by decide +kernel
theorem dL_law_1243 : decode cL_law 1243 = .ok (.lcmp, 1) := by decide +kernel
theorem dL_law_1244 : decode cL_law 1244 = .ok (.ifCond .eq 5, 3) := by decide +kernel
theorem dL_law_1247 : decode cL_law 1247 = .ok (.iconst 0, 1) := by decide +kernel
theorem dL_law_1248 : decode cL_law 1248 = .ok (.ireturn, 1) := by decide +kernel
theorem dL_law_1249 : decode cL_law 1249 = .ok (.goto 3, 3) := by decide +kernel
theorem dL_law_1252 : decode cL_law 1252 = .ok (.iinc 4 5, 3) := by decide +kernel
theorem dL_law_1255 : decode cL_law 1255 = .ok (.goto (-1232), 3) := by decide +kernel
theorem dL_law_1258 : decode cL_law 1258 = .ok (.iconst 1, 1) := by decide +kernel
theorem dL_law_1259 : decode cL_law 1259 = .ok (.ireturn, 1) := by decide +kernel
abbrev vwCl : List vw_C := [(RX0, TX0, 18), (RX1, TX1, 19)]
end
section
/-! What a state is: a memory u (rows 0 .. 13 the arrays, row 14 the whole numbers), a class's cells made of it, steps and calls over such worlds. -/
abbrev cp_M : Type := Nat → Nat → Int32
def cp_up (u : cp_M) (k : Nat) (f : Nat → Int32) : cp_M := fun a => if a = k then f else u a
theorem cp_up_s (u : cp_M) (k : Nat) (f : Nat → Int32) : cp_up u k f k = f := if_pos rfl
theorem cp_up_n (u : cp_M) {k a : Nat} (h : a ≠ k) (f : Nat → Int32) : cp_up u k f a = u a := if_neg h
noncomputable def cp_b (P : Prop) : Int32 := @ite Int32 P (Classical.propDecidable P) 1 0
theorem cp_bt {P : Prop} (h : P) : cp_b P = 1 := @if_pos P (Classical.propDecidable P) h Int32 1 0
theorem cp_bf {P : Prop} (h : ¬ P) : cp_b P = 0 := @if_neg P (Classical.propDecidable P) h Int32 1 0
theorem cp_b0 {P : Prop} : cp_b P = 0 ↔ ¬ P := by
  by_cases h : P
  · rw [cp_bt h]; exact ⟨fun e => absurd e (by decide), fun e => absurd h e⟩
  · rw [cp_bf h]; exact ⟨fun _ => h, fun _ => rfl⟩
theorem cp_bn (P : Prop) : narrow .boolean (.int (cp_b P)) = .int (cp_b P) := by
  by_cases h : P
  · rw [cp_bt h]; rfl
  · rw [cp_bf h]; rfl
theorem cp_bc {P Q : Prop} (h : P ↔ Q) : cp_b P = cp_b Q := by rw [propext h]
/-- a place of an array: i is the number j, which is below n -/
def cp_ix (i : Int32) (j n : Nat) : Prop := i.toNatClampNeg = j ∧ vp_in i n
theorem cp_ix_n {j n : Nat} (h : j < n) (hn : n < 2 ^ 31) : cp_ix (nI j) j n := ⟨nI_clamp (Nat.lt_trans h hn), vp_in_nI h hn⟩
theorem cp_ix_e {i : Int32} {j n : Nat} (e : i = nI j) (h : j < n) (hn : n < 2 ^ 31) : cp_ix i j n := by rw [e]; exact cp_ix_n h hn
theorem cp_ix_a {i : Int32} {n : Nat} (h0 : 0 ≤ i.toInt) (h1 : i.toInt < n) : cp_ix i i.toNatClampNeg n := ⟨rfl, vp_in_iff.mpr ⟨h0, h1⟩⟩
theorem cp_nI_of {i : Int32} (h0 : 0 ≤ i.toInt) : nI i.toNatClampNeg = i := by
  have h1 := Int32.toInt_lt i
  apply Int32.toInt_inj.mp
  have h2 : i.toNatClampNeg = i.toInt.toNat := rfl
  rw [nI_toInt (by omega)]
  omega
-- the class's cells
def cp_oX (a : Nat → Nat) (u : cp_M) : List Value := [.int (u 14 0), .int (u 14 1), .ref (a 0), .ref (a 1), .ref (a 2), .ref (a 3), .ref (a 4), .ref (a 5), .ref (a 6), .int (u 14 2), .ref (a 7), .ref (a 8), .ref (a 9), .ref (a 10), .int (u 14 3), .ref (a 11), .ref (a 12), .ref (a 13)]
def cp_wX (cI : ClassId) (h : Nat) (a : Nat → Nat) (u : cp_M) : va_W := [(h, .inr (0, cp_oX a u)), (a 0, .inl (cI, 16, .inl (u 0))), (a 1, .inl (cI, 16, .inl (u 1))), (a 2, .inl (cI, 16, .inl (u 2))), (a 3, .inl (cI, 16, .inl (u 3))), (a 4, .inl (cI, 16, .inl (u 4))), (a 5, .inl (cI, 16, .inl (u 5))), (a 6, .inl (cI, 64, .inl (u 6))), (a 7, .inl (cI, 40, .inl (u 7))), (a 8, .inl (cI, 40, .inl (u 8))), (a 9, .inl (cI, 40, .inl (u 9))), (a 10, .inl (cI, 40, .inl (u 10))), (a 11, .inl (cI, 40, .inl (u 11))), (a 12, .inl (cI, 40, .inl (u 12))), (a 13, .inl (cI, 40, .inl (u 13)))]
-- the reference's cells: row 4 is isAnew, row 5 known, 14 4 is thrown
def cp_oY (a : Nat → Nat) (u : cp_M) : List Value := [.int (u 14 4), .int (u 14 0), .int (u 14 1), .ref (a 0), .ref (a 1), .ref (a 2), .ref (a 3), .ref (a 6), .int (u 14 2), .ref (a 7), .ref (a 8), .ref (a 9), .ref (a 10), .ref (a 5), .int (u 14 3), .ref (a 11), .ref (a 12), .ref (a 13), .ref (a 4)]
def cp_wY (cI cZ : ClassId) (h : Nat) (a : Nat → Nat) (u : cp_M) : va_W := [(h, .inr (1, cp_oY a u)), (a 0, .inl (cI, 16, .inl (u 0))), (a 1, .inl (cI, 16, .inl (u 1))), (a 2, .inl (cI, 16, .inl (u 2))), (a 3, .inl (cI, 16, .inl (u 3))), (a 4, .inl (cZ, 40, .inl (u 4))), (a 5, .inl (cI, 4, .inl (u 5))), (a 6, .inl (cI, 64, .inl (u 6))), (a 7, .inl (cI, 40, .inl (u 7))), (a 8, .inl (cI, 40, .inl (u 8))), (a 9, .inl (cI, 40, .inl (u 9))), (a 10, .inl (cI, 40, .inl (u 10))), (a 11, .inl (cI, 40, .inl (u 11))), (a 12, .inl (cI, 40, .inl (u 12))), (a 13, .inl (cI, 40, .inl (u 13)))]
theorem cp_sX_0 (cI : ClassId) (h : Nat) (a : Nat → Nat) (u : cp_M) (f : Nat → Int32) : (cp_wX cI h a u).set 1 (a 0, .inl (cI, 16, .inl f)) = cp_wX cI h a (cp_up u 0 f) := rfl
theorem cp_aX_0 (cI : ClassId) (h : Nat) (a : Nat → Nat) (u : cp_M) : (cp_wX cI h a u)[1]? = some (a 0, .inl (cI, 16, .inl (u 0))) := rfl
theorem cp_sY_0 (cI cZ : ClassId) (h : Nat) (a : Nat → Nat) (u : cp_M) (f : Nat → Int32) : (cp_wY cI cZ h a u).set 1 (a 0, .inl (cI, 16, .inl f)) = cp_wY cI cZ h a (cp_up u 0 f) := rfl
theorem cp_aY_0 (cI cZ : ClassId) (h : Nat) (a : Nat → Nat) (u : cp_M) : (cp_wY cI cZ h a u)[1]? = some (a 0, .inl (cI, 16, .inl (u 0))) := rfl
theorem cp_sX_1 (cI : ClassId) (h : Nat) (a : Nat → Nat) (u : cp_M) (f : Nat → Int32) : (cp_wX cI h a u).set 2 (a 1, .inl (cI, 16, .inl f)) = cp_wX cI h a (cp_up u 1 f) := rfl
theorem cp_aX_1 (cI : ClassId) (h : Nat) (a : Nat → Nat) (u : cp_M) : (cp_wX cI h a u)[2]? = some (a 1, .inl (cI, 16, .inl (u 1))) := rfl
theorem cp_sY_1 (cI cZ : ClassId) (h : Nat) (a : Nat → Nat) (u : cp_M) (f : Nat → Int32) : (cp_wY cI cZ h a u).set 2 (a 1, .inl (cI, 16, .inl f)) = cp_wY cI cZ h a (cp_up u 1 f) := rfl
theorem cp_aY_1 (cI cZ : ClassId) (h : Nat) (a : Nat → Nat) (u : cp_M) : (cp_wY cI cZ h a u)[2]? = some (a 1, .inl (cI, 16, .inl (u 1))) := rfl
theorem cp_sX_2 (cI : ClassId) (h : Nat) (a : Nat → Nat) (u : cp_M) (f : Nat → Int32) : (cp_wX cI h a u).set 3 (a 2, .inl (cI, 16, .inl f)) = cp_wX cI h a (cp_up u 2 f) := rfl
theorem cp_aX_2 (cI : ClassId) (h : Nat) (a : Nat → Nat) (u : cp_M) : (cp_wX cI h a u)[3]? = some (a 2, .inl (cI, 16, .inl (u 2))) := rfl
theorem cp_sY_2 (cI cZ : ClassId) (h : Nat) (a : Nat → Nat) (u : cp_M) (f : Nat → Int32) : (cp_wY cI cZ h a u).set 3 (a 2, .inl (cI, 16, .inl f)) = cp_wY cI cZ h a (cp_up u 2 f) := rfl
theorem cp_aY_2 (cI cZ : ClassId) (h : Nat) (a : Nat → Nat) (u : cp_M) : (cp_wY cI cZ h a u)[3]? = some (a 2, .inl (cI, 16, .inl (u 2))) := rfl
theorem cp_sX_3 (cI : ClassId) (h : Nat) (a : Nat → Nat) (u : cp_M) (f : Nat → Int32) : (cp_wX cI h a u).set 4 (a 3, .inl (cI, 16, .inl f)) = cp_wX cI h a (cp_up u 3 f) := rfl
theorem cp_aX_3 (cI : ClassId) (h : Nat) (a : Nat → Nat) (u : cp_M) : (cp_wX cI h a u)[4]? = some (a 3, .inl (cI, 16, .inl (u 3))) := rfl
theorem cp_sY_3 (cI cZ : ClassId) (h : Nat) (a : Nat → Nat) (u : cp_M) (f : Nat → Int32) : (cp_wY cI cZ h a u).set 4 (a 3, .inl (cI, 16, .inl f)) = cp_wY cI cZ h a (cp_up u 3 f) := rfl
theorem cp_aY_3 (cI cZ : ClassId) (h : Nat) (a : Nat → Nat) (u : cp_M) : (cp_wY cI cZ h a u)[4]? = some (a 3, .inl (cI, 16, .inl (u 3))) := rfl
theorem cp_sX_4 (cI : ClassId) (h : Nat) (a : Nat → Nat) (u : cp_M) (f : Nat → Int32) : (cp_wX cI h a u).set 5 (a 4, .inl (cI, 16, .inl f)) = cp_wX cI h a (cp_up u 4 f) := rfl
theorem cp_aX_4 (cI : ClassId) (h : Nat) (a : Nat → Nat) (u : cp_M) : (cp_wX cI h a u)[5]? = some (a 4, .inl (cI, 16, .inl (u 4))) := rfl
theorem cp_sY_4 (cI cZ : ClassId) (h : Nat) (a : Nat → Nat) (u : cp_M) (f : Nat → Int32) : (cp_wY cI cZ h a u).set 5 (a 4, .inl (cZ, 40, .inl f)) = cp_wY cI cZ h a (cp_up u 4 f) := rfl
theorem cp_aY_4 (cI cZ : ClassId) (h : Nat) (a : Nat → Nat) (u : cp_M) : (cp_wY cI cZ h a u)[5]? = some (a 4, .inl (cZ, 40, .inl (u 4))) := rfl
theorem cp_sX_5 (cI : ClassId) (h : Nat) (a : Nat → Nat) (u : cp_M) (f : Nat → Int32) : (cp_wX cI h a u).set 6 (a 5, .inl (cI, 16, .inl f)) = cp_wX cI h a (cp_up u 5 f) := rfl
theorem cp_aX_5 (cI : ClassId) (h : Nat) (a : Nat → Nat) (u : cp_M) : (cp_wX cI h a u)[6]? = some (a 5, .inl (cI, 16, .inl (u 5))) := rfl
theorem cp_sY_5 (cI cZ : ClassId) (h : Nat) (a : Nat → Nat) (u : cp_M) (f : Nat → Int32) : (cp_wY cI cZ h a u).set 6 (a 5, .inl (cI, 4, .inl f)) = cp_wY cI cZ h a (cp_up u 5 f) := rfl
theorem cp_aY_5 (cI cZ : ClassId) (h : Nat) (a : Nat → Nat) (u : cp_M) : (cp_wY cI cZ h a u)[6]? = some (a 5, .inl (cI, 4, .inl (u 5))) := rfl
theorem cp_sX_6 (cI : ClassId) (h : Nat) (a : Nat → Nat) (u : cp_M) (f : Nat → Int32) : (cp_wX cI h a u).set 7 (a 6, .inl (cI, 64, .inl f)) = cp_wX cI h a (cp_up u 6 f) := rfl
theorem cp_aX_6 (cI : ClassId) (h : Nat) (a : Nat → Nat) (u : cp_M) : (cp_wX cI h a u)[7]? = some (a 6, .inl (cI, 64, .inl (u 6))) := rfl
theorem cp_sY_6 (cI cZ : ClassId) (h : Nat) (a : Nat → Nat) (u : cp_M) (f : Nat → Int32) : (cp_wY cI cZ h a u).set 7 (a 6, .inl (cI, 64, .inl f)) = cp_wY cI cZ h a (cp_up u 6 f) := rfl
theorem cp_aY_6 (cI cZ : ClassId) (h : Nat) (a : Nat → Nat) (u : cp_M) : (cp_wY cI cZ h a u)[7]? = some (a 6, .inl (cI, 64, .inl (u 6))) := rfl
theorem cp_sX_7 (cI : ClassId) (h : Nat) (a : Nat → Nat) (u : cp_M) (f : Nat → Int32) : (cp_wX cI h a u).set 8 (a 7, .inl (cI, 40, .inl f)) = cp_wX cI h a (cp_up u 7 f) := rfl
theorem cp_aX_7 (cI : ClassId) (h : Nat) (a : Nat → Nat) (u : cp_M) : (cp_wX cI h a u)[8]? = some (a 7, .inl (cI, 40, .inl (u 7))) := rfl
theorem cp_sY_7 (cI cZ : ClassId) (h : Nat) (a : Nat → Nat) (u : cp_M) (f : Nat → Int32) : (cp_wY cI cZ h a u).set 8 (a 7, .inl (cI, 40, .inl f)) = cp_wY cI cZ h a (cp_up u 7 f) := rfl
theorem cp_aY_7 (cI cZ : ClassId) (h : Nat) (a : Nat → Nat) (u : cp_M) : (cp_wY cI cZ h a u)[8]? = some (a 7, .inl (cI, 40, .inl (u 7))) := rfl
theorem cp_sX_8 (cI : ClassId) (h : Nat) (a : Nat → Nat) (u : cp_M) (f : Nat → Int32) : (cp_wX cI h a u).set 9 (a 8, .inl (cI, 40, .inl f)) = cp_wX cI h a (cp_up u 8 f) := rfl
theorem cp_aX_8 (cI : ClassId) (h : Nat) (a : Nat → Nat) (u : cp_M) : (cp_wX cI h a u)[9]? = some (a 8, .inl (cI, 40, .inl (u 8))) := rfl
theorem cp_sY_8 (cI cZ : ClassId) (h : Nat) (a : Nat → Nat) (u : cp_M) (f : Nat → Int32) : (cp_wY cI cZ h a u).set 9 (a 8, .inl (cI, 40, .inl f)) = cp_wY cI cZ h a (cp_up u 8 f) := rfl
theorem cp_aY_8 (cI cZ : ClassId) (h : Nat) (a : Nat → Nat) (u : cp_M) : (cp_wY cI cZ h a u)[9]? = some (a 8, .inl (cI, 40, .inl (u 8))) := rfl
theorem cp_sX_9 (cI : ClassId) (h : Nat) (a : Nat → Nat) (u : cp_M) (f : Nat → Int32) : (cp_wX cI h a u).set 10 (a 9, .inl (cI, 40, .inl f)) = cp_wX cI h a (cp_up u 9 f) := rfl
theorem cp_aX_9 (cI : ClassId) (h : Nat) (a : Nat → Nat) (u : cp_M) : (cp_wX cI h a u)[10]? = some (a 9, .inl (cI, 40, .inl (u 9))) := rfl
theorem cp_sY_9 (cI cZ : ClassId) (h : Nat) (a : Nat → Nat) (u : cp_M) (f : Nat → Int32) : (cp_wY cI cZ h a u).set 10 (a 9, .inl (cI, 40, .inl f)) = cp_wY cI cZ h a (cp_up u 9 f) := rfl
theorem cp_aY_9 (cI cZ : ClassId) (h : Nat) (a : Nat → Nat) (u : cp_M) : (cp_wY cI cZ h a u)[10]? = some (a 9, .inl (cI, 40, .inl (u 9))) := rfl
theorem cp_sX_10 (cI : ClassId) (h : Nat) (a : Nat → Nat) (u : cp_M) (f : Nat → Int32) : (cp_wX cI h a u).set 11 (a 10, .inl (cI, 40, .inl f)) = cp_wX cI h a (cp_up u 10 f) := rfl
theorem cp_aX_10 (cI : ClassId) (h : Nat) (a : Nat → Nat) (u : cp_M) : (cp_wX cI h a u)[11]? = some (a 10, .inl (cI, 40, .inl (u 10))) := rfl
theorem cp_sY_10 (cI cZ : ClassId) (h : Nat) (a : Nat → Nat) (u : cp_M) (f : Nat → Int32) : (cp_wY cI cZ h a u).set 11 (a 10, .inl (cI, 40, .inl f)) = cp_wY cI cZ h a (cp_up u 10 f) := rfl
theorem cp_aY_10 (cI cZ : ClassId) (h : Nat) (a : Nat → Nat) (u : cp_M) : (cp_wY cI cZ h a u)[11]? = some (a 10, .inl (cI, 40, .inl (u 10))) := rfl
theorem cp_sX_11 (cI : ClassId) (h : Nat) (a : Nat → Nat) (u : cp_M) (f : Nat → Int32) : (cp_wX cI h a u).set 12 (a 11, .inl (cI, 40, .inl f)) = cp_wX cI h a (cp_up u 11 f) := rfl
theorem cp_aX_11 (cI : ClassId) (h : Nat) (a : Nat → Nat) (u : cp_M) : (cp_wX cI h a u)[12]? = some (a 11, .inl (cI, 40, .inl (u 11))) := rfl
theorem cp_sY_11 (cI cZ : ClassId) (h : Nat) (a : Nat → Nat) (u : cp_M) (f : Nat → Int32) : (cp_wY cI cZ h a u).set 12 (a 11, .inl (cI, 40, .inl f)) = cp_wY cI cZ h a (cp_up u 11 f) := rfl
theorem cp_aY_11 (cI cZ : ClassId) (h : Nat) (a : Nat → Nat) (u : cp_M) : (cp_wY cI cZ h a u)[12]? = some (a 11, .inl (cI, 40, .inl (u 11))) := rfl
theorem cp_sX_12 (cI : ClassId) (h : Nat) (a : Nat → Nat) (u : cp_M) (f : Nat → Int32) : (cp_wX cI h a u).set 13 (a 12, .inl (cI, 40, .inl f)) = cp_wX cI h a (cp_up u 12 f) := rfl
theorem cp_aX_12 (cI : ClassId) (h : Nat) (a : Nat → Nat) (u : cp_M) : (cp_wX cI h a u)[13]? = some (a 12, .inl (cI, 40, .inl (u 12))) := rfl
theorem cp_sY_12 (cI cZ : ClassId) (h : Nat) (a : Nat → Nat) (u : cp_M) (f : Nat → Int32) : (cp_wY cI cZ h a u).set 13 (a 12, .inl (cI, 40, .inl f)) = cp_wY cI cZ h a (cp_up u 12 f) := rfl
theorem cp_aY_12 (cI cZ : ClassId) (h : Nat) (a : Nat → Nat) (u : cp_M) : (cp_wY cI cZ h a u)[13]? = some (a 12, .inl (cI, 40, .inl (u 12))) := rfl
theorem cp_sX_13 (cI : ClassId) (h : Nat) (a : Nat → Nat) (u : cp_M) (f : Nat → Int32) : (cp_wX cI h a u).set 14 (a 13, .inl (cI, 40, .inl f)) = cp_wX cI h a (cp_up u 13 f) := rfl
theorem cp_aX_13 (cI : ClassId) (h : Nat) (a : Nat → Nat) (u : cp_M) : (cp_wX cI h a u)[14]? = some (a 13, .inl (cI, 40, .inl (u 13))) := rfl
theorem cp_sY_13 (cI cZ : ClassId) (h : Nat) (a : Nat → Nat) (u : cp_M) (f : Nat → Int32) : (cp_wY cI cZ h a u).set 14 (a 13, .inl (cI, 40, .inl f)) = cp_wY cI cZ h a (cp_up u 13 f) := rfl
theorem cp_aY_13 (cI cZ : ClassId) (h : Nat) (a : Nat → Nat) (u : cp_M) : (cp_wY cI cZ h a u)[14]? = some (a 13, .inl (cI, 40, .inl (u 13))) := rfl
theorem cp_hX (cI : ClassId) (h : Nat) (a : Nat → Nat) (u : cp_M) : (cp_wX cI h a u)[0]? = some (h, .inr (0, cp_oX a u)) := rfl
theorem cp_hY (cI cZ : ClassId) (h : Nat) (a : Nat → Nat) (u : cp_M) : (cp_wY cI cZ h a u)[0]? = some (h, .inr (1, cp_oY a u)) := rfl
theorem cp_iX_0 (cI : ClassId) (h : Nat) (a : Nat → Nat) (u : cp_M) (v : Int32) : (cp_wX cI h a u).set 0 (h, .inr (0, (cp_oX a u).set 0 (.int v))) = cp_wX cI h a (cp_up u 14 (upd (u 14) 0 v)) := rfl
theorem cp_iX_1 (cI : ClassId) (h : Nat) (a : Nat → Nat) (u : cp_M) (v : Int32) : (cp_wX cI h a u).set 0 (h, .inr (0, (cp_oX a u).set 1 (.int v))) = cp_wX cI h a (cp_up u 14 (upd (u 14) 1 v)) := rfl
theorem cp_iX_2 (cI : ClassId) (h : Nat) (a : Nat → Nat) (u : cp_M) (v : Int32) : (cp_wX cI h a u).set 0 (h, .inr (0, (cp_oX a u).set 9 (.int v))) = cp_wX cI h a (cp_up u 14 (upd (u 14) 2 v)) := rfl
theorem cp_iX_3 (cI : ClassId) (h : Nat) (a : Nat → Nat) (u : cp_M) (v : Int32) : (cp_wX cI h a u).set 0 (h, .inr (0, (cp_oX a u).set 14 (.int v))) = cp_wX cI h a (cp_up u 14 (upd (u 14) 3 v)) := rfl
theorem cp_iY_0 (cI cZ : ClassId) (h : Nat) (a : Nat → Nat) (u : cp_M) (v : Int32) : (cp_wY cI cZ h a u).set 0 (h, .inr (1, (cp_oY a u).set 1 (.int v))) = cp_wY cI cZ h a (cp_up u 14 (upd (u 14) 0 v)) := rfl
theorem cp_iY_1 (cI cZ : ClassId) (h : Nat) (a : Nat → Nat) (u : cp_M) (v : Int32) : (cp_wY cI cZ h a u).set 0 (h, .inr (1, (cp_oY a u).set 2 (.int v))) = cp_wY cI cZ h a (cp_up u 14 (upd (u 14) 1 v)) := rfl
theorem cp_iY_2 (cI cZ : ClassId) (h : Nat) (a : Nat → Nat) (u : cp_M) (v : Int32) : (cp_wY cI cZ h a u).set 0 (h, .inr (1, (cp_oY a u).set 8 (.int v))) = cp_wY cI cZ h a (cp_up u 14 (upd (u 14) 2 v)) := rfl
theorem cp_iY_3 (cI cZ : ClassId) (h : Nat) (a : Nat → Nat) (u : cp_M) (v : Int32) : (cp_wY cI cZ h a u).set 0 (h, .inr (1, (cp_oY a u).set 14 (.int v))) = cp_wY cI cZ h a (cp_up u 14 (upd (u 14) 3 v)) := rfl
theorem cp_iY_4 (cI cZ : ClassId) (h : Nat) (a : Nat → Nat) (u : cp_M) (v : Int32) : (cp_wY cI cZ h a u).set 0 (h, .inr (1, (cp_oY a u).set 0 (.int v))) = cp_wY cI cZ h a (cp_up u 14 (upd (u 14) 4 v)) := rfl
/-- the world's cells are there, apart, and what else was there is as it was -/
def cp_I (D : va_G) (w : va_W) (A : Nat → Prop) (H0 H : Heap) (locs : List Loc) : Prop := va_P D vwCl w H ∧ va_D A w ∧ va_S A H0 H locs
def cp_pre (D : va_G) (tys : List (ClassId × FieldType)) (w : va_W) (sz : Nat) : State → Prop := fun U => U.heap.size = sz ∧ va_P D vwCl w U.heap ∧ va_K D vwCl tys U ∧ va_D (fun _ => True) w
def cp_at (D : va_G) (tys : List (ClassId × FieldType)) (A : Nat → Prop) (w : cp_M → va_W) (u : cp_M) (t : State) : Prop := va_P D vwCl (w u) t.heap ∧ va_K D vwCl tys t ∧ va_D A (w u)
/-- what a method's walk knows of its start -/
def cp_C (p : Program) (s : State) (m : MethodId) (args : Array Value) (meth : Method) (c : Code) (cc : ByteArray) (nL : Nat) (Ts : List Cond) (ret : Option FieldType) (own : String) : Prop :=
  p.tables.exec = Jvm.exec ∧ c.code = cc ∧ c.maxLocals = nL ∧ s.vm.findClass own = some m.cls ∧ (∀ w ∈ Ts, w.before args s = true) ∧ meth.sig.returnType = ret ∧ meth.locks = false
theorem cp_blind (D : va_G) (tys : List (ClassId × FieldType)) (w : va_W) (sz : Nat) (As : List Value) : FrameBlind (va_Pc As (cp_pre D tys w sz)) := fun a U g mk q => by
  obtain ⟨q0, q1, qP, qK, qD⟩ := q
  exact ⟨q0, q1, qP, va_K.moved (u := U) (U := U.calling g mk a) (Vm.Alike.refl U.vm) qK, qD⟩
theorem cp_MetI {l : Launch} {y : MethodName} {ws ws' : List Cond} {rm : Room} {cc : ByteArray} {maxL mc ms : Nat} {ret : Option FieldType} {As : List Value} {D : va_G} {tys : List (ClassId × FieldType)} {w0 : va_W} {Qk : (Nat → Prop) → Array Value → State → Outcome → State → Prop}
    (hy : plainName y.cls = true) (hw : ws = Cond.code y cc maxL ret :: ws') (hnL : (lg_sl As).length ≤ maxL)
    (body : ∀ (p : Program) (e : Env) (s : State) (m : MethodId) (args : Array Value) (below : List Frame) (meth : Method) (c : Code) (A : Nat → Prop), cp_C p s m args meth c cc maxL ws ret y.cls → (∀ q, s.heap.size ≤ q → A q) → va_K D vwCl tys s → cp_I D w0 A s.heap s.heap [] →
      ∀ ls, lv_has ls maxL (lv_args 0 As) → W p l e rm s m args below meth c s.heap [] 0 0 (MQ below (Qk A) args s mc ms A) (F0 m 0 ls [])) (sz : Nat) : Met l y ws rm (va_Pc As (cp_pre D tys w0 sz)) (Qk (va_A w0 sz)) mc ms (va_A w0 sz) := by
  refine Met.ofW (cc := cc) (maxL := maxL) (ret := ret) hy hw ?_
  intro p e s m args below meth c s₁ B hml hv
  obtain ⟨rfl, hsz, hP, hK, hD0⟩ := hv
  subst hsz
  have hts := atoms_spec (ws := ws) B.pre
  have hl := lv_entry As (n := maxL) hnL
  rw [lg_entry_eq]
  exact body p e s m _ below meth c (va_A w0 s.heap.size) ⟨B.exec, B.bytes, hml, findClass_of_methodNamed B.named, hts, B.returns, B.notSynchronized⟩ (fun q h => Or.inr h) hK ⟨hP, hD0.self, va_S.rf⟩ _ hl
section CPS
variable {p : Program} {l : Launch} {e : Env} {R : Room} {s : State} {m : MethodId} {args : Array Value} {below : List Frame} {meth : Method} {c : Code} {H : Heap} {locs : List Loc} {cells slots : Nat} {Q : State → Prop}
variable {cc : ByteArray} {pc : Nat} {ls : Array Slot} {rest : List Value} {D : va_G} {A : Nat → Prop} {a : Nat} {tys : List (ClassId × FieldType)} {w : va_W} {H0 : Heap} {wf : cp_M → va_W} {u : cp_M}
theorem cp_reti {post : Int32 → cp_M → Prop} {v : Int32} (hx : p.tables.exec = Jvm.exec) (hb : c.code = cc) (hr : meth.sig.returnType = some .int) (hlocks : meth.locks = false) (hK : va_K D vwCl tys s) (hI : cp_I D (wf u) A s.heap H locs) (hp : post v u) (hdg : decode cc pc = .ok (.ireturn, 1)) :
    W p l e R s m args below meth c H locs cells slots (MQ below (va_Qi post (cp_at D tys A wf) A) args s cells slots A) (F0 m pc ls [.int v]) :=
  W.iret hx hb hr (fun t ht hW => ⟨⟨v, u, rfl, hp, by rw [ht]; exact hI.1, va_K.moved hW.alike hK, hI.2.1⟩, hI.2.2.F ht⟩) hI.2.2.2.2 hdg hlocks
theorem cp_retz {post : Int32 → cp_M → Prop} {v : Int32} (hx : p.tables.exec = Jvm.exec) (hb : c.code = cc) (hr : meth.sig.returnType = some .boolean) (hlocks : meth.locks = false) (hK : va_K D vwCl tys s) (hI : cp_I D (wf u) A s.heap H locs) (hn : narrow .boolean (.int v) = .int v) (hp : post v u) (hdg : decode cc pc = .ok (.ireturn, 1)) :
    W p l e R s m args below meth c H locs cells slots (MQ below (va_Qi post (cp_at D tys A wf) A) args s cells slots A) (F0 m pc ls [.int v]) :=
  W.zret hx hb hr hn (fun t ht hW => ⟨⟨v, u, rfl, hp, by rw [ht]; exact hI.1, va_K.moved hW.alike hK, hI.2.1⟩, hI.2.2.F ht⟩) hI.2.2.2.2 hdg hlocks
theorem cp_retl {post : Int64 → cp_M → Prop} {v : Int64} (hx : p.tables.exec = Jvm.exec) (hb : c.code = cc) (hr : meth.sig.returnType = some .long) (hlocks : meth.locks = false) (hK : va_K D vwCl tys s) (hI : cp_I D (wf u) A s.heap H locs) (hp : post v u) (hdg : decode cc pc = .ok (.lreturn, 1)) :
    W p l e R s m args below meth c H locs cells slots (MQ below (va_Ql post (cp_at D tys A wf) A) args s cells slots A) (F0 m pc ls [.long v]) :=
  W.lret hx hb hr (fun t ht hW => ⟨⟨v, u, rfl, hp, by rw [ht]; exact hI.1, va_K.moved hW.alike hK, hI.2.1⟩, hI.2.2.F ht⟩) hI.2.2.2.2 hdg hlocks
theorem cp_retv {post : cp_M → Prop} (hx : p.tables.exec = Jvm.exec) (hb : c.code = cc) (hr : meth.sig.returnType = none) (hlocks : meth.locks = false) (hK : va_K D vwCl tys s) (hI : cp_I D (wf u) A s.heap H locs) (hp : post u) (hdg : decode cc pc = .ok (.return_, 1)) :
    W p l e R s m args below meth c H locs cells slots (MQ below (va_Qv post (cp_at D tys A wf) A) args s cells slots A) (F0 m pc ls []) :=
  W.vret hx hb hr (fun t ht hW => ⟨⟨u, rfl, hp, by rw [ht]; exact hI.1, va_K.moved hW.alike hK, hI.2.1⟩, hI.2.2.F ht⟩) hI.2.2.2.2 hdg hlocks
theorem cp_iald (hx : p.tables.exec = Jvm.exec) (hb : c.code = cc) (hK : va_K D vwCl tys s) (hI : cp_I D w A H0 H locs) {q0 : Nat} (t0 : Nat) {cA : ClassId} {n : Nat} {f : Nat → Int32} (ha : w[q0]? = some (a, .inl (cA, n, .inl f))) (ht : tys[t0]? = some (cA, .int)) {i : Int32} {j : Nat} (hij : cp_ix i j n) (hdg : decode cc pc = .ok (.iaload, 1))
    (kk : W p l e R s m args below meth c H locs cells slots Q (F0 m (pc + 1) ls (.int (f j) :: rest))) : W p l e R s m args below meth c H locs cells slots Q (F0 m pc ls (.int i :: .ref a :: rest)) := by
  obtain ⟨rfl, hin⟩ := hij
  exact va_iald hx hb hK hI.1 q0 t0 ha ht hin hdg kk
theorem cp_zald (hx : p.tables.exec = Jvm.exec) (hb : c.code = cc) (hK : va_K D vwCl tys s) (hI : cp_I D w A H0 H locs) {q0 : Nat} (t0 : Nat) {cA : ClassId} {n : Nat} {f : Nat → Int32} (ha : w[q0]? = some (a, .inl (cA, n, .inl f))) (ht : tys[t0]? = some (cA, .boolean)) {i : Int32} {j : Nat} (hij : cp_ix i j n) (hdg : decode cc pc = .ok (.baload, 1))
    (kk : W p l e R s m args below meth c H locs cells slots Q (F0 m (pc + 1) ls (.int (f j) :: rest))) : W p l e R s m args below meth c H locs cells slots Q (F0 m pc ls (.int i :: .ref a :: rest)) := by
  obtain ⟨rfl, hin⟩ := hij
  exact va_zald hx hb hK hI.1 q0 t0 ha ht hin hdg kk
theorem cp_iast (hx : p.tables.exec = Jvm.exec) (hb : c.code = cc) (hK : va_K D vwCl tys s) (hI : cp_I D w A H0 H locs) {q0 : Nat} (t0 : Nat) {cA : ClassId} {n : Nat} {f : Nat → Int32} (ha : w[q0]? = some (a, .inl (cA, n, .inl f))) (ht : tys[t0]? = some (cA, .int)) {i : Int32} {j : Nat} (hij : cp_ix i j n) {x : Int32} (hdg : decode cc pc = .ok (.iastore, 1)) {w' : va_W} (hw : w.set q0 (a, .inl (cA, n, .inl (upd f j x))) = w')
    (kk : ∀ (H1 : Heap) (locs1 : List Loc), cp_I D w' A H0 H1 locs1 → W p l e R s m args below meth c H1 locs1 cells slots Q (F0 m (pc + 1) ls rest)) : W p l e R s m args below meth c H locs cells slots Q (F0 m pc ls (.int x :: .int i :: .ref a :: rest)) := by
  obtain ⟨rfl, hin⟩ := hij
  subst hw
  exact va_iast hx hb hK hI.1 hI.2.1 hI.2.2 q0 t0 ha ht hin hdg (fun H1 locs1 h1 h2 h3 => kk H1 locs1 ⟨h1, h2, h3⟩)
theorem cp_zast (hx : p.tables.exec = Jvm.exec) (hb : c.code = cc) (hK : va_K D vwCl tys s) (hI : cp_I D w A H0 H locs) {q0 : Nat} (t0 : Nat) {cA : ClassId} {n : Nat} {f : Nat → Int32} (ha : w[q0]? = some (a, .inl (cA, n, .inl f))) (ht : tys[t0]? = some (cA, .boolean)) {i : Int32} {j : Nat} (hij : cp_ix i j n) {x y : Int32} (hy : vp_nar .boolean x = y) (hdg : decode cc pc = .ok (.bastore, 1)) {w' : va_W} (hw : w.set q0 (a, .inl (cA, n, .inl (upd f j y))) = w')
    (kk : ∀ (H1 : Heap) (locs1 : List Loc), cp_I D w' A H0 H1 locs1 → W p l e R s m args below meth c H1 locs1 cells slots Q (F0 m (pc + 1) ls rest)) : W p l e R s m args below meth c H locs cells slots Q (F0 m pc ls (.int x :: .int i :: .ref a :: rest)) := by
  obtain ⟨rfl, hin⟩ := hij
  subst hy
  subst hw
  exact va_zast hx hb hK hI.1 hI.2.1 hI.2.2 q0 t0 ha ht hin hdg (fun H1 locs1 h1 h2 h3 => kk H1 locs1 ⟨h1, h2, h3⟩)
theorem cp_get {Ts : List Cond} {own ref C : String} {T : u_T} {N ci index : Nat} (hx : p.tables.exec = Jvm.exec) (hb : c.code = cc) (hts : ∀ w ∈ Ts, w.before args s = true) (hin : ∀ w ∈ u_ws C T N, w ∈ Ts) (hown : s.vm.findClass own = some m.cls) (hK : va_K D vwCl tys s) (hI : cp_I D w A H0 H locs) {q0 : Nat} {fs : List Value} (he : w[q0]? = some (a, .inr (ci, fs))) (hc : vwCl[ci]? = some (C, T, N)) (k : Nat) (hk : k < N) (hlink : (Cond.fieldLink own index ref (T k).2.1 (T k).2.2.1) ∈ Ts) (href : (T k).1 = ref) {v : Value} (hv : fs[k]? = some v) (hdg : decode cc pc = .ok (.getfield index, 3))
    (kk : W p l e R s m args below meth c H locs cells slots Q (F0 m (pc + 3) ls (v :: rest))) : W p l e R s m args below meth c H locs cells slots Q (F0 m pc ls (.ref a :: rest)) := by
  subst href
  exact va_get hx hb hts hin hown hK hI.1 q0 he hc k hk (hts _ hlink) (fun _ h9 => h9) hv hdg kk
theorem cp_puti {Ts : List Cond} {own ref C : String} {T : u_T} {N ci index : Nat} (hx : p.tables.exec = Jvm.exec) (hb : c.code = cc) (hts : ∀ w ∈ Ts, w.before args s = true) (hin : ∀ w ∈ u_ws C T N, w ∈ Ts) (ty0 : Nat → FieldType) (hty : ∀ k, k < N → parseFieldDescriptor (T k).2.2.1 = some (ty0 k)) (hnm : ∀ a, a < N → ∀ b, b < N → a ≠ b → (T a).2.1 ≠ (T b).2.1) (hown : s.vm.findClass own = some m.cls) (hK : va_K D vwCl tys s) (hI : cp_I D w A H0 H locs) {q0 : Nat} {fs : List Value} (he : w[q0]? = some (a, .inr (ci, fs))) (hc : vwCl[ci]? = some (C, T, N)) (k : Nat) (hk : k < N) (hlink : (Cond.fieldLink own index ref (T k).2.1 (T k).2.2.1) ∈ Ts) (href : (T k).1 = ref) (hfin : (T k).2.2.2 = false) (hd : parseFieldDescriptor (T k).2.2.1 = some .int) (hl : k < fs.length) {x : Int32}
    (hdg : decode cc pc = .ok (.putfield index, 3)) {w' : va_W} (hw : w.set q0 (a, .inr (ci, fs.set k (.int x))) = w') (kk : ∀ (H1 : Heap) (locs1 : List Loc), cp_I D w' A H0 H1 locs1 → W p l e R s m args below meth c H1 locs1 cells slots Q (F0 m (pc + 3) ls rest)) : W p l e R s m args below meth c H locs cells slots Q (F0 m pc ls (.int x :: .ref a :: rest)) := by
  subst hw
  subst href
  exact va_put hx hb hts hin ty0 hty hnm hown hK hI.1 hI.2.1 hI.2.2 q0 he hc k hk (hts _ hlink) (fun _ h9 => h9) hfin hd rfl rfl hl hdg (fun H1 locs1 h1 h2 h3 => kk H1 locs1 ⟨h1, h2, h3⟩)
/-- behind a call whose world is the first part of ours -/
theorem cp_behind {wc wr w1 : va_W} {locs1 : List Loc} {H1 : Heap} (hI : cp_I D (wc ++ wr) A H0 H locs) (hA : ∀ q, H0.size ≤ q → A q) (hP1 : va_P D vwCl w1 H1) (hD1 : va_D (va_A wc H.size) w1) (hk : ∀ q : Nat, q < H.size → ¬ va_A wc H.size q → H1[q]? = H[q]?) (hS : va_S A H0 H1 locs1) : cp_I D (w1 ++ wr) A H0 H1 locs1 := by
  obtain ⟨hP, hD, hS0⟩ := hI
  have hF : ∀ q, va_A wc H.size q → A q := fun q h => by
    rcases h with ⟨k, e, h⟩ | h
    · exact hD.2 k (q, e) (by rw [List.getElem?_append_left (List.getElem?_eq_some_iff.mp h).1]; exact h)
    · exact hA q (Nat.le_trans hS0.1 h)
  have hPr : ∀ (k : Nat) (q : Nat × va_E), wr[k]? = some q → (wc ++ wr)[wc.length + k]? = some q := fun k q h => by
    rw [List.getElem?_append_right (Nat.le_add_right _ _), Nat.add_sub_cancel_left]
    exact h
  have hout : ∀ (k : Nat) (q : Nat × va_E), wr[k]? = some q → q.1 < H.size ∧ ¬ va_A wc H.size q.1 := fun k q h => by
    have hlt : q.1 < H.size := (hP _ q (hPr k q h)).lt
    refine ⟨hlt, ?_⟩
    rintro (⟨j, e9, h2⟩ | h2)
    · have hj := (List.getElem?_eq_some_iff.mp h2).1
      have := hD.1 j (wc.length + k) (q.1, e9) q (by rw [List.getElem?_append_left hj]; exact h2) (hPr k q h) rfl
      omega
    · omega
  refine ⟨hP1.app (fun k q h => (hP _ q (hPr k q h)).kept (hk q.1 (hout k q h).1 (hout k q h).2)), (hD1.weaken (fun k q _ h => hF q.1 h)).app ⟨fun i j x y hi hj hxy => ?_, fun k q h => hD.2 _ q (hPr k q h)⟩ (fun i j x y hi hj hxy => ?_), hS⟩
  · have := hD.1 _ _ x y (hPr i x hi) (hPr j y hj) hxy
    omega
  · exact (hout j y hj).2 (hxy ▸ hD1.2 i x hi)
theorem cp_callee {wc wr : va_W} (hI : cp_I D (wc ++ wr) A H0 H locs) : va_P D vwCl wc H ∧ va_D (fun _ => True) wc := by
  obtain ⟨hP, hD, hS0⟩ := hI
  have h : ∀ (k : Nat) (q : Nat × va_E), wc[k]? = some q → (wc ++ wr)[k]? = some q := fun k q h => by
    rw [List.getElem?_append_left (List.getElem?_eq_some_iff.mp h).1]
    exact h
  exact ⟨fun k q hq => hP k q (h k q hq), fun i j x y hi hj => hD.1 i j x y (h i x hi) (h j y hj), fun _ _ _ => trivial⟩
theorem cp_fr {wc wr : va_W} (hI : cp_I D (wc ++ wr) A H0 H locs) (hA : ∀ q, H0.size ≤ q → A q) : ∀ q, va_A wc H.size q → A q := fun q h => by
  rcases h with ⟨k, e, h⟩ | h
  · exact hI.2.1.2 k (q, e) (by rw [List.getElem?_append_left (List.getElem?_eq_some_iff.mp h).1]; exact h)
  · exact hA q (Nat.le_trans hI.2.2.1 h)
theorem cp_nil {wc : va_W} (hI : cp_I D wc A H0 H locs) : cp_I D (wc ++ []) A H0 H locs := by rw [List.append_nil]; exact hI
theorem cp_lin {wc : va_W} (hI : cp_I D (wc ++ []) A H0 H locs) : cp_I D wc A H0 H locs := by rw [List.append_nil] at hI; exact hI
section CPC
variable {y : MethodName} {bytes : ByteArray} {maxL nL mc ms n index ci : Nat} {ret : Option FieldType} {wsy : List Cond} {rm : Room} {Ts : List Cond} {own C : String} {b : Nat} {As st0 : List Value} {wc : cp_M → va_W} {wr : va_W} {tc : List (ClassId × FieldType)} {vq : vw_C}
theorem cp_preS (hK : va_K D vwCl tc s) (hI : cp_I D (wc u ++ wr) A H0 H locs) : PreS s H (va_Pc As (cp_pre D tc (wc u) H.size)) As :=
  ⟨cp_blind _ _ _ _ _, fun U hU hW => ⟨rfl, by rw [hU], by rw [hU]; exact (cp_callee hI).1, va_K.moved hW.alike hK, (cp_callee hI).2⟩⟩
theorem cp_preV (hK : va_K D vwCl tc s) (hI : cp_I D (wc u ++ wr) A H0 H locs) (hrv : ∃ fs, (wc u)[0]? = some (b, .inr (ci, fs))) (hci : vwCl[ci]? = some vq) (hq : vq.1 = C) : PreV s H C b (va_Pc (.ref b :: As) (cp_pre D tc (wc u) H.size)) As := by
  obtain ⟨fs, hrv⟩ := hrv
  subst hq
  exact ⟨cp_blind _ _ _ _ _, va_recv hK (cp_callee hI).1 hci hrv, fun U hU hW => ⟨rfl, by rw [hU], by rw [hU]; exact (cp_callee hI).1, va_K.moved hW.alike hK, (cp_callee hI).2⟩⟩
theorem cp_cVi {post : Int32 → cp_M → Prop} (S : CallFix p m c cc nL s args Ts own) (hM : ∀ sz, Met l y wsy rm (va_Pc (.ref b :: As) (cp_pre D tc (wc u) sz)) (va_Qi post (cp_at D tc (va_A (wc u) sz) wc) (va_A (wc u) sz)) mc ms (va_A (wc u) sz)) (cw : CallW R s args own C index y bytes maxL ret wsy rm mc ms n) (hK : va_K D vwCl tc s) (hI : cp_I D (wc u ++ wr) A H0 H locs) (hA : ∀ q, H0.size ≤ q → A q) (hrv : ∃ fs, (wc u)[0]? = some (b, .inr (ci, fs))) (hci : vwCl[ci]? = some vq) (hq : vq.1 = C) (hn : As.length = n) (hsz : ls.size = nL) (hst : st0 = As.reverse ++ .ref b :: rest) (hr : (rest.map fun v => v.category).sum ≤ 8) (hdg : decode cc pc = .ok (.invokevirtual index, 3)) (hf : cells + mc ≤ R.cells ∧ slots + ms ≤ R.slots)
    (kk : ∀ (r : Int32) (u1 : cp_M) (H1 : Heap) (locs1 : List Loc), post r u1 → cp_I D (wc u1 ++ wr) A H0 H1 locs1 → W p l e R s m args below meth c H1 locs1 (cells + mc) (slots + ms) Q (F0 m (pc + 3) ls (.int r :: rest))) : W p l e R s m args below meth c H locs cells slots Q (F0 m pc ls st0) := by
  refine va_calli (va_runV (g := F0 m pc ls st0) (As := As) (rest := rest) S (hM H.size) cw (cp_preV hK hI hrv hci hq) rfl hn hsz hst (lv_room hr) hdg hf) hI.2.2 (fun q _ h => cp_fr hI hA q h) (cp_fr hI hA) (fun r u1 t H1 locs1 ht hvm hp hB hz hk hS => ?_)
  exact kk r u1 H1 locs1 hp (cp_behind hI hA (ht ▸ hB.1) hB.2.2 hk hS)
theorem cp_cVi0 {post : Int32 → cp_M → Prop} (S : CallFix p m c cc nL s args Ts own) (hM : ∀ sz, Met l y wsy rm (va_Pc (.ref b :: As) (cp_pre D tc (wc u) sz)) (va_Qi post (cp_at D tc (va_A (wc u) sz) wc) (va_A (wc u) sz)) mc ms (va_A (wc u) sz)) (cw : CallW R s args own C index y bytes maxL ret wsy rm mc ms n) (hK : va_K D vwCl tc s) (hI : cp_I D (wc u) A H0 H locs) (hA : ∀ q, H0.size ≤ q → A q) (hrv : ∃ fs, (wc u)[0]? = some (b, .inr (ci, fs))) (hci : vwCl[ci]? = some vq) (hq : vq.1 = C) (hn : As.length = n) (hsz : ls.size = nL) (hst : st0 = As.reverse ++ .ref b :: rest) (hr : (rest.map fun v => v.category).sum ≤ 8) (hdg : decode cc pc = .ok (.invokevirtual index, 3)) (hf : cells + mc ≤ R.cells ∧ slots + ms ≤ R.slots)
    (kk : ∀ (r : Int32) (u1 : cp_M) (H1 : Heap) (locs1 : List Loc), post r u1 → cp_I D (wc u1) A H0 H1 locs1 → W p l e R s m args below meth c H1 locs1 (cells + mc) (slots + ms) Q (F0 m (pc + 3) ls (.int r :: rest))) : W p l e R s m args below meth c H locs cells slots Q (F0 m pc ls st0) :=
  cp_cVi (wr := []) S hM cw hK (cp_nil hI) hA hrv hci hq hn hsz hst hr hdg hf (fun r u1 H1 locs1 hp h => kk r u1 H1 locs1 hp (cp_lin h))
theorem cp_cVl {post : Int64 → cp_M → Prop} (S : CallFix p m c cc nL s args Ts own) (hM : ∀ sz, Met l y wsy rm (va_Pc (.ref b :: As) (cp_pre D tc (wc u) sz)) (va_Ql post (cp_at D tc (va_A (wc u) sz) wc) (va_A (wc u) sz)) mc ms (va_A (wc u) sz)) (cw : CallW R s args own C index y bytes maxL ret wsy rm mc ms n) (hK : va_K D vwCl tc s) (hI : cp_I D (wc u ++ wr) A H0 H locs) (hA : ∀ q, H0.size ≤ q → A q) (hrv : ∃ fs, (wc u)[0]? = some (b, .inr (ci, fs))) (hci : vwCl[ci]? = some vq) (hq : vq.1 = C) (hn : As.length = n) (hsz : ls.size = nL) (hst : st0 = As.reverse ++ .ref b :: rest) (hr : (rest.map fun v => v.category).sum ≤ 8) (hdg : decode cc pc = .ok (.invokevirtual index, 3)) (hf : cells + mc ≤ R.cells ∧ slots + ms ≤ R.slots)
    (kk : ∀ (r : Int64) (u1 : cp_M) (H1 : Heap) (locs1 : List Loc), post r u1 → cp_I D (wc u1 ++ wr) A H0 H1 locs1 → W p l e R s m args below meth c H1 locs1 (cells + mc) (slots + ms) Q (F0 m (pc + 3) ls (.long r :: rest))) : W p l e R s m args below meth c H locs cells slots Q (F0 m pc ls st0) := by
  refine va_calll (va_runV (g := F0 m pc ls st0) (As := As) (rest := rest) S (hM H.size) cw (cp_preV hK hI hrv hci hq) rfl hn hsz hst (lv_room hr) hdg hf) hI.2.2 (fun q _ h => cp_fr hI hA q h) (cp_fr hI hA) (fun r u1 t H1 locs1 ht hvm hp hB hz hk hS => ?_)
  exact kk r u1 H1 locs1 hp (cp_behind hI hA (ht ▸ hB.1) hB.2.2 hk hS)
theorem cp_cVl0 {post : Int64 → cp_M → Prop} (S : CallFix p m c cc nL s args Ts own) (hM : ∀ sz, Met l y wsy rm (va_Pc (.ref b :: As) (cp_pre D tc (wc u) sz)) (va_Ql post (cp_at D tc (va_A (wc u) sz) wc) (va_A (wc u) sz)) mc ms (va_A (wc u) sz)) (cw : CallW R s args own C index y bytes maxL ret wsy rm mc ms n) (hK : va_K D vwCl tc s) (hI : cp_I D (wc u) A H0 H locs) (hA : ∀ q, H0.size ≤ q → A q) (hrv : ∃ fs, (wc u)[0]? = some (b, .inr (ci, fs))) (hci : vwCl[ci]? = some vq) (hq : vq.1 = C) (hn : As.length = n) (hsz : ls.size = nL) (hst : st0 = As.reverse ++ .ref b :: rest) (hr : (rest.map fun v => v.category).sum ≤ 8) (hdg : decode cc pc = .ok (.invokevirtual index, 3)) (hf : cells + mc ≤ R.cells ∧ slots + ms ≤ R.slots)
    (kk : ∀ (r : Int64) (u1 : cp_M) (H1 : Heap) (locs1 : List Loc), post r u1 → cp_I D (wc u1) A H0 H1 locs1 → W p l e R s m args below meth c H1 locs1 (cells + mc) (slots + ms) Q (F0 m (pc + 3) ls (.long r :: rest))) : W p l e R s m args below meth c H locs cells slots Q (F0 m pc ls st0) :=
  cp_cVl (wr := []) S hM cw hK (cp_nil hI) hA hrv hci hq hn hsz hst hr hdg hf (fun r u1 H1 locs1 hp h => kk r u1 H1 locs1 hp (cp_lin h))
theorem cp_cVv {post : cp_M → Prop} (S : CallFix p m c cc nL s args Ts own) (hM : ∀ sz, Met l y wsy rm (va_Pc (.ref b :: As) (cp_pre D tc (wc u) sz)) (va_Qv post (cp_at D tc (va_A (wc u) sz) wc) (va_A (wc u) sz)) mc ms (va_A (wc u) sz)) (cw : CallW R s args own C index y bytes maxL ret wsy rm mc ms n) (hK : va_K D vwCl tc s) (hI : cp_I D (wc u ++ wr) A H0 H locs) (hA : ∀ q, H0.size ≤ q → A q) (hrv : ∃ fs, (wc u)[0]? = some (b, .inr (ci, fs))) (hci : vwCl[ci]? = some vq) (hq : vq.1 = C) (hn : As.length = n) (hsz : ls.size = nL) (hst : st0 = As.reverse ++ .ref b :: rest) (hr : (rest.map fun v => v.category).sum ≤ 8) (hdg : decode cc pc = .ok (.invokevirtual index, 3)) (hf : cells + mc ≤ R.cells ∧ slots + ms ≤ R.slots)
    (kk : ∀ (u1 : cp_M) (H1 : Heap) (locs1 : List Loc), post u1 → cp_I D (wc u1 ++ wr) A H0 H1 locs1 → W p l e R s m args below meth c H1 locs1 (cells + mc) (slots + ms) Q (F0 m (pc + 3) ls rest)) : W p l e R s m args below meth c H locs cells slots Q (F0 m pc ls st0) := by
  refine va_callv (va_runV (g := F0 m pc ls st0) (As := As) (rest := rest) S (hM H.size) cw (cp_preV hK hI hrv hci hq) rfl hn hsz hst (lv_room hr) hdg hf) hI.2.2 (fun q _ h => cp_fr hI hA q h) (cp_fr hI hA) (fun u1 t H1 locs1 ht hvm hp hB hz hk hS => ?_)
  exact kk u1 H1 locs1 hp (cp_behind hI hA (ht ▸ hB.1) hB.2.2 hk hS)
theorem cp_cVv0 {post : cp_M → Prop} (S : CallFix p m c cc nL s args Ts own) (hM : ∀ sz, Met l y wsy rm (va_Pc (.ref b :: As) (cp_pre D tc (wc u) sz)) (va_Qv post (cp_at D tc (va_A (wc u) sz) wc) (va_A (wc u) sz)) mc ms (va_A (wc u) sz)) (cw : CallW R s args own C index y bytes maxL ret wsy rm mc ms n) (hK : va_K D vwCl tc s) (hI : cp_I D (wc u) A H0 H locs) (hA : ∀ q, H0.size ≤ q → A q) (hrv : ∃ fs, (wc u)[0]? = some (b, .inr (ci, fs))) (hci : vwCl[ci]? = some vq) (hq : vq.1 = C) (hn : As.length = n) (hsz : ls.size = nL) (hst : st0 = As.reverse ++ .ref b :: rest) (hr : (rest.map fun v => v.category).sum ≤ 8) (hdg : decode cc pc = .ok (.invokevirtual index, 3)) (hf : cells + mc ≤ R.cells ∧ slots + ms ≤ R.slots)
    (kk : ∀ (u1 : cp_M) (H1 : Heap) (locs1 : List Loc), post u1 → cp_I D (wc u1) A H0 H1 locs1 → W p l e R s m args below meth c H1 locs1 (cells + mc) (slots + ms) Q (F0 m (pc + 3) ls rest)) : W p l e R s m args below meth c H locs cells slots Q (F0 m pc ls st0) :=
  cp_cVv (wr := []) S hM cw hK (cp_nil hI) hA hrv hci hq hn hsz hst hr hdg hf (fun u1 H1 locs1 hp h => kk u1 H1 locs1 hp (cp_lin h))
theorem cp_cSi {post : Int32 → cp_M → Prop} (S : CallFix p m c cc nL s args Ts own) (hM : ∀ sz, Met l y wsy rm (va_Pc As (cp_pre D tc (wc u) sz)) (va_Qi post (cp_at D tc (va_A (wc u) sz) wc) (va_A (wc u) sz)) mc ms (va_A (wc u) sz)) (cw : CallB R s args own index y bytes maxL ret wsy rm mc ms n ∧ (Cond.static y).before args s = true) (hK : va_K D vwCl tc s) (hI : cp_I D (wc u ++ wr) A H0 H locs) (hA : ∀ q, H0.size ≤ q → A q) (hn : As.length = n) (hsz : ls.size = nL) (hst : st0 = As.reverse ++ rest) (hr : (rest.map fun v => v.category).sum ≤ 8) (hdg : decode cc pc = .ok (.invokestatic index, 3)) (hf : cells + mc ≤ R.cells ∧ slots + ms ≤ R.slots)
    (kk : ∀ (r : Int32) (u1 : cp_M) (H1 : Heap) (locs1 : List Loc), post r u1 → cp_I D (wc u1 ++ wr) A H0 H1 locs1 → W p l e R s m args below meth c H1 locs1 (cells + mc) (slots + ms) Q (F0 m (pc + 3) ls (.int r :: rest))) : W p l e R s m args below meth c H locs cells slots Q (F0 m pc ls st0) := by
  refine va_calli (va_runS (g := F0 m pc ls st0) (As := As) (rest := rest) S (hM H.size) cw (cp_preS hK hI) rfl hn hsz hst (lv_room hr) hdg hf) hI.2.2 (fun q _ h => cp_fr hI hA q h) (cp_fr hI hA) (fun r u1 t H1 locs1 ht hvm hp hB hz hk hS => ?_)
  exact kk r u1 H1 locs1 hp (cp_behind hI hA (ht ▸ hB.1) hB.2.2 hk hS)
/-- a static method that looks at no cell -/
theorem cp_cSi0 {post : Int32 → cp_M → Prop} (S : CallFix p m c cc nL s args Ts own) (hM : ∀ sz, Met l y wsy rm (va_Pc As (cp_pre D [] [] sz)) (va_Qi post (cp_at D [] (va_A [] sz) (fun _ => [])) (va_A [] sz)) mc ms (va_A [] sz)) (cw : CallB R s args own index y bytes maxL ret wsy rm mc ms n ∧ (Cond.static y).before args s = true) (hK : va_K D vwCl tc s) (hI : cp_I D wr A H0 H locs) (hA : ∀ q, H0.size ≤ q → A q) (hn : As.length = n) (hsz : ls.size = nL) (hst : st0 = As.reverse ++ rest) (hr : (rest.map fun v => v.category).sum ≤ 8) (hdg : decode cc pc = .ok (.invokestatic index, 3)) (hf : cells + mc ≤ R.cells ∧ slots + ms ≤ R.slots)
    (kk : ∀ (r : Int32) (u1 : cp_M) (H1 : Heap) (locs1 : List Loc), post r u1 → cp_I D wr A H0 H1 locs1 → W p l e R s m args below meth c H1 locs1 (cells + mc) (slots + ms) Q (F0 m (pc + 3) ls (.int r :: rest))) : W p l e R s m args below meth c H locs cells slots Q (F0 m pc ls st0) :=
  cp_cSi (wc := fun _ => []) (u := fun _ _ => 0) (wr := wr) (tc := []) S hM cw (hK.sub [] rfl) hI hA hn hsz hst hr hdg hf kk
theorem cp_cSl {post : Int64 → cp_M → Prop} (S : CallFix p m c cc nL s args Ts own) (hM : ∀ sz, Met l y wsy rm (va_Pc As (cp_pre D tc (wc u) sz)) (va_Ql post (cp_at D tc (va_A (wc u) sz) wc) (va_A (wc u) sz)) mc ms (va_A (wc u) sz)) (cw : CallB R s args own index y bytes maxL ret wsy rm mc ms n ∧ (Cond.static y).before args s = true) (hK : va_K D vwCl tc s) (hI : cp_I D (wc u ++ wr) A H0 H locs) (hA : ∀ q, H0.size ≤ q → A q) (hn : As.length = n) (hsz : ls.size = nL) (hst : st0 = As.reverse ++ rest) (hr : (rest.map fun v => v.category).sum ≤ 8) (hdg : decode cc pc = .ok (.invokestatic index, 3)) (hf : cells + mc ≤ R.cells ∧ slots + ms ≤ R.slots)
    (kk : ∀ (r : Int64) (u1 : cp_M) (H1 : Heap) (locs1 : List Loc), post r u1 → cp_I D (wc u1 ++ wr) A H0 H1 locs1 → W p l e R s m args below meth c H1 locs1 (cells + mc) (slots + ms) Q (F0 m (pc + 3) ls (.long r :: rest))) : W p l e R s m args below meth c H locs cells slots Q (F0 m pc ls st0) := by
  refine va_calll (va_runS (g := F0 m pc ls st0) (As := As) (rest := rest) S (hM H.size) cw (cp_preS hK hI) rfl hn hsz hst (lv_room hr) hdg hf) hI.2.2 (fun q _ h => cp_fr hI hA q h) (cp_fr hI hA) (fun r u1 t H1 locs1 ht hvm hp hB hz hk hS => ?_)
  exact kk r u1 H1 locs1 hp (cp_behind hI hA (ht ▸ hB.1) hB.2.2 hk hS)
/-- a static method that looks at no cell -/
theorem cp_cSl0 {post : Int64 → cp_M → Prop} (S : CallFix p m c cc nL s args Ts own) (hM : ∀ sz, Met l y wsy rm (va_Pc As (cp_pre D [] [] sz)) (va_Ql post (cp_at D [] (va_A [] sz) (fun _ => [])) (va_A [] sz)) mc ms (va_A [] sz)) (cw : CallB R s args own index y bytes maxL ret wsy rm mc ms n ∧ (Cond.static y).before args s = true) (hK : va_K D vwCl tc s) (hI : cp_I D wr A H0 H locs) (hA : ∀ q, H0.size ≤ q → A q) (hn : As.length = n) (hsz : ls.size = nL) (hst : st0 = As.reverse ++ rest) (hr : (rest.map fun v => v.category).sum ≤ 8) (hdg : decode cc pc = .ok (.invokestatic index, 3)) (hf : cells + mc ≤ R.cells ∧ slots + ms ≤ R.slots)
    (kk : ∀ (r : Int64) (u1 : cp_M) (H1 : Heap) (locs1 : List Loc), post r u1 → cp_I D wr A H0 H1 locs1 → W p l e R s m args below meth c H1 locs1 (cells + mc) (slots + ms) Q (F0 m (pc + 3) ls (.long r :: rest))) : W p l e R s m args below meth c H locs cells slots Q (F0 m pc ls st0) :=
  cp_cSl (wc := fun _ => []) (u := fun _ _ => 0) (wr := wr) (tc := []) S hM cw (hK.sub [] rfl) hI hA hn hsz hst hr hdg hf kk
theorem cp_cSv {post : cp_M → Prop} (S : CallFix p m c cc nL s args Ts own) (hM : ∀ sz, Met l y wsy rm (va_Pc As (cp_pre D tc (wc u) sz)) (va_Qv post (cp_at D tc (va_A (wc u) sz) wc) (va_A (wc u) sz)) mc ms (va_A (wc u) sz)) (cw : CallB R s args own index y bytes maxL ret wsy rm mc ms n ∧ (Cond.static y).before args s = true) (hK : va_K D vwCl tc s) (hI : cp_I D (wc u ++ wr) A H0 H locs) (hA : ∀ q, H0.size ≤ q → A q) (hn : As.length = n) (hsz : ls.size = nL) (hst : st0 = As.reverse ++ rest) (hr : (rest.map fun v => v.category).sum ≤ 8) (hdg : decode cc pc = .ok (.invokestatic index, 3)) (hf : cells + mc ≤ R.cells ∧ slots + ms ≤ R.slots)
    (kk : ∀ (u1 : cp_M) (H1 : Heap) (locs1 : List Loc), post u1 → cp_I D (wc u1 ++ wr) A H0 H1 locs1 → W p l e R s m args below meth c H1 locs1 (cells + mc) (slots + ms) Q (F0 m (pc + 3) ls rest)) : W p l e R s m args below meth c H locs cells slots Q (F0 m pc ls st0) := by
  refine va_callv (va_runS (g := F0 m pc ls st0) (As := As) (rest := rest) S (hM H.size) cw (cp_preS hK hI) rfl hn hsz hst (lv_room hr) hdg hf) hI.2.2 (fun q _ h => cp_fr hI hA q h) (cp_fr hI hA) (fun u1 t H1 locs1 ht hvm hp hB hz hk hS => ?_)
  exact kk u1 H1 locs1 hp (cp_behind hI hA (ht ▸ hB.1) hB.2.2 hk hS)
/-- a static method that looks at no cell -/
theorem cp_cSv0 {post : cp_M → Prop} (S : CallFix p m c cc nL s args Ts own) (hM : ∀ sz, Met l y wsy rm (va_Pc As (cp_pre D [] [] sz)) (va_Qv post (cp_at D [] (va_A [] sz) (fun _ => [])) (va_A [] sz)) mc ms (va_A [] sz)) (cw : CallB R s args own index y bytes maxL ret wsy rm mc ms n ∧ (Cond.static y).before args s = true) (hK : va_K D vwCl tc s) (hI : cp_I D wr A H0 H locs) (hA : ∀ q, H0.size ≤ q → A q) (hn : As.length = n) (hsz : ls.size = nL) (hst : st0 = As.reverse ++ rest) (hr : (rest.map fun v => v.category).sum ≤ 8) (hdg : decode cc pc = .ok (.invokestatic index, 3)) (hf : cells + mc ≤ R.cells ∧ slots + ms ≤ R.slots)
    (kk : ∀ (u1 : cp_M) (H1 : Heap) (locs1 : List Loc), post u1 → cp_I D wr A H0 H1 locs1 → W p l e R s m args below meth c H1 locs1 (cells + mc) (slots + ms) Q (F0 m (pc + 3) ls rest)) : W p l e R s m args below meth c H locs cells slots Q (F0 m pc ls st0) :=
  cp_cSv (wc := fun _ => []) (u := fun _ _ => 0) (wr := wr) (tc := []) S hM cw (hK.sub [] rfl) hI hA hn hsz hst hr hdg hf kk
end CPC
end CPS
end
section
/-! What the methods answer, in words of a memory. -/
def cp_bw (x lo hi : Int32) : Prop := lo ≤ x ∧ x ≤ hi
def cp_inS (el : Int32) (set : Int64) : Prop := (set >>> (el.toInt64 &&& 63)) &&& 1 = 1
def cp_year (d : Int32) : Int32 := d / 365
def cp_season (d : Int32) : Int32 := (d - d / 365 * 365) / 92
/-- a count among the whole numbers -/
def cp_n (u : cp_M) (i : Nat) : Nat := (u 14 i).toNatClampNeg
def cp_cn (u : cp_M) (i N : Nat) : Prop := u 14 i = nI (cp_n u i) ∧ cp_n u i ≤ N ∧ N ≤ 64
theorem cp_cn_of {u : cp_M} {i N n : Nat} (h : u 14 i = nI n) (hn : n ≤ N) (hN : N ≤ 64) : cp_cn u i N := by
  have h2 : cp_n u i = n := by unfold cp_n; rw [h]; exact nI_clamp (by omega)
  exact ⟨by rw [h2]; exact h, by omega, hN⟩
theorem cp_in {u : cp_M} {i N k : Nat} (h : cp_cn u i N) (hk : k ≤ N) (c : ¬ u 14 i ≤ nI k) : k < cp_n u i := by
  obtain ⟨h1, h2, h3⟩ := h
  rw [h1, nI_leI (by omega) (by omega)] at c
  omega
theorem cp_ex {u : cp_M} {i N k : Nat} (h : cp_cn u i N) (hk : k ≤ cp_n u i) (c : u 14 i ≤ nI k) : k = cp_n u i := by
  obtain ⟨h1, h2, h3⟩ := h
  rw [h1, nI_leI (by omega) (by omega)] at c
  omega
def cp_may (u : cp_M) (x y z : Int32) : Prop := ∃ r, r < cp_n u 2 ∧ u 7 r = x ∧ u 8 r = y ∧ cp_bw z (u 9 r) (u 10 r)
def cp_hasS (u : cp_M) (c z : Int32) : Prop := ∃ k, k < cp_n u 3 ∧ u 11 k = c ∧ u 12 k = z
def cp_near (a b : Int32) : Prop := (if 0 ≤ a - b then a - b else 0 - (a - b)) < 28
def cp_rst (u : cp_M) (c x z : Int32) : Prop := ∀ k, k < cp_n u 3 → ¬ (u 11 k = c ∧ u 13 k = x ∧ cp_near (u 12 k) z)
noncomputable def cp_cnt (p : Nat → Prop) : Nat → Nat
  | 0 => 0
  | n + 1 => cp_cnt p n + @ite Nat (p n) (Classical.propDecidable _) 1 0
theorem cp_cnt_t {p : Nat → Prop} {n : Nat} (h : p n) : cp_cnt p (n + 1) = cp_cnt p n + 1 := by
  show _ + @ite Nat (p n) (Classical.propDecidable _) 1 0 = _
  rw [@if_pos _ (Classical.propDecidable _) h]
theorem cp_cnt_f {p : Nat → Prop} {n : Nat} (h : ¬ p n) : cp_cnt p (n + 1) = cp_cnt p n := by
  show _ + @ite Nat (p n) (Classical.propDecidable _) 1 0 = _
  rw [@if_neg _ (Classical.propDecidable _) h]; rfl
theorem cp_cnt_le (p : Nat → Prop) : ∀ n, cp_cnt p n ≤ n
  | 0 => Nat.le_refl 0
  | n + 1 => by
    by_cases h : p n
    · rw [cp_cnt_t h]; have := cp_cnt_le p n; omega
    · rw [cp_cnt_f h]; have := cp_cnt_le p n; omega
theorem cp_cnt_c {p q : Nat → Prop} : ∀ {n : Nat}, (∀ k, k < n → (p k ↔ q k)) → cp_cnt p n = cp_cnt q n
  | 0, _ => rfl
  | n + 1, h => by
    have ih := cp_cnt_c (n := n) (fun k hk => h k (by omega))
    by_cases hq : q n
    · rw [cp_cnt_t hq, cp_cnt_t ((h n (by omega)).mpr hq), ih]
    · rw [cp_cnt_f hq, cp_cnt_f (fun z => hq ((h n (by omega)).mp z)), ih]
theorem cp_no_s {p : Nat → Prop} {k : Nat} (h : ∀ r, r < k → ¬ p r) (hk : ¬ p k) : ∀ r, r < k + 1 → ¬ p r := fun r hr => by
  rcases Nat.lt_or_ge r k with q | q
  · exact h r q
  · obtain rfl : r = k := by omega
    exact hk
noncomputable def cp_with (u : cp_M) (x : Int32) : Nat := cp_cnt (fun k => u 13 k = x) (cp_n u 3)
def cp_suit (u : cp_M) (c : Int32) (g : Nat) (z : Int32) : Prop := cp_inS c (u 5 g).toInt64 ∧ cp_inS (cp_season z) (u 1 g).toInt64 ∧ cp_may u (nI g) 0 z ∧ cp_rst u c (nI g) z
/-- the best: of those with p, the one with the least f, of several the lowest -/
noncomputable def cp_bst (p : Nat → Prop) (f : Nat → Nat) : Nat → Option Nat
  | 0 => none
  | n + 1 => @ite (Option Nat) (p n ∧ ∀ b, cp_bst p f n = some b → f n < f b) (Classical.propDecidable _) (some n) (cp_bst p f n)
theorem cp_bst_t {p : Nat → Prop} {f : Nat → Nat} {n : Nat} (h : p n ∧ ∀ b, cp_bst p f n = some b → f n < f b) : cp_bst p f (n + 1) = some n := by
  show @ite (Option Nat) _ (Classical.propDecidable _) _ _ = _
  rw [@if_pos _ (Classical.propDecidable _) h]
theorem cp_bst_f {p : Nat → Prop} {f : Nat → Nat} {n : Nat} (h : ¬ (p n ∧ ∀ b, cp_bst p f n = some b → f n < f b)) : cp_bst p f (n + 1) = cp_bst p f n := by
  show @ite (Option Nat) _ (Classical.propDecidable _) _ _ = _
  rw [@if_neg _ (Classical.propDecidable _) h]
theorem cp_bst_lt {p : Nat → Prop} {f : Nat → Nat} : ∀ {n b : Nat}, cp_bst p f n = some b → b < n
  | 0, b, h => by cases h
  | n + 1, b, h => by
    by_cases q : p n ∧ ∀ b, cp_bst p f n = some b → f n < f b
    · rw [cp_bst_t q] at h; cases h; omega
    · rw [cp_bst_f q] at h; have := cp_bst_lt h; omega
/-- a hymn's number, or NONE -/
def cp_o : Option Nat → Int32
  | none => -1
  | some b => nI b
noncomputable def cp_best (u : cp_M) (c z : Int32) : Option Nat := cp_bst (fun g => cp_suit u c g z) (fun g => cp_with u (nI g)) (cp_n u 1)
/-- service s planned -/
noncomputable def cp_plan0 (u : cp_M) (s : Nat) : cp_M := cp_up u 13 (upd (u 13) s (-1))
noncomputable def cp_plan (u : cp_M) (s : Nat) : cp_M := cp_up (cp_plan0 u s) 13 (upd (cp_plan0 u s 13) s (cp_o (cp_best (cp_plan0 u s) (u 11 s) (u 12 s))))
def cp_lost (u : cp_M) (k : Nat) : Prop := u 14 0 ≤ u 12 k ∧ u 13 k ≠ -1 ∧ ¬ cp_may u (u 13 k) 0 (u 12 k)
def cp_held (u : cp_M) (k : Nat) (y : Int32) : Prop := u 12 k ≤ u 14 0 ∧ cp_year (u 12 k) = y
noncomputable def cp_times (u : cp_M) (x y : Int32) : Nat := cp_cnt (fun k => cp_held u k y ∧ u 13 k = x) (cp_n u 3)
theorem cp_upd_s (f : Nat → Int32) (j : Nat) (x : Int32) : upd f j x j = x := by simp [upd]
theorem cp_upd_n (f : Nat → Int32) {j k : Nat} (h : k ≠ j) (x : Int32) : upd f j x k = f k := by simp [upd, h]
theorem cp_ne_m1 {n : Nat} (h : n < 64) : nI n ≠ -1 := by
  intro q
  have := congrArg Int32.toInt q
  rw [nI_toInt (by omega)] at this
  have h2 : (-1 : Int32).toInt = -1 := by decide
  omega
theorem cp_lcmp {x y : Int64} (h : lg_cmp x y = 0) : x = y := by
  unfold lg_cmp at h
  split at h
  · exact absurd h (by decide)
  · split at h
    · assumption
    · exact absurd h (by decide)
theorem cp_lcmp0 {x y : Int64} (h : x = y) : lg_cmp x y = 0 := by
  subst h
  unfold lg_cmp
  rw [if_neg (Int64.lt_irrefl), if_pos rfl]
theorem cp_with_le {u : cp_M} {N : Nat} (h : cp_cn u 3 N) (x : Int32) : cp_with u x ≤ 64 := Nat.le_trans (cp_cnt_le _ _) (Nat.le_trans h.2.1 h.2.2)
theorem cp_cn_up {u : cp_M} {i N k : Nat} {f : Nat → Int32} (h : cp_cn u i N) (hk : 14 ≠ k) : cp_cn (cp_up u k f) i N := by
  unfold cp_cn cp_n
  rw [cp_up_n u hk]
  exact h
theorem cp_up_id (u : cp_M) (k : Nat) : cp_up u k (u k) = u := by
  funext a
  unfold cp_up
  split
  · rename_i h; rw [h]
  · rfl
theorem cp_up_up (u : cp_M) (k : Nat) (f g : Nat → Int32) : cp_up (cp_up u k f) k g = cp_up u k g := by
  funext a
  unfold cp_up
  split <;> rfl
/-- the services before n that lost their right, silenced -/
noncomputable def cp_sil (u : cp_M) (n : Nat) : cp_M := cp_up u 13 (fun j => @ite Int32 (j < n ∧ cp_lost u j) (Classical.propDecidable _) (-1) (u 13 j))
theorem cp_sil_r (u : cp_M) (n : Nat) {k : Nat} (h : k ≠ 13) : cp_sil u n k = u k := cp_up_n u h _
theorem cp_sil_13 (u : cp_M) (n j : Nat) : cp_sil u n 13 j = @ite Int32 (j < n ∧ cp_lost u j) (Classical.propDecidable _) (-1) (u 13 j) := by
  unfold cp_sil
  rw [cp_up_s]
theorem cp_sil_ge (u : cp_M) {n j : Nat} (h : n ≤ j) : cp_sil u n 13 j = u 13 j := by
  rw [cp_sil_13, @if_neg _ (Classical.propDecidable _) (fun q => by omega)]
theorem cp_sil_0 (u : cp_M) : cp_sil u 0 = u := by
  have h : (fun j => @ite Int32 (j < 0 ∧ cp_lost u j) (Classical.propDecidable _) (-1) (u 13 j)) = u 13 := by
    funext j
    rw [@if_neg _ (Classical.propDecidable _) (fun q => absurd q.1 (Nat.not_lt_zero j))]
  unfold cp_sil
  rw [h, cp_up_id]
theorem cp_may_c {u v : cp_M} (h2 : v 14 2 = u 14 2) (h7 : v 7 = u 7) (h8 : v 8 = u 8) (h9 : v 9 = u 9) (h10 : v 10 = u 10) (x y z : Int32) : cp_may v x y z = cp_may u x y z := by
  unfold cp_may cp_n
  rw [h2, h7, h8, h9, h10]
theorem cp_lost_sil (u : cp_M) (k : Nat) : cp_lost (cp_sil u k) k = cp_lost u k := by
  unfold cp_lost
  rw [cp_sil_ge u (Nat.le_refl k), cp_may_c (u := u) (by rw [cp_sil_r u k (by decide)]) (cp_sil_r u k (by decide)) (cp_sil_r u k (by decide)) (cp_sil_r u k (by decide)) (cp_sil_r u k (by decide)), cp_sil_r u k (by decide), cp_sil_r u k (by decide)]
theorem cp_sil_t (u : cp_M) {k : Nat} (h : cp_lost u k) : cp_up (cp_sil u k) 13 (upd (cp_sil u k 13) k (-1)) = cp_sil u (k + 1) := by
  have e : upd (cp_sil u k 13) k (-1) = fun j => @ite Int32 (j < k + 1 ∧ cp_lost u j) (Classical.propDecidable _) (-1) (u 13 j) := by
    funext j
    rcases Nat.lt_trichotomy j k with q | q | q
    · rw [cp_upd_n _ (by omega), cp_sil_13]
      by_cases hj : cp_lost u j
      · rw [@if_pos _ (Classical.propDecidable _) ⟨q, hj⟩, @if_pos _ (Classical.propDecidable _) ⟨by omega, hj⟩]
      · rw [@if_neg _ (Classical.propDecidable _) (fun z => hj z.2), @if_neg _ (Classical.propDecidable _) (fun z => hj z.2)]
    · subst q
      rw [cp_upd_s, @if_pos _ (Classical.propDecidable _) ⟨by omega, h⟩]
    · rw [cp_upd_n _ (by omega), cp_sil_ge u (by omega), @if_neg _ (Classical.propDecidable _) (fun z => by omega)]
  rw [e]
  unfold cp_sil
  exact cp_up_up _ _ _ _
theorem cp_sil_f (u : cp_M) {k : Nat} (h : ¬ cp_lost u k) : cp_sil u (k + 1) = cp_sil u k := by
  unfold cp_sil
  congr 1
  funext j
  by_cases hj : j < k ∧ cp_lost u j
  · rw [@if_pos _ (Classical.propDecidable _) hj, @if_pos _ (Classical.propDecidable _) ⟨by omega, hj.2⟩]
  · rw [@if_neg _ (Classical.propDecidable _) hj, @if_neg _ (Classical.propDecidable _)]
    rintro ⟨q1, q2⟩
    rcases Nat.lt_or_ge j k with q | q
    · exact hj ⟨q, q2⟩
    · obtain rfl : j = k := by omega
      exact h q2
/-- the silenced services as a set -/
noncomputable def cp_msk (u : cp_M) : Nat → Int64
  | 0 => 0
  | n + 1 => @ite Int64 (cp_lost u n) (Classical.propDecidable _) (cp_msk u n ||| (1 <<< ((nI n).toInt64 &&& 63))) (cp_msk u n)
theorem cp_msk_t {u : cp_M} {n : Nat} (h : cp_lost u n) : cp_msk u (n + 1) = cp_msk u n ||| (1 <<< ((nI n).toInt64 &&& 63)) := by
  show @ite Int64 _ (Classical.propDecidable _) _ _ = _
  rw [@if_pos _ (Classical.propDecidable _) h]
theorem cp_msk_f {u : cp_M} {n : Nat} (h : ¬ cp_lost u n) : cp_msk u (n + 1) = cp_msk u n := by
  show @ite Int64 _ (Classical.propDecidable _) _ _ = _
  rw [@if_neg _ (Classical.propDecidable _) h]
/-- the services with q, each planned -/
noncomputable def cp_pe (q : Nat → Prop) (u : cp_M) : Nat → cp_M
  | 0 => u
  | n + 1 => @ite cp_M (q n) (Classical.propDecidable _) (cp_plan (cp_pe q u n) n) (cp_pe q u n)
theorem cp_pe_t {q : Nat → Prop} {u : cp_M} {n : Nat} (h : q n) : cp_pe q u (n + 1) = cp_plan (cp_pe q u n) n := by
  show @ite cp_M _ (Classical.propDecidable _) _ _ = _
  rw [@if_pos _ (Classical.propDecidable _) h]
theorem cp_pe_f {q : Nat → Prop} {u : cp_M} {n : Nat} (h : ¬ q n) : cp_pe q u (n + 1) = cp_pe q u n := by
  show @ite cp_M _ (Classical.propDecidable _) _ _ = _
  rw [@if_neg _ (Classical.propDecidable _) h]
theorem cp_plan_r (u : cp_M) (s : Nat) {k : Nat} (h : k ≠ 13) : cp_plan u s k = u k := by
  unfold cp_plan cp_plan0
  rw [cp_up_n _ h, cp_up_n _ h]
theorem cp_pe_r (q : Nat → Prop) (u : cp_M) {k : Nat} (h : k ≠ 13) : ∀ n, cp_pe q u n k = u k
  | 0 => rfl
  | n + 1 => by
    by_cases hq : q n
    · rw [cp_pe_t hq, cp_plan_r _ _ h, cp_pe_r q u h n]
    · rw [cp_pe_f hq, cp_pe_r q u h n]
theorem cp_cn_c {u v : cp_M} {i N : Nat} (h : cp_cn u i N) (e : v 14 = u 14) : cp_cn v i N := by
  unfold cp_cn cp_n
  rw [e]
  exact h
theorem cp_n_c {u v : cp_M} {i : Nat} (e : v 14 = u 14) : cp_n v i = cp_n u i := by
  unfold cp_n
  rw [e]
end
section
/-! Methods that throw: what they need of the start, their walk's start, a call of needX that throws. -/
def R_iob : String := "java/lang/IndexOutOfBoundsException"
def R_iae : String := "java/lang/IllegalArgumentException"
def R_ise : String := "java/lang/IllegalStateException"
/-- each exception is of its own class and of no other of the three -/
def cp_K3 (U : State) : Prop := va_Nw (.castable R_iob R_iob) U ∧ va_Nw (.castable R_iae R_iae) U ∧ va_Nw (.castable R_ise R_ise) U ∧ va_Nc R_iae R_iob U ∧ va_Nc R_ise R_iob U ∧ va_Nc R_ise R_iae U ∧ va_Nw (.declares (Bundle.init0 "java/lang/RuntimeException")) U ∧ va_Nw (.declares (Bundle.init0 "java/lang/Exception")) U ∧ va_Nw (.declares (Bundle.init0 Bundle.tN)) U
theorem cp_K3.warm {s U : State} (hW : s.WarmedH U.vm) (h : cp_K3 s) : cp_K3 U := ⟨va_Nw.warmC hW h.1, va_Nw.warmC hW h.2.1, va_Nw.warmC hW h.2.2.1, va_Nc.moved hW.alike h.2.2.2.1, va_Nc.moved hW.alike h.2.2.2.2.1, va_Nc.moved hW.alike h.2.2.2.2.2.1, va_Nw.warmD hW h.2.2.2.2.2.2.1, va_Nw.warmD hW h.2.2.2.2.2.2.2.1, va_Nw.warmD hW h.2.2.2.2.2.2.2.2⟩
def cp_Z (A : Nat → Prop) (U : State) (H : Heap) : Prop := vx_Zq Bundle.tN "UNASSIGNED_STACK" Bundle.steD A U H ∧ vx_Zq Bundle.tN "SUPPRESSED_SENTINEL" Bundle.listD A U H ∧ cp_K3 U
theorem cp_K3.same {s U : State} (h : cp_K3 s) (hA : s.vm.Alike U.vm) (e : s.vm = U.vm) : cp_K3 U := ⟨va_Nw.same rfl e h.1, va_Nw.same rfl e h.2.1, va_Nw.same rfl e h.2.2.1, va_Nc.moved hA h.2.2.2.1, va_Nc.moved hA h.2.2.2.2.1, va_Nc.moved hA h.2.2.2.2.2.1, va_Nw.same rfl e h.2.2.2.2.2.2.1, va_Nw.same rfl e h.2.2.2.2.2.2.2.1, va_Nw.same rfl e h.2.2.2.2.2.2.2.2⟩
def cp_preZ (D : va_G) (tys : List (ClassId × FieldType)) (w : va_W) (sz : Nat) : State → Prop := fun U => cp_pre D tys w sz U ∧ cp_Z (va_A w sz) U U.heap
def cp_XC (D : va_G) (tys : List (ClassId × FieldType)) (wf : cp_M → va_W) (u : cp_M) (xe : String → Prop) (A : Nat → Prop) : String → State → State → Prop := vx_X (fun u1 : cp_M => u1 = u) (fun E u1 t => xe E ∧ cp_at D tys A wf u1 t) A
theorem cp_blindZ (D : va_G) (tys : List (ClassId × FieldType)) (w : va_W) (sz : Nat) (As : List Value) : FrameBlind (va_Pc As (cp_preZ D tys w sz)) := fun a U g mk q => by
  obtain ⟨q0, q1, q2, q3, q4⟩ := q
  have h := cp_blind D tys w sz As a U g mk ⟨q0, q1⟩
  exact ⟨q0, h.2, vx_Zq.moved (Vm.Alike.refl U.vm) q2, vx_Zq.moved (Vm.Alike.refl U.vm) q3, q4.same (Vm.Alike.refl U.vm) rfl⟩
theorem cp_MetX {l : Launch} {y : MethodName} {ws ws' : List Cond} {rm : Room} {cc : ByteArray} {maxL mc ms : Nat} {ret : Option FieldType} {As : List Value} {D : va_G} {tys : List (ClassId × FieldType)} {w0 : va_W} {Qk : (Nat → Prop) → Array Value → State → Outcome → State → Prop} {XCk : (Nat → Prop) → String → State → State → Prop}
    (hy : plainName y.cls = true) (hw : ws = Cond.code y cc maxL ret :: ws') (hnL : (lg_sl As).length ≤ maxL)
    (body : ∀ (p : Program) (e : Env) (s : State) (m : MethodId) (args : Array Value) (below : List Frame) (meth : Method) (c : Code) (A : Nat → Prop), cp_C p s m args meth c cc maxL ws ret y.cls → (∀ q, s.heap.size ≤ q → A q) → va_K D vwCl tys s → cp_I D w0 A s.heap s.heap [] → cp_Z A s s.heap → (∀ x ∈ c.exceptionTable.toList, False) →
      ∀ ls, lv_has ls maxL (lv_args 0 As) → W p l e rm s m args below meth c s.heap [] 0 0 (vx_MQ below (Qk A) (XCk A) args s mc ms A) (F0 m 0 ls [])) (sz : Nat) : vx_Met l y ws rm (va_Pc As (cp_preZ D tys w0 sz)) (Qk (va_A w0 sz)) (XCk (va_A w0 sz)) mc ms (va_A w0 sz) := by
  refine vx_ofW (cc := cc) (maxL := maxL) (ret := ret) hy hw ?_
  intro p e s m args below meth c s₁ B hml hno hv
  obtain ⟨rfl, ⟨hsz, hP, hK, hD0⟩, hZ⟩ := hv
  subst hsz
  have hts := atoms_spec (ws := ws) B.pre
  have hl := lv_entry As (n := maxL) hnL
  rw [lg_entry_eq]
  exact body p e s m _ below meth c (va_A w0 s.heap.size) ⟨B.exec, B.bytes, hml, findClass_of_methodNamed B.named, hts, B.returns, B.notSynchronized⟩ (fun q h => Or.inr h) hK ⟨hP, hD0.self, va_S.rf⟩ hZ hno _ hl
theorem cp_Zkept {A B : Nat → Prop} {s U : State} {H : Heap} {locs : List Loc} (hZ : cp_Z A s s.heap) (hS : va_S A s.heap H locs) (hB : ∀ q, B q → A q) (hU : U.heap = H) (hW : s.WarmedH U.vm) : cp_Z B U U.heap := by
  rw [hU]
  exact ⟨vx_Zq.moved hW.alike ((hZ.1.kept hS.2.1).narrow hB), vx_Zq.moved hW.alike ((hZ.2.1.kept hS.2.1).narrow hB), hZ.2.2.warm hW⟩
section CPX
variable {p : Program} {l : Launch} {e : Env} {R : Room} {s : State} {m : MethodId} {args : Array Value} {below : List Frame} {meth : Method} {c : Code} {H : Heap} {locs : List Loc} {cells slots : Nat} {Q : State → Prop}
variable {cc : ByteArray} {pc : Nat} {ls : Array Slot} {rest : List Value} {D : va_G} {A : Nat → Prop} {tys : List (ClassId × FieldType)} {wf : cp_M → va_W} {u u0 : cp_M}
variable {y : MethodName} {bytes : ByteArray} {maxL nL mc ms n index ci : Nat} {ret : Option FieldType} {wsy : List Cond} {rm : Room} {Ts : List Cond} {own C : String} {b : Nat} {As st0 : List Value}
theorem cp_nilP {D : va_G} {H : Heap} : va_P D vwCl [] H := fun k q h => by simp at h
theorem cp_nilD {A : Nat → Prop} : va_D A [] := ⟨fun i j p q h => by simp at h, fun k q h => by simp at h⟩
/-- a call of needX that throws, out of the method -/
theorem cp_thr {E0 : String} {xe : String → Prop} {Qc : Array Value → State → Outcome → State → Prop} (S : CallFix p m c cc nL s args Ts own) (hM : ∀ sz, vx_Met l y wsy rm (va_Pc As (cp_preZ D [] [] sz)) (va_Qv (fun _ : cp_M => False) (cp_at D [] (va_A [] sz) (fun _ => [])) (va_A [] sz)) (vx_X (fun _ : cp_M => True) (fun E _ _ => E = E0) (va_A [] sz)) mc ms (va_A [] sz))
    (cw : CallB R s args own index y bytes maxL ret wsy rm mc ms n ∧ (Cond.static y).before args s = true) (hK : va_K D vwCl tys s) (hI : cp_I D (wf u) A s.heap H locs) (hA : ∀ q, s.heap.size ≤ q → A q) (hZ : cp_Z A s s.heap) (hno : ∀ x ∈ c.exceptionTable.toList, False) (hlocks : meth.locks = false)
    (hn : As.length = n) (hsz : ls.size = nL) (hst : st0 = As.reverse ++ rest) (hr : (rest.map fun v => v.category).sum ≤ 8) (hdg : decode cc pc = .ok (.invokestatic index, 3)) (hf : cells + mc ≤ R.cells ∧ slots + ms ≤ R.slots) (hu : u = u0) (hx : xe E0) :
    W p l e R s m args below meth c H locs cells slots (vx_MQ below Qc (cp_XC D tys wf u0 xe A) args s (cells + mc) (slots + ms) A) (F0 m pc ls st0) := by
  have hI0 : cp_I D ([] ++ wf u) A s.heap H locs := hI
  have hfr := cp_fr (wc := []) hI0 hA
  refine vx_callv (vx_runS (g := F0 m pc ls st0) (As := As) (rest := rest) S (hM H.size) cw ⟨cp_blindZ _ _ _ _ _, fun U hU hW => ⟨rfl, ⟨by rw [hU], cp_nilP, va_K.moved hW.alike (hK.sub [] rfl), cp_nilD⟩, cp_Zkept hZ hI.2.2 hfr hU hW⟩⟩ rfl hn hsz hst (lv_room hr) hdg hf) hI.2.2 (fun q _ h => hfr q h) hfr (fun q _ h => hfr q h) (fun E ce q9 u1 t H1 locs1 ht hvm _ hE hz hk hS h1 h2 h3 => ?_) (fun u1 t H1 locs1 _ _ hF => hF.elim)
  obtain rfl := hE
  have h9 := cp_behind (wc := []) (wr := wf u) (w1 := []) hI0 hA cp_nilP cp_nilD hk hS
  exact vx_out (fun x h => (hno x h).elim) hlocks h1 h2 h3 (fun t2 ht2 hvm2 => ⟨u, hu, ⟨hx, by rw [ht2]; exact h9.1, va_K.moved hvm2 hK, h9.2.1⟩, hS.F ht2⟩) hS.2.2 (Nat.le_refl _) (Nat.le_refl _)
end CPX
set_option maxHeartbeats 4000000 in
set_option maxRecDepth 100000 in
theorem c_X0_needIndex_ok (l : Launch) (D : va_G) (sz : Nat) : Met l yX0_needIndex wsX0_needIndex ({ frames := 0, cells := 0, slots := 0, locals := 0 } : Room) (va_Pc [.int 1] (cp_pre D [] [] sz)) (va_Qv (fun _ : cp_M => True) (cp_at D [] (va_A [] sz) (fun _ => [])) (va_A [] sz)) 0 0 (va_A [] sz) := by
  refine cp_MetI (Qk := fun A => va_Qv (fun _ : cp_M => True) (cp_at D [] A (fun _ => [])) A) (by decide) rfl (Nat.le_of_ble_eq_true rfl) ?_ sz
  intro p e s m args below meth c A hC hA hK hI ls hl
  obtain ⟨hx, hb, hml, hown, hts, hr, hlocks⟩ := hC
  have hl : lv_has ls 1 [(0, .int 1)] := hl
  refine lv_iload_n hx hb dX0_needIndex_0 rfl (lv_at hl 0 rfl) ?_
  refine lv_if_ne (tgt := 12) hx hb dX0_needIndex_1 (by decide) (fun _ => ?_) (fun c => absurd c (by decide))
  exact cp_retv (u := fun _ _ => 0) hx hb hr hlocks hK hI trivial dX0_needIndex_12
set_option maxHeartbeats 4000000 in
set_option maxRecDepth 100000 in
theorem c_X0_needIndex_thr (l : Launch) (hst : l.stackTraces = false) (D : va_G) (sz : Nat) : vx_Met l yX0_needIndex wsX0_needIndex ({ frames := 6, cells := 1, slots := 6, locals := 81 } : Room) (va_Pc [.int 0] (cp_preZ D [] [] sz)) (va_Qv (fun _ : cp_M => False) (cp_at D [] (va_A [] sz) (fun _ => [])) (va_A [] sz)) (vx_X (fun _ : cp_M => True) (fun E _ _ => E = "java/lang/IndexOutOfBoundsException") (va_A [] sz)) 1 6 (va_A [] sz) := by
  refine cp_MetX (Qk := fun A => va_Qv (fun _ : cp_M => False) (cp_at D [] A (fun _ => [])) A) (XCk := fun A => vx_X (fun _ : cp_M => True) (fun E _ _ => E = "java/lang/IndexOutOfBoundsException") A) (by decide) rfl (Nat.le_of_ble_eq_true rfl) ?_ sz
  intro p e s m args below meth c A hC hA hK hI hZ hno ls hl
  obtain ⟨hx, hb, hml, hown, hts, hr, hlocks⟩ := hC
  have hown : s.vm.findClass RX0 = some m.cls := hown
  have hl : lv_has ls 1 [(0, .int 0)] := hl
  refine lv_iload_n hx hb dX0_needIndex_0 rfl (lv_at hl 0 rfl) ?_
  refine lv_if_ne (tgt := 12) hx hb dX0_needIndex_1 (by decide) (fun c => absurd rfl c) (fun _ => ?_)
  exact vx_throw0 hx hb hst (own := RX0) (cls := "java/lang/IndexOutOfBoundsException") (names := ["java/lang/RuntimeException", "java/lang/Exception"]) (ik := 174) (ic := 176) (A := A) hown (by decide +kernel) (by decide +kernel) (hts _ (by decide +kernel)) (hts _ (by decide +kernel)) (vx_hat (B := [.castable "java/lang/IndexOutOfBoundsException" "java/lang/IndexOutOfBoundsException", .declares (Bundle.init0 "java/lang/RuntimeException"), .declares (Bundle.init0 "java/lang/Exception"), .declares (Bundle.init0 Bundle.tN)]) (fun w h => hts w (List.mem_cons_of_mem _ (List.mem_append_right _ h))) (by decide +kernel) (vx_c (va_Nw.use rfl hZ.2.2.1) (vx_c (va_Nw.use rfl hZ.2.2.2.2.2.2.2.2.1) (vx_c (va_Nw.use rfl hZ.2.2.2.2.2.2.2.2.2.1) (vx_c (va_Nw.use rfl hZ.2.2.2.2.2.2.2.2.2.2) vx_n))))) (by decide +kernel) hZ.1 hZ.2.1 hI.2.2 (hl.1.trans hml.symm) dX0_needIndex_4 dX0_needIndex_7 dX0_needIndex_8 dX0_needIndex_11 (fun x h => (hno x h).elim) (by decide) (by decide) (by decide) (by decide) hlocks (fun t hvm hsz hk => ⟨fun _ _ => 0, trivial, rfl, hsz, fun q hq _ => hk q hq⟩) (fun z h => nomatch h) (by decide) (by decide)
set_option maxHeartbeats 4000000 in
set_option maxRecDepth 100000 in
theorem c_X0_needArgument_ok (l : Launch) (D : va_G) (sz : Nat) : Met l yX0_needArgument wsX0_needArgument ({ frames := 0, cells := 0, slots := 0, locals := 0 } : Room) (va_Pc [.int 1] (cp_pre D [] [] sz)) (va_Qv (fun _ : cp_M => True) (cp_at D [] (va_A [] sz) (fun _ => [])) (va_A [] sz)) 0 0 (va_A [] sz) := by
  refine cp_MetI (Qk := fun A => va_Qv (fun _ : cp_M => True) (cp_at D [] A (fun _ => [])) A) (by decide) rfl (Nat.le_of_ble_eq_true rfl) ?_ sz
  intro p e s m args below meth c A hC hA hK hI ls hl
  obtain ⟨hx, hb, hml, hown, hts, hr, hlocks⟩ := hC
  have hl : lv_has ls 1 [(0, .int 1)] := hl
  refine lv_iload_n hx hb dX0_needArgument_0 rfl (lv_at hl 0 rfl) ?_
  refine lv_if_ne (tgt := 12) hx hb dX0_needArgument_1 (by decide) (fun _ => ?_) (fun c => absurd c (by decide))
  exact cp_retv (u := fun _ _ => 0) hx hb hr hlocks hK hI trivial dX0_needArgument_12
set_option maxHeartbeats 4000000 in
set_option maxRecDepth 100000 in
theorem c_X0_needArgument_thr (l : Launch) (hst : l.stackTraces = false) (D : va_G) (sz : Nat) : vx_Met l yX0_needArgument wsX0_needArgument ({ frames := 6, cells := 1, slots := 6, locals := 81 } : Room) (va_Pc [.int 0] (cp_preZ D [] [] sz)) (va_Qv (fun _ : cp_M => False) (cp_at D [] (va_A [] sz) (fun _ => [])) (va_A [] sz)) (vx_X (fun _ : cp_M => True) (fun E _ _ => E = "java/lang/IllegalArgumentException") (va_A [] sz)) 1 6 (va_A [] sz) := by
  refine cp_MetX (Qk := fun A => va_Qv (fun _ : cp_M => False) (cp_at D [] A (fun _ => [])) A) (XCk := fun A => vx_X (fun _ : cp_M => True) (fun E _ _ => E = "java/lang/IllegalArgumentException") A) (by decide) rfl (Nat.le_of_ble_eq_true rfl) ?_ sz
  intro p e s m args below meth c A hC hA hK hI hZ hno ls hl
  obtain ⟨hx, hb, hml, hown, hts, hr, hlocks⟩ := hC
  have hown : s.vm.findClass RX0 = some m.cls := hown
  have hl : lv_has ls 1 [(0, .int 0)] := hl
  refine lv_iload_n hx hb dX0_needArgument_0 rfl (lv_at hl 0 rfl) ?_
  refine lv_if_ne (tgt := 12) hx hb dX0_needArgument_1 (by decide) (fun c => absurd rfl c) (fun _ => ?_)
  exact vx_throw0 hx hb hst (own := RX0) (cls := "java/lang/IllegalArgumentException") (names := ["java/lang/RuntimeException", "java/lang/Exception"]) (ik := 177) (ic := 179) (A := A) hown (by decide +kernel) (by decide +kernel) (hts _ (by decide +kernel)) (hts _ (by decide +kernel)) (vx_hat (B := [.castable "java/lang/IllegalArgumentException" "java/lang/IllegalArgumentException", .declares (Bundle.init0 "java/lang/RuntimeException"), .declares (Bundle.init0 "java/lang/Exception"), .declares (Bundle.init0 Bundle.tN)]) (fun w h => hts w (List.mem_cons_of_mem _ (List.mem_append_right _ h))) (by decide +kernel) (vx_c (va_Nw.use rfl hZ.2.2.2.1) (vx_c (va_Nw.use rfl hZ.2.2.2.2.2.2.2.2.1) (vx_c (va_Nw.use rfl hZ.2.2.2.2.2.2.2.2.2.1) (vx_c (va_Nw.use rfl hZ.2.2.2.2.2.2.2.2.2.2) vx_n))))) (by decide +kernel) hZ.1 hZ.2.1 hI.2.2 (hl.1.trans hml.symm) dX0_needArgument_4 dX0_needArgument_7 dX0_needArgument_8 dX0_needArgument_11 (fun x h => (hno x h).elim) (by decide) (by decide) (by decide) (by decide) hlocks (fun t hvm hsz hk => ⟨fun _ _ => 0, trivial, rfl, hsz, fun q hq _ => hk q hq⟩) (fun z h => nomatch h) (by decide) (by decide)
set_option maxHeartbeats 4000000 in
set_option maxRecDepth 100000 in
theorem c_X0_needState_ok (l : Launch) (D : va_G) (sz : Nat) : Met l yX0_needState wsX0_needState ({ frames := 0, cells := 0, slots := 0, locals := 0 } : Room) (va_Pc [.int 1] (cp_pre D [] [] sz)) (va_Qv (fun _ : cp_M => True) (cp_at D [] (va_A [] sz) (fun _ => [])) (va_A [] sz)) 0 0 (va_A [] sz) := by
  refine cp_MetI (Qk := fun A => va_Qv (fun _ : cp_M => True) (cp_at D [] A (fun _ => [])) A) (by decide) rfl (Nat.le_of_ble_eq_true rfl) ?_ sz
  intro p e s m args below meth c A hC hA hK hI ls hl
  obtain ⟨hx, hb, hml, hown, hts, hr, hlocks⟩ := hC
  have hl : lv_has ls 1 [(0, .int 1)] := hl
  refine lv_iload_n hx hb dX0_needState_0 rfl (lv_at hl 0 rfl) ?_
  refine lv_if_ne (tgt := 12) hx hb dX0_needState_1 (by decide) (fun _ => ?_) (fun c => absurd c (by decide))
  exact cp_retv (u := fun _ _ => 0) hx hb hr hlocks hK hI trivial dX0_needState_12
set_option maxHeartbeats 4000000 in
set_option maxRecDepth 100000 in
theorem c_X0_needState_thr (l : Launch) (hst : l.stackTraces = false) (D : va_G) (sz : Nat) : vx_Met l yX0_needState wsX0_needState ({ frames := 6, cells := 1, slots := 6, locals := 81 } : Room) (va_Pc [.int 0] (cp_preZ D [] [] sz)) (va_Qv (fun _ : cp_M => False) (cp_at D [] (va_A [] sz) (fun _ => [])) (va_A [] sz)) (vx_X (fun _ : cp_M => True) (fun E _ _ => E = "java/lang/IllegalStateException") (va_A [] sz)) 1 6 (va_A [] sz) := by
  refine cp_MetX (Qk := fun A => va_Qv (fun _ : cp_M => False) (cp_at D [] A (fun _ => [])) A) (XCk := fun A => vx_X (fun _ : cp_M => True) (fun E _ _ => E = "java/lang/IllegalStateException") A) (by decide) rfl (Nat.le_of_ble_eq_true rfl) ?_ sz
  intro p e s m args below meth c A hC hA hK hI hZ hno ls hl
  obtain ⟨hx, hb, hml, hown, hts, hr, hlocks⟩ := hC
  have hown : s.vm.findClass RX0 = some m.cls := hown
  have hl : lv_has ls 1 [(0, .int 0)] := hl
  refine lv_iload_n hx hb dX0_needState_0 rfl (lv_at hl 0 rfl) ?_
  refine lv_if_ne (tgt := 12) hx hb dX0_needState_1 (by decide) (fun c => absurd rfl c) (fun _ => ?_)
  exact vx_throw0 hx hb hst (own := RX0) (cls := "java/lang/IllegalStateException") (names := ["java/lang/RuntimeException", "java/lang/Exception"]) (ik := 180) (ic := 182) (A := A) hown (by decide +kernel) (by decide +kernel) (hts _ (by decide +kernel)) (hts _ (by decide +kernel)) (vx_hat (B := [.castable "java/lang/IllegalStateException" "java/lang/IllegalStateException", .declares (Bundle.init0 "java/lang/RuntimeException"), .declares (Bundle.init0 "java/lang/Exception"), .declares (Bundle.init0 Bundle.tN)]) (fun w h => hts w (List.mem_cons_of_mem _ (List.mem_append_right _ h))) (by decide +kernel) (vx_c (va_Nw.use rfl hZ.2.2.2.2.1) (vx_c (va_Nw.use rfl hZ.2.2.2.2.2.2.2.2.1) (vx_c (va_Nw.use rfl hZ.2.2.2.2.2.2.2.2.2.1) (vx_c (va_Nw.use rfl hZ.2.2.2.2.2.2.2.2.2.2) vx_n))))) (by decide +kernel) hZ.1 hZ.2.1 hI.2.2 (hl.1.trans hml.symm) dX0_needState_4 dX0_needState_7 dX0_needState_8 dX0_needState_11 (fun x h => (hno x h).elim) (by decide) (by decide) (by decide) (by decide) hlocks (fun t hvm hsz hk => ⟨fun _ _ => 0, trivial, rfl, hsz, fun q hq _ => hk q hq⟩) (fun z h => nomatch h) (by decide) (by decide)
end
section
set_option maxHeartbeats 4000000 in
set_option maxRecDepth 100000 in
theorem c_X0_isBetween (l : Launch)  (x : Int32) (lo : Int32) (hi : Int32)  : ∀ (D : va_G) (sz : Nat), Met l yX0_isBetween wsX0_isBetween ({ frames := 0, cells := 0, slots := 0, locals := 0 } : Room) (va_Pc [.int x, .int lo, .int hi] (cp_pre D [] [] sz)) (va_Qi (fun (r : Int32) (u1 : cp_M) => r = cp_b (cp_bw x lo hi)) (cp_at D [] (va_A [] sz) (fun _ => [])) (va_A [] sz)) 0 0 (va_A [] sz) := by
  intro D
  refine cp_MetI (Qk := fun A => va_Qi (fun (r : Int32) (u1 : cp_M) => r = cp_b (cp_bw x lo hi)) (cp_at D [] A (fun _ => [])) A) (by decide) rfl (Nat.le_of_ble_eq_true rfl) ?_
  intro p e s m args below meth c A hC hA hK hI ls hl
  obtain ⟨hx, hb, hml, hown, hts, hr, hlocks⟩ := hC
  have hown : s.vm.findClass RX0 = some m.cls := hown
  have hl : lv_has ls 3 [(0, .int x), (1, .int lo), (2, .int hi)] := hl
  refine lv_iload_n hx hb dX0_isBetween_0 rfl (lv_at hl 1 rfl) ?_
  refine lv_iload_n hx hb dX0_isBetween_1 rfl (lv_at hl 0 rfl) ?_
  refine lv_icmp_gt (tgt := 14) hx hb dX0_isBetween_2 (by decide) (fun c2 => ?_) (fun c2 => ?_)
  · refine lv_iconst (v := 0) hx hb dX0_isBetween_14 (by decide) ?_
    exact cp_retz (u := (fun _ _ => 0)) (v := 0) hx hb hr hlocks hK hI rfl (cp_bf (by first | exact fun h => absurd h.1 (Int32.not_le.mpr c2) | exact fun h => absurd h.2 (Int32.not_le.mpr c7))).symm dX0_isBetween_15
  · refine lv_iload_n hx hb dX0_isBetween_5 rfl (lv_at hl 0 rfl) ?_
    refine lv_iload_n hx hb dX0_isBetween_6 rfl (lv_at hl 2 rfl) ?_
    refine lv_icmp_gt (tgt := 14) hx hb dX0_isBetween_7 (by decide) (fun c7 => ?_) (fun c7 => ?_)
    · refine lv_iconst (v := 0) hx hb dX0_isBetween_14 (by decide) ?_
      exact cp_retz (u := (fun _ _ => 0)) (v := 0) hx hb hr hlocks hK hI rfl (cp_bf (by first | exact fun h => absurd h.1 (Int32.not_le.mpr c2) | exact fun h => absurd h.2 (Int32.not_le.mpr c7))).symm dX0_isBetween_15
    · refine lv_iconst (v := 1) hx hb dX0_isBetween_10 (by decide) ?_
      refine lv_goto (tgt := 15) hx hb dX0_isBetween_11 (by decide) ?_
      exact cp_retz (u := (fun _ _ => 0)) (v := 1) hx hb hr hlocks hK hI rfl (cp_bt ⟨Int32.not_lt.mp c2, Int32.not_lt.mp c7⟩).symm dX0_isBetween_15
set_option maxHeartbeats 4000000 in
set_option maxRecDepth 100000 in
theorem c_X0_isInSet (l : Launch)  (el : Int32) (set : Int64)  : ∀ (D : va_G) (sz : Nat), Met l yX0_isInSet wsX0_isInSet ({ frames := 0, cells := 0, slots := 0, locals := 0 } : Room) (va_Pc [.int el, .long set] (cp_pre D [] [] sz)) (va_Qi (fun (r : Int32) (u1 : cp_M) => r = cp_b (cp_inS el set)) (cp_at D [] (va_A [] sz) (fun _ => [])) (va_A [] sz)) 0 0 (va_A [] sz) := by
  intro D
  refine cp_MetI (Qk := fun A => va_Qi (fun (r : Int32) (u1 : cp_M) => r = cp_b (cp_inS el set)) (cp_at D [] A (fun _ => [])) A) (by decide) rfl (Nat.le_of_ble_eq_true rfl) ?_
  intro p e s m args below meth c A hC hA hK hI ls hl
  obtain ⟨hx, hb, hml, hown, hts, hr, hlocks⟩ := hC
  have hown : s.vm.findClass RX0 = some m.cls := hown
  have hl : lv_has ls 3 [(0, .int el), (1, .long set)] := hl
  refine lv_lload_n hx hb dX0_isInSet_0 rfl (lv_at hl 1 rfl) ?_
  refine lv_iload_n hx hb dX0_isInSet_1 rfl (lv_at hl 0 rfl) ?_
  refine lv_lshr (v := (set >>> (el.toInt64 &&& 63))) hx hb dX0_isInSet_2 rfl ?_
  refine lv_lconst (v := 1) hx hb dX0_isInSet_3 (by decide) ?_
  refine lv_land hx hb dX0_isInSet_4 ?_
  refine lv_lconst (v := 1) hx hb dX0_isInSet_5 (by decide) ?_
  refine W.lcmp hx hb dX0_isInSet_6 ?_
  refine lv_if_ne (tgt := 14) hx hb dX0_isInSet_7 (by decide) (fun c7 => ?_) (fun c7 => ?_)
  · refine lv_iconst (v := 0) hx hb dX0_isInSet_14 (by decide) ?_
    exact cp_retz (u := (fun _ _ => 0)) (v := 0) hx hb hr hlocks hK hI rfl (cp_bf (by unfold cp_inS; exact fun h9 => c7 (cp_lcmp0 h9))).symm dX0_isInSet_15
  · refine lv_iconst (v := 1) hx hb dX0_isInSet_10 (by decide) ?_
    refine lv_goto (tgt := 15) hx hb dX0_isInSet_11 (by decide) ?_
    exact cp_retz (u := (fun _ _ => 0)) (v := 1) hx hb hr hlocks hK hI rfl (cp_bt (by unfold cp_inS; exact cp_lcmp c7)).symm dX0_isInSet_15
set_option maxHeartbeats 4000000 in
set_option maxRecDepth 100000 in
theorem c_X0_yearOf (l : Launch)  (x : Int32)  : ∀ (D : va_G) (sz : Nat), Met l yX0_yearOf wsX0_yearOf ({ frames := 0, cells := 0, slots := 0, locals := 0 } : Room) (va_Pc [.int x] (cp_pre D [] [] sz)) (va_Qi (fun (r : Int32) (u1 : cp_M) => r = cp_year x) (cp_at D [] (va_A [] sz) (fun _ => [])) (va_A [] sz)) 0 0 (va_A [] sz) := by
  intro D
  refine cp_MetI (Qk := fun A => va_Qi (fun (r : Int32) (u1 : cp_M) => r = cp_year x) (cp_at D [] A (fun _ => [])) A) (by decide) rfl (Nat.le_of_ble_eq_true rfl) ?_
  intro p e s m args below meth c A hC hA hK hI ls hl
  obtain ⟨hx, hb, hml, hown, hts, hr, hlocks⟩ := hC
  have hown : s.vm.findClass RX0 = some m.cls := hown
  have hl : lv_has ls 1 [(0, .int x)] := hl
  refine lv_iload_n hx hb dX0_yearOf_0 rfl (lv_at hl 0 rfl) ?_
  refine lv_sipush (v := 365) hx hb dX0_yearOf_1 (by decide) ?_
  refine lv_idiv hx hb dX0_yearOf_4 (by decide) ?_
  exact cp_reti (u := (fun _ _ => 0)) (v := (x / 365)) hx hb hr hlocks hK hI rfl dX0_yearOf_5
set_option maxHeartbeats 4000000 in
set_option maxRecDepth 100000 in
theorem c_X0_seasonOf (l : Launch)  (x : Int32)  : ∀ (D : va_G) (sz : Nat), Met l yX0_seasonOf wsX0_seasonOf ({ frames := 0, cells := 0, slots := 0, locals := 0 } : Room) (va_Pc [.int x] (cp_pre D [] [] sz)) (va_Qi (fun (r : Int32) (u1 : cp_M) => r = cp_season x) (cp_at D [] (va_A [] sz) (fun _ => [])) (va_A [] sz)) 0 0 (va_A [] sz) := by
  intro D
  refine cp_MetI (Qk := fun A => va_Qi (fun (r : Int32) (u1 : cp_M) => r = cp_season x) (cp_at D [] A (fun _ => [])) A) (by decide) rfl (Nat.le_of_ble_eq_true rfl) ?_
  intro p e s m args below meth c A hC hA hK hI ls hl
  obtain ⟨hx, hb, hml, hown, hts, hr, hlocks⟩ := hC
  have hown : s.vm.findClass RX0 = some m.cls := hown
  have hl : lv_has ls 1 [(0, .int x)] := hl
  refine lv_iload_n hx hb dX0_seasonOf_0 rfl (lv_at hl 0 rfl) ?_
  refine lv_sipush (v := 365) hx hb dX0_seasonOf_1 (by decide) ?_
  refine lv_irem hx hb dX0_seasonOf_4 (by decide) ?_
  refine lv_bipush (v := 92) hx hb dX0_seasonOf_5 (by decide) ?_
  refine lv_idiv hx hb dX0_seasonOf_7 (by decide) ?_
  exact cp_reti (u := (fun _ _ => 0)) (v := ((x - x / 365 * 365) / 92)) hx hb hr hlocks hK hI rfl dX0_seasonOf_8
set_option maxHeartbeats 4000000 in
set_option maxRecDepth 100000 in
theorem c_X0_isChoir (l : Launch)  (x : Int32)  : ∀ (D : va_G) (sz : Nat), Met l yX0_isChoir wsX0_isChoir ({ frames := 1, cells := 0, slots := 0, locals := 22 } : Room) (va_Pc [.int x] (cp_pre D [] [] sz)) (va_Qi (fun (r : Int32) (u1 : cp_M) => r = cp_b (cp_bw x 0 3)) (cp_at D [] (va_A [] sz) (fun _ => [])) (va_A [] sz)) 0 0 (va_A [] sz) := by
  intro D
  refine cp_MetI (Qk := fun A => va_Qi (fun (r : Int32) (u1 : cp_M) => r = cp_b (cp_bw x 0 3)) (cp_at D [] A (fun _ => [])) A) (by decide) rfl (Nat.le_of_ble_eq_true rfl) ?_
  intro p e s m args below meth c A hC hA hK hI ls hl
  obtain ⟨hx, hb, hml, hown, hts, hr, hlocks⟩ := hC
  have hown : s.vm.findClass RX0 = some m.cls := hown
  have hl : lv_has ls 1 [(0, .int x)] := hl
  refine lv_iload_n hx hb dX0_isChoir_0 rfl (lv_at hl 0 rfl) ?_
  refine lv_iconst (v := 0) hx hb dX0_isChoir_1 (by decide) ?_
  refine lv_iconst (v := 3) hx hb dX0_isChoir_2 (by decide) ?_
  refine cp_cSi0 (As := [.int x, .int 0, .int 3]) (rest := []) ⟨hx, hb, hml, hown, hts⟩ ((c_X0_isBetween l x 0 3) D) (va_cwS 3 hts gX0_isChoir_X0_isBetween rfl rfl rfl (by decide +kernel) ⟨Nat.le_of_ble_eq_true rfl, Nat.le_of_ble_eq_true rfl⟩) hK hI hA rfl hl.1 rfl (Nat.le_of_ble_eq_true rfl) dX0_isChoir_3 ⟨Nat.le_refl _, Nat.le_refl _⟩ (fun r3 u3 H locs hp3 hI => ?_)
  obtain rfl := hp3
  exact cp_retz (u := (fun _ _ => 0)) (v := (cp_b (cp_bw x 0 3))) hx hb hr hlocks hK hI (cp_bn _) rfl dX0_isChoir_6
set_option maxHeartbeats 4000000 in
set_option maxRecDepth 100000 in
theorem c_X0_isUse (l : Launch)  (x : Int32)  : ∀ (D : va_G) (sz : Nat), Met l yX0_isUse wsX0_isUse ({ frames := 1, cells := 0, slots := 0, locals := 22 } : Room) (va_Pc [.int x] (cp_pre D [] [] sz)) (va_Qi (fun (r : Int32) (u1 : cp_M) => r = cp_b (cp_bw x 0 1)) (cp_at D [] (va_A [] sz) (fun _ => [])) (va_A [] sz)) 0 0 (va_A [] sz) := by
  intro D
  refine cp_MetI (Qk := fun A => va_Qi (fun (r : Int32) (u1 : cp_M) => r = cp_b (cp_bw x 0 1)) (cp_at D [] A (fun _ => [])) A) (by decide) rfl (Nat.le_of_ble_eq_true rfl) ?_
  intro p e s m args below meth c A hC hA hK hI ls hl
  obtain ⟨hx, hb, hml, hown, hts, hr, hlocks⟩ := hC
  have hown : s.vm.findClass RX0 = some m.cls := hown
  have hl : lv_has ls 1 [(0, .int x)] := hl
  refine lv_iload_n hx hb dX0_isUse_0 rfl (lv_at hl 0 rfl) ?_
  refine lv_iconst (v := 0) hx hb dX0_isUse_1 (by decide) ?_
  refine lv_iconst (v := 1) hx hb dX0_isUse_2 (by decide) ?_
  refine cp_cSi0 (As := [.int x, .int 0, .int 1]) (rest := []) ⟨hx, hb, hml, hown, hts⟩ ((c_X0_isBetween l x 0 1) D) (va_cwS 3 hts gX0_isUse_X0_isBetween rfl rfl rfl (by decide +kernel) ⟨Nat.le_of_ble_eq_true rfl, Nat.le_of_ble_eq_true rfl⟩) hK hI hA rfl hl.1 rfl (Nat.le_of_ble_eq_true rfl) dX0_isUse_3 ⟨Nat.le_refl _, Nat.le_refl _⟩ (fun r3 u3 H locs hp3 hI => ?_)
  obtain rfl := hp3
  exact cp_retz (u := (fun _ _ => 0)) (v := (cp_b (cp_bw x 0 1))) hx hb hr hlocks hK hI (cp_bn _) rfl dX0_isUse_6
set_option maxHeartbeats 4000000 in
set_option maxRecDepth 100000 in
theorem c_X0_isDay (l : Launch)  (x : Int32)  : ∀ (D : va_G) (sz : Nat), Met l yX0_isDay wsX0_isDay ({ frames := 1, cells := 0, slots := 0, locals := 22 } : Room) (va_Pc [.int x] (cp_pre D [] [] sz)) (va_Qi (fun (r : Int32) (u1 : cp_M) => r = cp_b (cp_bw x 0 1459)) (cp_at D [] (va_A [] sz) (fun _ => [])) (va_A [] sz)) 0 0 (va_A [] sz) := by
  intro D
  refine cp_MetI (Qk := fun A => va_Qi (fun (r : Int32) (u1 : cp_M) => r = cp_b (cp_bw x 0 1459)) (cp_at D [] A (fun _ => [])) A) (by decide) rfl (Nat.le_of_ble_eq_true rfl) ?_
  intro p e s m args below meth c A hC hA hK hI ls hl
  obtain ⟨hx, hb, hml, hown, hts, hr, hlocks⟩ := hC
  have hown : s.vm.findClass RX0 = some m.cls := hown
  have hl : lv_has ls 1 [(0, .int x)] := hl
  refine lv_iload_n hx hb dX0_isDay_0 rfl (lv_at hl 0 rfl) ?_
  refine lv_iconst (v := 0) hx hb dX0_isDay_1 (by decide) ?_
  refine lv_sipush (v := 1459) hx hb dX0_isDay_2 (by decide) ?_
  refine cp_cSi0 (As := [.int x, .int 0, .int 1459]) (rest := []) ⟨hx, hb, hml, hown, hts⟩ ((c_X0_isBetween l x 0 1459) D) (va_cwS 3 hts gX0_isDay_X0_isBetween rfl rfl rfl (by decide +kernel) ⟨Nat.le_of_ble_eq_true rfl, Nat.le_of_ble_eq_true rfl⟩) hK hI hA rfl hl.1 rfl (Nat.le_of_ble_eq_true rfl) dX0_isDay_5 ⟨Nat.le_refl _, Nat.le_refl _⟩ (fun r5 u5 H locs hp5 hI => ?_)
  obtain rfl := hp5
  exact cp_retz (u := (fun _ _ => 0)) (v := (cp_b (cp_bw x 0 1459))) hx hb hr hlocks hK hI (cp_bn _) rfl dX0_isDay_8
set_option maxHeartbeats 4000000 in
set_option maxRecDepth 100000 in
theorem c_X0_isYear (l : Launch)  (x : Int32)  : ∀ (D : va_G) (sz : Nat), Met l yX0_isYear wsX0_isYear ({ frames := 1, cells := 0, slots := 0, locals := 22 } : Room) (va_Pc [.int x] (cp_pre D [] [] sz)) (va_Qi (fun (r : Int32) (u1 : cp_M) => r = cp_b (cp_bw x 0 3)) (cp_at D [] (va_A [] sz) (fun _ => [])) (va_A [] sz)) 0 0 (va_A [] sz) := by
  intro D
  refine cp_MetI (Qk := fun A => va_Qi (fun (r : Int32) (u1 : cp_M) => r = cp_b (cp_bw x 0 3)) (cp_at D [] A (fun _ => [])) A) (by decide) rfl (Nat.le_of_ble_eq_true rfl) ?_
  intro p e s m args below meth c A hC hA hK hI ls hl
  obtain ⟨hx, hb, hml, hown, hts, hr, hlocks⟩ := hC
  have hown : s.vm.findClass RX0 = some m.cls := hown
  have hl : lv_has ls 1 [(0, .int x)] := hl
  refine lv_iload_n hx hb dX0_isYear_0 rfl (lv_at hl 0 rfl) ?_
  refine lv_iconst (v := 0) hx hb dX0_isYear_1 (by decide) ?_
  refine lv_iconst (v := 3) hx hb dX0_isYear_2 (by decide) ?_
  refine cp_cSi0 (As := [.int x, .int 0, .int 3]) (rest := []) ⟨hx, hb, hml, hown, hts⟩ ((c_X0_isBetween l x 0 3) D) (va_cwS 3 hts gX0_isYear_X0_isBetween rfl rfl rfl (by decide +kernel) ⟨Nat.le_of_ble_eq_true rfl, Nat.le_of_ble_eq_true rfl⟩) hK hI hA rfl hl.1 rfl (Nat.le_of_ble_eq_true rfl) dX0_isYear_3 ⟨Nat.le_refl _, Nat.le_refl _⟩ (fun r3 u3 H locs hp3 hI => ?_)
  obtain rfl := hp3
  exact cp_retz (u := (fun _ _ => 0)) (v := (cp_b (cp_bw x 0 3))) hx hb hr hlocks hK hI (cp_bn _) rfl dX0_isYear_6
set_option maxHeartbeats 4000000 in
set_option maxRecDepth 100000 in
theorem c_X0_isHymn (l : Launch) (D : va_G) (cI : ClassId) (h : Nat) (a : Nat → Nat) (u : cp_M) (x : Int32)  : ∀ sz : Nat, Met l yX0_isHymn wsX0_isHymn ({ frames := 1, cells := 0, slots := 0, locals := 22 } : Room) (va_Pc [.ref h, .int x] (cp_pre D [(cI, .int)] (cp_wX cI h a u) sz)) (va_Qi (fun (r : Int32) (u1 : cp_M) => r = cp_b (cp_bw x 0 (u 14 1 - 1)) ∧ u1 = u) (cp_at D [(cI, .int)] (va_A (cp_wX cI h a u) sz) (cp_wX cI h a)) (va_A (cp_wX cI h a u) sz)) 0 0 (va_A (cp_wX cI h a u) sz) := by
  refine cp_MetI (Qk := fun A => va_Qi (fun (r : Int32) (u1 : cp_M) => r = cp_b (cp_bw x 0 (u 14 1 - 1)) ∧ u1 = u) (cp_at D [(cI, .int)] A (cp_wX cI h a)) A) (by decide) rfl (Nat.le_of_ble_eq_true rfl) ?_
  intro p e s m args below meth c A hC hA hK hI ls hl
  obtain ⟨hx, hb, hml, hown, hts, hr, hlocks⟩ := hC
  have hown : s.vm.findClass RX0 = some m.cls := hown
  have hl : lv_has ls 2 [(0, .ref h), (1, .int x)] := hl
  have inW : ∀ w ∈ wsX00, w ∈ wsX0_isHymn := by decide +kernel
  have fl_hymnCount : Cond.fieldLink RX0 63 "CanticlePress" "hymnCount" "I" ∈ wsX0_isHymn := by decide +kernel
  refine lv_iload_n hx hb dX0_isHymn_0 rfl (lv_at hl 1 rfl) ?_
  refine lv_iconst (v := 0) hx hb dX0_isHymn_1 (by decide) ?_
  refine lv_aload_n hx hb dX0_isHymn_2 rfl (lv_at hl 0 rfl) ?_
  refine cp_get (v := .int (u 14 1)) hx hb hts inW hown hK hI (cp_hX _ _ _ _) rfl 1 (by decide) fl_hymnCount rfl rfl dX0_isHymn_3 ?_
  refine lv_iconst (v := 1) hx hb dX0_isHymn_6 (by decide) ?_
  refine lv_isub hx hb dX0_isHymn_7 ?_
  refine cp_cSi0 (As := [.int x, .int 0, .int ((u 14 1) - 1)]) (rest := []) ⟨hx, hb, hml, hown, hts⟩ ((c_X0_isBetween l x 0 ((u 14 1) - 1)) D) (va_cwS 3 hts gX0_isHymn_X0_isBetween rfl rfl rfl (by decide +kernel) ⟨Nat.le_of_ble_eq_true rfl, Nat.le_of_ble_eq_true rfl⟩) hK hI hA rfl hl.1 rfl (Nat.le_of_ble_eq_true rfl) dX0_isHymn_8 ⟨Nat.le_refl _, Nat.le_refl _⟩ (fun r8 u8 H locs hp8 hI => ?_)
  obtain rfl := hp8
  exact cp_retz (u := u) (v := (cp_b (cp_bw x 0 ((u 14 1) - 1)))) hx hb hr hlocks hK hI (cp_bn _) ⟨rfl, rfl⟩ dX0_isHymn_11
set_option maxHeartbeats 4000000 in
set_option maxRecDepth 100000 in
theorem c_X0_isService (l : Launch) (D : va_G) (cI : ClassId) (h : Nat) (a : Nat → Nat) (u : cp_M) (x : Int32)  : ∀ sz : Nat, Met l yX0_isService wsX0_isService ({ frames := 1, cells := 0, slots := 0, locals := 22 } : Room) (va_Pc [.ref h, .int x] (cp_pre D [(cI, .int)] (cp_wX cI h a u) sz)) (va_Qi (fun (r : Int32) (u1 : cp_M) => r = cp_b (cp_bw x 0 (u 14 3 - 1)) ∧ u1 = u) (cp_at D [(cI, .int)] (va_A (cp_wX cI h a u) sz) (cp_wX cI h a)) (va_A (cp_wX cI h a u) sz)) 0 0 (va_A (cp_wX cI h a u) sz) := by
  refine cp_MetI (Qk := fun A => va_Qi (fun (r : Int32) (u1 : cp_M) => r = cp_b (cp_bw x 0 (u 14 3 - 1)) ∧ u1 = u) (cp_at D [(cI, .int)] A (cp_wX cI h a)) A) (by decide) rfl (Nat.le_of_ble_eq_true rfl) ?_
  intro p e s m args below meth c A hC hA hK hI ls hl
  obtain ⟨hx, hb, hml, hown, hts, hr, hlocks⟩ := hC
  have hown : s.vm.findClass RX0 = some m.cls := hown
  have hl : lv_has ls 2 [(0, .ref h), (1, .int x)] := hl
  have inW : ∀ w ∈ wsX00, w ∈ wsX0_isService := by decide +kernel
  have fl_serviceCount : Cond.fieldLink RX0 131 "CanticlePress" "serviceCount" "I" ∈ wsX0_isService := by decide +kernel
  refine lv_iload_n hx hb dX0_isService_0 rfl (lv_at hl 1 rfl) ?_
  refine lv_iconst (v := 0) hx hb dX0_isService_1 (by decide) ?_
  refine lv_aload_n hx hb dX0_isService_2 rfl (lv_at hl 0 rfl) ?_
  refine cp_get (v := .int (u 14 3)) hx hb hts inW hown hK hI (cp_hX _ _ _ _) rfl 14 (by decide) fl_serviceCount rfl rfl dX0_isService_3 ?_
  refine lv_iconst (v := 1) hx hb dX0_isService_6 (by decide) ?_
  refine lv_isub hx hb dX0_isService_7 ?_
  refine cp_cSi0 (As := [.int x, .int 0, .int ((u 14 3) - 1)]) (rest := []) ⟨hx, hb, hml, hown, hts⟩ ((c_X0_isBetween l x 0 ((u 14 3) - 1)) D) (va_cwS 3 hts gX0_isService_X0_isBetween rfl rfl rfl (by decide +kernel) ⟨Nat.le_of_ble_eq_true rfl, Nat.le_of_ble_eq_true rfl⟩) hK hI hA rfl hl.1 rfl (Nat.le_of_ble_eq_true rfl) dX0_isService_8 ⟨Nat.le_refl _, Nat.le_refl _⟩ (fun r8 u8 H locs hp8 hI => ?_)
  obtain rfl := hp8
  exact cp_retz (u := u) (v := (cp_b (cp_bw x 0 ((u 14 3) - 1)))) hx hb hr hlocks hK hI (cp_bn _) ⟨rfl, rfl⟩ dX0_isService_11
set_option maxHeartbeats 4000000 in
set_option maxRecDepth 100000 in
theorem c_X0_isAllowed (l : Launch) (D : va_G) (cI : ClassId) (h : Nat) (a : Nat → Nat) (u : cp_M) (x : Int32) (y : Int32) (z : Int32) (hN2 : cp_cn u 2 40) : ∀ sz : Nat, Met l yX0_isAllowed wsX0_isAllowed ({ frames := 1, cells := 0, slots := 0, locals := 22 } : Room) (va_Pc [.ref h, .int x, .int y, .int z] (cp_pre D [(cI, .int)] (cp_wX cI h a u) sz)) (va_Qi (fun (r : Int32) (u1 : cp_M) => r = cp_b (cp_may u x y z) ∧ u1 = u) (cp_at D [(cI, .int)] (va_A (cp_wX cI h a u) sz) (cp_wX cI h a)) (va_A (cp_wX cI h a u) sz)) 0 0 (va_A (cp_wX cI h a u) sz) := by
  refine cp_MetI (Qk := fun A => va_Qi (fun (r : Int32) (u1 : cp_M) => r = cp_b (cp_may u x y z) ∧ u1 = u) (cp_at D [(cI, .int)] A (cp_wX cI h a)) A) (by decide) rfl (Nat.le_of_ble_eq_true rfl) ?_
  intro p e s m args below meth c A hC hA hK hI ls hl
  obtain ⟨hx, hb, hml, hown, hts, hr, hlocks⟩ := hC
  have hown : s.vm.findClass RX0 = some m.cls := hown
  have hl : lv_has ls 5 [(0, .ref h), (1, .int x), (2, .int y), (3, .int z)] := hl
  have inW : ∀ w ∈ wsX00, w ∈ wsX0_isAllowed := by decide +kernel
  have fl_firstOfRight : Cond.fieldLink RX0 37 "CanticlePress" "firstOfRight" "[I" ∈ wsX0_isAllowed := by decide +kernel
  have fl_hymnOfRight : Cond.fieldLink RX0 31 "CanticlePress" "hymnOfRight" "[I" ∈ wsX0_isAllowed := by decide +kernel
  have fl_lastOfRight : Cond.fieldLink RX0 40 "CanticlePress" "lastOfRight" "[I" ∈ wsX0_isAllowed := by decide +kernel
  have fl_rightCount : Cond.fieldLink RX0 100 "CanticlePress" "rightCount" "I" ∈ wsX0_isAllowed := by decide +kernel
  have fl_useOfRight : Cond.fieldLink RX0 34 "CanticlePress" "useOfRight" "[I" ∈ wsX0_isAllowed := by decide +kernel
  refine lv_iconst (v := 0) hx hb dX0_isAllowed_0 (by decide) ?_
  refine lv_istore (lv' := [(4, .int 0), (0, .ref h), (1, .int x), (2, .int y), (3, .int z)]) hx hb dX0_isAllowed_1 hl (by decide) rfl (fun ls hl => ?_)
  have L3 : ∀ (n9 : Nat) (k : Nat) (hm9 : cp_n u 2 - k < n9) (hk : k ≤ cp_n u 2) (hno : ∀ r, r < k → ¬ (u 7 r = x ∧ u 8 r = y ∧ cp_bw z (u 9 r) (u 10 r))), ∀ (H : Heap) (locs : List Loc), cp_I D (cp_wX cI h a u) A s.heap H locs → ∀ ls, lv_has ls 5 [(4, .int (nI k)), (0, .ref h), (1, .int x), (2, .int y), (3, .int z)] → W p l e ({ frames := 1, cells := 0, slots := 0, locals := 22 } : Room) s m args below meth c H locs 0 0 (MQ below (va_Qi (fun (r : Int32) (u1 : cp_M) => r = cp_b (cp_may u x y z) ∧ u1 = u) (cp_at D [(cI, .int)] A (cp_wX cI h a)) A) args s 0 0 A) (F0 m 3 ls []) := by
    intro n9
    induction n9 with
    | zero => intro k hm9; omega
    | succ n9 ih =>
      intro k hm9 hk hno H locs hI ls hl
      have hN9 := hN2.2.1
      refine lv_iload hx hb dX0_isAllowed_3 (lv_at hl 0 rfl) ?_
      refine lv_aload_n hx hb dX0_isAllowed_5 rfl (lv_at hl 1 rfl) ?_
      refine cp_get (v := .int (u 14 2)) hx hb hts inW hown hK hI (cp_hX _ _ _ _) rfl 9 (by decide) fl_rightCount rfl rfl dX0_isAllowed_6 ?_
      refine lv_icmp_ge (tgt := 63) hx hb dX0_isAllowed_9 (by decide) (fun c9 => ?_) (fun c9 => ?_)
      · have hk2 := cp_ex hN2 hk c9
        refine lv_iconst (v := 0) hx hb dX0_isAllowed_63 (by decide) ?_
        exact cp_retz (u := u) (v := 0) hx hb hr hlocks hK hI rfl ⟨(cp_bf (fun ⟨r, hr, h⟩ => hno r (by omega) h)).symm, rfl⟩ dX0_isAllowed_64
      · have hk2 := cp_in hN2 (by omega) c9
        refine lv_aload_n hx hb dX0_isAllowed_12 rfl (lv_at hl 1 rfl) ?_
        refine cp_get (v := .ref (a 7)) hx hb hts inW hown hK hI (cp_hX _ _ _ _) rfl 10 (by decide) fl_hymnOfRight rfl rfl dX0_isAllowed_13 ?_
        refine lv_iload hx hb dX0_isAllowed_16 (lv_at hl 0 rfl) ?_
        refine cp_iald hx hb hK hI 0 (cp_aX_7 _ _ _ _) rfl (j := k) (cp_ix_n (by omega) (by decide)) dX0_isAllowed_18 ?_
        refine lv_iload_n hx hb dX0_isAllowed_19 rfl (lv_at hl 2 rfl) ?_
        refine lv_icmp_ne (tgt := 57) hx hb dX0_isAllowed_20 (by decide) (fun c20 => ?_) (fun c20 => ?_)
        · obtain ⟨x57, ex57⟩ : ∃ y9 : Int32, y9 = (nI k) + 1 := ⟨_, rfl⟩
          refine lv_iinc (v := x57) (lv' := [(4, .int x57), (0, .ref h), (1, .int x), (2, .int y), (3, .int z)]) hx hb dX0_isAllowed_57 hl (k := 0) rfl (by rw [ex57]; rfl) (by decide) rfl (fun ls hl => ?_)
          refine lv_goto (tgt := 3) hx hb dX0_isAllowed_60 (by decide) ?_
          obtain rfl : x57 = nI (k + 1) := by rw [ex57]; exact nI_1 k
          exact ih (k + 1) (by omega) (by omega) (cp_no_s hno (by first | exact fun h => c20 h.1 | exact fun h => c31 h.2.1 | exact fun h => c52 h.2.2)) _ _ hI ls (lv_sub hl [0, 1, 2, 3, 4] rfl)
        · refine lv_aload_n hx hb dX0_isAllowed_23 rfl (lv_at hl 1 rfl) ?_
          refine cp_get (v := .ref (a 8)) hx hb hts inW hown hK hI (cp_hX _ _ _ _) rfl 11 (by decide) fl_useOfRight rfl rfl dX0_isAllowed_24 ?_
          refine lv_iload hx hb dX0_isAllowed_27 (lv_at hl 0 rfl) ?_
          refine cp_iald hx hb hK hI 0 (cp_aX_8 _ _ _ _) rfl (j := k) (cp_ix_n (by omega) (by decide)) dX0_isAllowed_29 ?_
          refine lv_iload_n hx hb dX0_isAllowed_30 rfl (lv_at hl 3 rfl) ?_
          refine lv_icmp_ne (tgt := 57) hx hb dX0_isAllowed_31 (by decide) (fun c31 => ?_) (fun c31 => ?_)
          · obtain ⟨x57, ex57⟩ : ∃ y9 : Int32, y9 = (nI k) + 1 := ⟨_, rfl⟩
            refine lv_iinc (v := x57) (lv' := [(4, .int x57), (0, .ref h), (1, .int x), (2, .int y), (3, .int z)]) hx hb dX0_isAllowed_57 hl (k := 0) rfl (by rw [ex57]; rfl) (by decide) rfl (fun ls hl => ?_)
            refine lv_goto (tgt := 3) hx hb dX0_isAllowed_60 (by decide) ?_
            obtain rfl : x57 = nI (k + 1) := by rw [ex57]; exact nI_1 k
            exact ih (k + 1) (by omega) (by omega) (cp_no_s hno (by first | exact fun h => c20 h.1 | exact fun h => c31 h.2.1 | exact fun h => c52 h.2.2)) _ _ hI ls (lv_sub hl [0, 1, 2, 3, 4] rfl)
          · refine lv_iload_n hx hb dX0_isAllowed_34 rfl (lv_at hl 4 rfl) ?_
            refine lv_aload_n hx hb dX0_isAllowed_35 rfl (lv_at hl 1 rfl) ?_
            refine cp_get (v := .ref (a 9)) hx hb hts inW hown hK hI (cp_hX _ _ _ _) rfl 12 (by decide) fl_firstOfRight rfl rfl dX0_isAllowed_36 ?_
            refine lv_iload hx hb dX0_isAllowed_39 (lv_at hl 0 rfl) ?_
            refine cp_iald hx hb hK hI 0 (cp_aX_9 _ _ _ _) rfl (j := k) (cp_ix_n (by omega) (by decide)) dX0_isAllowed_41 ?_
            refine lv_aload_n hx hb dX0_isAllowed_42 rfl (lv_at hl 1 rfl) ?_
            refine cp_get (v := .ref (a 10)) hx hb hts inW hown hK hI (cp_hX _ _ _ _) rfl 13 (by decide) fl_lastOfRight rfl rfl dX0_isAllowed_43 ?_
            refine lv_iload hx hb dX0_isAllowed_46 (lv_at hl 0 rfl) ?_
            refine cp_iald hx hb hK hI 0 (cp_aX_10 _ _ _ _) rfl (j := k) (cp_ix_n (by omega) (by decide)) dX0_isAllowed_48 ?_
            refine cp_cSi0 (As := [.int z, .int (u 9 k), .int (u 10 k)]) (rest := []) ⟨hx, hb, hml, hown, hts⟩ ((c_X0_isBetween l z (u 9 k) (u 10 k)) D) (va_cwS 3 hts gX0_isAllowed_X0_isBetween rfl rfl rfl (by decide +kernel) ⟨Nat.le_of_ble_eq_true rfl, Nat.le_of_ble_eq_true rfl⟩) hK hI hA rfl hl.1 rfl (Nat.le_of_ble_eq_true rfl) dX0_isAllowed_49 ⟨Nat.le_refl _, Nat.le_refl _⟩ (fun r49 u49 H locs hp49 hI => ?_)
            obtain rfl := hp49
            refine lv_if_eq (tgt := 57) hx hb dX0_isAllowed_52 (by decide) (fun c52 => ?_) (fun c52 => ?_)
            · have c52 := cp_b0.mp c52
              obtain ⟨x57, ex57⟩ : ∃ y9 : Int32, y9 = (nI k) + 1 := ⟨_, rfl⟩
              refine lv_iinc (v := x57) (lv' := [(4, .int x57), (0, .ref h), (1, .int x), (2, .int y), (3, .int z)]) hx hb dX0_isAllowed_57 hl (k := 0) rfl (by rw [ex57]; rfl) (by decide) rfl (fun ls hl => ?_)
              refine lv_goto (tgt := 3) hx hb dX0_isAllowed_60 (by decide) ?_
              obtain rfl : x57 = nI (k + 1) := by rw [ex57]; exact nI_1 k
              exact ih (k + 1) (by omega) (by omega) (cp_no_s hno (by first | exact fun h => c20 h.1 | exact fun h => c31 h.2.1 | exact fun h => c52 h.2.2)) _ _ hI ls (lv_sub hl [0, 1, 2, 3, 4] rfl)
            · have c52 := Classical.not_not.mp (fun h9 => c52 (cp_b0.mpr h9))
              refine lv_iconst (v := 1) hx hb dX0_isAllowed_55 (by decide) ?_
              exact cp_retz (u := u) (v := 1) hx hb hr hlocks hK hI rfl ⟨(cp_bt ⟨k, hk2, c20, c31, c52⟩).symm, rfl⟩ dX0_isAllowed_56
  exact L3 ((cp_n u 2) + 1) 0 (Nat.lt_succ_self _) (Nat.zero_le _) (fun r hr => absurd hr (Nat.not_lt_zero _)) _ _ hI ls (lv_sub hl [0, 1, 2, 3, 4] rfl)
set_option maxHeartbeats 4000000 in
set_option maxRecDepth 100000 in
theorem c_X0_hasServiceOn (l : Launch) (D : va_G) (cI : ClassId) (h : Nat) (a : Nat → Nat) (u : cp_M) (x : Int32) (z : Int32) (hN3 : cp_cn u 3 40) : ∀ sz : Nat, Met l yX0_hasServiceOn wsX0_hasServiceOn ({ frames := 0, cells := 0, slots := 0, locals := 0 } : Room) (va_Pc [.ref h, .int x, .int z] (cp_pre D [(cI, .int)] (cp_wX cI h a u) sz)) (va_Qi (fun (r : Int32) (u1 : cp_M) => r = cp_b (cp_hasS u x z) ∧ u1 = u) (cp_at D [(cI, .int)] (va_A (cp_wX cI h a u) sz) (cp_wX cI h a)) (va_A (cp_wX cI h a u) sz)) 0 0 (va_A (cp_wX cI h a u) sz) := by
  refine cp_MetI (Qk := fun A => va_Qi (fun (r : Int32) (u1 : cp_M) => r = cp_b (cp_hasS u x z) ∧ u1 = u) (cp_at D [(cI, .int)] A (cp_wX cI h a)) A) (by decide) rfl (Nat.le_of_ble_eq_true rfl) ?_
  intro p e s m args below meth c A hC hA hK hI ls hl
  obtain ⟨hx, hb, hml, hown, hts, hr, hlocks⟩ := hC
  have hown : s.vm.findClass RX0 = some m.cls := hown
  have hl : lv_has ls 4 [(0, .ref h), (1, .int x), (2, .int z)] := hl
  have inW : ∀ w ∈ wsX00, w ∈ wsX0_hasServiceOn := by decide +kernel
  have fl_choirOfService : Cond.fieldLink RX0 43 "CanticlePress" "choirOfService" "[I" ∈ wsX0_hasServiceOn := by decide +kernel
  have fl_dayOfService : Cond.fieldLink RX0 46 "CanticlePress" "dayOfService" "[I" ∈ wsX0_hasServiceOn := by decide +kernel
  have fl_serviceCount : Cond.fieldLink RX0 131 "CanticlePress" "serviceCount" "I" ∈ wsX0_hasServiceOn := by decide +kernel
  refine lv_iconst (v := 0) hx hb dX0_hasServiceOn_0 (by decide) ?_
  refine lv_istore_n (lv' := [(3, .int 0), (0, .ref h), (1, .int x), (2, .int z)]) hx hb dX0_hasServiceOn_1 rfl hl (by decide) rfl (fun ls hl => ?_)
  have L2 : ∀ (n9 : Nat) (k : Nat) (hm9 : cp_n u 3 - k < n9) (hk : k ≤ cp_n u 3) (hno : ∀ r, r < k → ¬ (u 11 r = x ∧ u 12 r = z)), ∀ (H : Heap) (locs : List Loc), cp_I D (cp_wX cI h a u) A s.heap H locs → ∀ ls, lv_has ls 4 [(3, .int (nI k)), (0, .ref h), (1, .int x), (2, .int z)] → W p l e ({ frames := 0, cells := 0, slots := 0, locals := 0 } : Room) s m args below meth c H locs 0 0 (MQ below (va_Qi (fun (r : Int32) (u1 : cp_M) => r = cp_b (cp_hasS u x z) ∧ u1 = u) (cp_at D [(cI, .int)] A (cp_wX cI h a)) A) args s 0 0 A) (F0 m 2 ls []) := by
    intro n9
    induction n9 with
    | zero => intro k hm9; omega
    | succ n9 ih =>
      intro k hm9 hk hno H locs hI ls hl
      have hN9 := hN3.2.1
      refine lv_iload_n hx hb dX0_hasServiceOn_2 rfl (lv_at hl 0 rfl) ?_
      refine lv_aload_n hx hb dX0_hasServiceOn_3 rfl (lv_at hl 1 rfl) ?_
      refine cp_get (v := .int (u 14 3)) hx hb hts inW hown hK hI (cp_hX _ _ _ _) rfl 14 (by decide) fl_serviceCount rfl rfl dX0_hasServiceOn_4 ?_
      refine lv_icmp_ge (tgt := 38) hx hb dX0_hasServiceOn_7 (by decide) (fun c7 => ?_) (fun c7 => ?_)
      · have hk2 := cp_ex hN3 hk c7
        refine lv_iconst (v := 0) hx hb dX0_hasServiceOn_38 (by decide) ?_
        exact cp_retz (u := u) (v := 0) hx hb hr hlocks hK hI rfl ⟨(cp_bf (fun ⟨r, hr, h⟩ => hno r (by omega) h)).symm, rfl⟩ dX0_hasServiceOn_39
      · have hk2 := cp_in hN3 (by omega) c7
        refine lv_aload_n hx hb dX0_hasServiceOn_10 rfl (lv_at hl 1 rfl) ?_
        refine cp_get (v := .ref (a 11)) hx hb hts inW hown hK hI (cp_hX _ _ _ _) rfl 15 (by decide) fl_choirOfService rfl rfl dX0_hasServiceOn_11 ?_
        refine lv_iload_n hx hb dX0_hasServiceOn_14 rfl (lv_at hl 0 rfl) ?_
        refine cp_iald hx hb hK hI 0 (cp_aX_11 _ _ _ _) rfl (j := k) (cp_ix_n (by omega) (by decide)) dX0_hasServiceOn_15 ?_
        refine lv_iload_n hx hb dX0_hasServiceOn_16 rfl (lv_at hl 2 rfl) ?_
        refine lv_icmp_ne (tgt := 32) hx hb dX0_hasServiceOn_17 (by decide) (fun c17 => ?_) (fun c17 => ?_)
        · obtain ⟨x32, ex32⟩ : ∃ y9 : Int32, y9 = (nI k) + 1 := ⟨_, rfl⟩
          refine lv_iinc (v := x32) (lv' := [(3, .int x32), (0, .ref h), (1, .int x), (2, .int z)]) hx hb dX0_hasServiceOn_32 hl (k := 0) rfl (by rw [ex32]; rfl) (by decide) rfl (fun ls hl => ?_)
          refine lv_goto (tgt := 2) hx hb dX0_hasServiceOn_35 (by decide) ?_
          obtain rfl : x32 = nI (k + 1) := by rw [ex32]; exact nI_1 k
          exact ih (k + 1) (by omega) (by omega) (cp_no_s hno (by first | exact fun h => c17 h.1 | exact fun h => c27 h.2)) _ _ hI ls (lv_sub hl [0, 1, 2, 3] rfl)
        · refine lv_aload_n hx hb dX0_hasServiceOn_20 rfl (lv_at hl 1 rfl) ?_
          refine cp_get (v := .ref (a 12)) hx hb hts inW hown hK hI (cp_hX _ _ _ _) rfl 16 (by decide) fl_dayOfService rfl rfl dX0_hasServiceOn_21 ?_
          refine lv_iload_n hx hb dX0_hasServiceOn_24 rfl (lv_at hl 0 rfl) ?_
          refine cp_iald hx hb hK hI 0 (cp_aX_12 _ _ _ _) rfl (j := k) (cp_ix_n (by omega) (by decide)) dX0_hasServiceOn_25 ?_
          refine lv_iload_n hx hb dX0_hasServiceOn_26 rfl (lv_at hl 3 rfl) ?_
          refine lv_icmp_ne (tgt := 32) hx hb dX0_hasServiceOn_27 (by decide) (fun c27 => ?_) (fun c27 => ?_)
          · obtain ⟨x32, ex32⟩ : ∃ y9 : Int32, y9 = (nI k) + 1 := ⟨_, rfl⟩
            refine lv_iinc (v := x32) (lv' := [(3, .int x32), (0, .ref h), (1, .int x), (2, .int z)]) hx hb dX0_hasServiceOn_32 hl (k := 0) rfl (by rw [ex32]; rfl) (by decide) rfl (fun ls hl => ?_)
            refine lv_goto (tgt := 2) hx hb dX0_hasServiceOn_35 (by decide) ?_
            obtain rfl : x32 = nI (k + 1) := by rw [ex32]; exact nI_1 k
            exact ih (k + 1) (by omega) (by omega) (cp_no_s hno (by first | exact fun h => c17 h.1 | exact fun h => c27 h.2)) _ _ hI ls (lv_sub hl [0, 1, 2, 3] rfl)
          · refine lv_iconst (v := 1) hx hb dX0_hasServiceOn_30 (by decide) ?_
            exact cp_retz (u := u) (v := 1) hx hb hr hlocks hK hI rfl ⟨(cp_bt ⟨k, hk2, c17, c27⟩).symm, rfl⟩ dX0_hasServiceOn_31
  exact L2 ((cp_n u 3) + 1) 0 (Nat.lt_succ_self _) (Nat.zero_le _) (fun r hr => absurd hr (Nat.not_lt_zero _)) _ _ hI ls (lv_sub hl [0, 1, 2, 3] rfl)
set_option maxHeartbeats 4000000 in
set_option maxRecDepth 100000 in
theorem c_X0_isRested (l : Launch) (D : va_G) (cI : ClassId) (h : Nat) (a : Nat → Nat) (u : cp_M) (x : Int32) (ch : Int32) (z : Int32) (hN3 : cp_cn u 3 40) : ∀ sz : Nat, Met l yX0_isRested wsX0_isRested ({ frames := 1, cells := 0, slots := 0, locals := 21 } : Room) (va_Pc [.ref h, .int x, .int ch, .int z] (cp_pre D [(cI, .int)] (cp_wX cI h a u) sz)) (va_Qi (fun (r : Int32) (u1 : cp_M) => r = cp_b (cp_rst u ch x z) ∧ u1 = u) (cp_at D [(cI, .int)] (va_A (cp_wX cI h a u) sz) (cp_wX cI h a)) (va_A (cp_wX cI h a u) sz)) 0 0 (va_A (cp_wX cI h a u) sz) := by
  refine cp_MetI (Qk := fun A => va_Qi (fun (r : Int32) (u1 : cp_M) => r = cp_b (cp_rst u ch x z) ∧ u1 = u) (cp_at D [(cI, .int)] A (cp_wX cI h a)) A) (by decide) rfl (Nat.le_of_ble_eq_true rfl) ?_
  intro p e s m args below meth c A hC hA hK hI ls hl
  obtain ⟨hx, hb, hml, hown, hts, hr, hlocks⟩ := hC
  have hown : s.vm.findClass RX0 = some m.cls := hown
  have hl : lv_has ls 5 [(0, .ref h), (1, .int x), (2, .int ch), (3, .int z)] := hl
  have inW : ∀ w ∈ wsX00, w ∈ wsX0_isRested := by decide +kernel
  have fl_choirOfService : Cond.fieldLink RX0 43 "CanticlePress" "choirOfService" "[I" ∈ wsX0_isRested := by decide +kernel
  have fl_dayOfService : Cond.fieldLink RX0 46 "CanticlePress" "dayOfService" "[I" ∈ wsX0_isRested := by decide +kernel
  have fl_hymnOfService : Cond.fieldLink RX0 49 "CanticlePress" "hymnOfService" "[I" ∈ wsX0_isRested := by decide +kernel
  have fl_serviceCount : Cond.fieldLink RX0 131 "CanticlePress" "serviceCount" "I" ∈ wsX0_isRested := by decide +kernel
  refine lv_iconst (v := 0) hx hb dX0_isRested_0 (by decide) ?_
  refine lv_istore (lv' := [(4, .int 0), (0, .ref h), (1, .int x), (2, .int ch), (3, .int z)]) hx hb dX0_isRested_1 hl (by decide) rfl (fun ls hl => ?_)
  have L3 : ∀ (n9 : Nat) (k : Nat) (hm9 : cp_n u 3 - k < n9) (hk : k ≤ cp_n u 3) (hno : ∀ r, r < k → ¬ (u 11 r = ch ∧ u 13 r = x ∧ cp_near (u 12 r) z)), ∀ (H : Heap) (locs : List Loc), cp_I D (cp_wX cI h a u) A s.heap H locs → ∀ ls, lv_has ls 5 [(4, .int (nI k)), (0, .ref h), (1, .int x), (2, .int ch), (3, .int z)] → W p l e ({ frames := 1, cells := 0, slots := 0, locals := 21 } : Room) s m args below meth c H locs 0 0 (MQ below (va_Qi (fun (r : Int32) (u1 : cp_M) => r = cp_b (cp_rst u ch x z) ∧ u1 = u) (cp_at D [(cI, .int)] A (cp_wX cI h a)) A) args s 0 0 A) (F0 m 3 ls []) := by
    intro n9
    induction n9 with
    | zero => intro k hm9; omega
    | succ n9 ih =>
      intro k hm9 hk hno H locs hI ls hl
      have hN9 := hN3.2.1
      refine lv_iload hx hb dX0_isRested_3 (lv_at hl 0 rfl) ?_
      refine lv_aload_n hx hb dX0_isRested_5 rfl (lv_at hl 1 rfl) ?_
      refine cp_get (v := .int (u 14 3)) hx hb hts inW hown hK hI (cp_hX _ _ _ _) rfl 14 (by decide) fl_serviceCount rfl rfl dX0_isRested_6 ?_
      refine lv_icmp_ge (tgt := 59) hx hb dX0_isRested_9 (by decide) (fun c9 => ?_) (fun c9 => ?_)
      · have hk2 := cp_ex hN3 hk c9
        refine lv_iconst (v := 1) hx hb dX0_isRested_59 (by decide) ?_
        exact cp_retz (u := u) (v := 1) hx hb hr hlocks hK hI rfl ⟨(cp_bt (fun r hr => hno r (by omega))).symm, rfl⟩ dX0_isRested_60
      · have hk2 := cp_in hN3 (by omega) c9
        refine lv_aload_n hx hb dX0_isRested_12 rfl (lv_at hl 1 rfl) ?_
        refine cp_get (v := .ref (a 11)) hx hb hts inW hown hK hI (cp_hX _ _ _ _) rfl 15 (by decide) fl_choirOfService rfl rfl dX0_isRested_13 ?_
        refine lv_iload hx hb dX0_isRested_16 (lv_at hl 0 rfl) ?_
        refine cp_iald hx hb hK hI 0 (cp_aX_11 _ _ _ _) rfl (j := k) (cp_ix_n (by omega) (by decide)) dX0_isRested_18 ?_
        refine lv_iload_n hx hb dX0_isRested_19 rfl (lv_at hl 3 rfl) ?_
        refine lv_icmp_ne (tgt := 53) hx hb dX0_isRested_20 (by decide) (fun c20 => ?_) (fun c20 => ?_)
        · obtain ⟨x53, ex53⟩ : ∃ y9 : Int32, y9 = (nI k) + 1 := ⟨_, rfl⟩
          refine lv_iinc (v := x53) (lv' := [(4, .int x53), (0, .ref h), (1, .int x), (2, .int ch), (3, .int z)]) hx hb dX0_isRested_53 hl (k := 0) rfl (by rw [ex53]; rfl) (by decide) rfl (fun ls hl => ?_)
          refine lv_goto (tgt := 3) hx hb dX0_isRested_56 (by decide) ?_
          obtain rfl : x53 = nI (k + 1) := by rw [ex53]; exact nI_1 k
          exact ih (k + 1) (by omega) (by omega) (cp_no_s hno (by first | exact fun h => c20 h.1 | exact fun h => c31 h.2.1 | exact fun h => absurd h.2.2 (Int32.not_lt.mpr c48))) _ _ hI ls (lv_sub hl [0, 1, 2, 3, 4] rfl)
        · refine lv_aload_n hx hb dX0_isRested_23 rfl (lv_at hl 1 rfl) ?_
          refine cp_get (v := .ref (a 13)) hx hb hts inW hown hK hI (cp_hX _ _ _ _) rfl 17 (by decide) fl_hymnOfService rfl rfl dX0_isRested_24 ?_
          refine lv_iload hx hb dX0_isRested_27 (lv_at hl 0 rfl) ?_
          refine cp_iald hx hb hK hI 0 (cp_aX_13 _ _ _ _) rfl (j := k) (cp_ix_n (by omega) (by decide)) dX0_isRested_29 ?_
          refine lv_iload_n hx hb dX0_isRested_30 rfl (lv_at hl 2 rfl) ?_
          refine lv_icmp_ne (tgt := 53) hx hb dX0_isRested_31 (by decide) (fun c31 => ?_) (fun c31 => ?_)
          · obtain ⟨x53, ex53⟩ : ∃ y9 : Int32, y9 = (nI k) + 1 := ⟨_, rfl⟩
            refine lv_iinc (v := x53) (lv' := [(4, .int x53), (0, .ref h), (1, .int x), (2, .int ch), (3, .int z)]) hx hb dX0_isRested_53 hl (k := 0) rfl (by rw [ex53]; rfl) (by decide) rfl (fun ls hl => ?_)
            refine lv_goto (tgt := 3) hx hb dX0_isRested_56 (by decide) ?_
            obtain rfl : x53 = nI (k + 1) := by rw [ex53]; exact nI_1 k
            exact ih (k + 1) (by omega) (by omega) (cp_no_s hno (by first | exact fun h => c20 h.1 | exact fun h => c31 h.2.1 | exact fun h => absurd h.2.2 (Int32.not_lt.mpr c48))) _ _ hI ls (lv_sub hl [0, 1, 2, 3, 4] rfl)
          · refine lv_aload_n hx hb dX0_isRested_34 rfl (lv_at hl 1 rfl) ?_
            refine cp_get (v := .ref (a 12)) hx hb hts inW hown hK hI (cp_hX _ _ _ _) rfl 16 (by decide) fl_dayOfService rfl rfl dX0_isRested_35 ?_
            refine lv_iload hx hb dX0_isRested_38 (lv_at hl 0 rfl) ?_
            refine cp_iald hx hb hK hI 0 (cp_aX_12 _ _ _ _) rfl (j := k) (cp_ix_n (by omega) (by decide)) dX0_isRested_40 ?_
            refine lv_iload_n hx hb dX0_isRested_41 rfl (lv_at hl 4 rfl) ?_
            refine lv_isub hx hb dX0_isRested_42 ?_
            refine va_mabs hx hb (hml.trans hl.1.symm) hown (hts _ (by decide +kernel)) (hts _ (by decide +kernel)) (hts _ (by decide +kernel)) (hts _ (by decide +kernel)) (Nat.le_of_ble_eq_true rfl) (Nat.le_of_ble_eq_true rfl) (Nat.le_of_ble_eq_true rfl) (Nat.le_of_ble_eq_true rfl) dX0_isRested_43 ?_
            refine lv_bipush (v := 28) hx hb dX0_isRested_46 (by decide) ?_
            refine lv_icmp_ge (tgt := 53) hx hb dX0_isRested_48 (by decide) (fun c48 => ?_) (fun c48 => ?_)
            · obtain ⟨x53, ex53⟩ : ∃ y9 : Int32, y9 = (nI k) + 1 := ⟨_, rfl⟩
              refine lv_iinc (v := x53) (lv' := [(4, .int x53), (0, .ref h), (1, .int x), (2, .int ch), (3, .int z)]) hx hb dX0_isRested_53 hl (k := 0) rfl (by rw [ex53]; rfl) (by decide) rfl (fun ls hl => ?_)
              refine lv_goto (tgt := 3) hx hb dX0_isRested_56 (by decide) ?_
              obtain rfl : x53 = nI (k + 1) := by rw [ex53]; exact nI_1 k
              exact ih (k + 1) (by omega) (by omega) (cp_no_s hno (by first | exact fun h => c20 h.1 | exact fun h => c31 h.2.1 | exact fun h => absurd h.2.2 (Int32.not_lt.mpr c48))) _ _ hI ls (lv_sub hl [0, 1, 2, 3, 4] rfl)
            · refine lv_iconst (v := 0) hx hb dX0_isRested_51 (by decide) ?_
              exact cp_retz (u := u) (v := 0) hx hb hr hlocks hK hI rfl ⟨(cp_bf (fun hh => hh k hk2 ⟨c20, c31, Int32.not_le.mp c48⟩)).symm, rfl⟩ dX0_isRested_52
  exact L3 ((cp_n u 3) + 1) 0 (Nat.lt_succ_self _) (Nat.zero_le _) (fun r hr => absurd hr (Nat.not_lt_zero _)) _ _ hI ls (lv_sub hl [0, 1, 2, 3, 4] rfl)
set_option maxHeartbeats 4000000 in
set_option maxRecDepth 100000 in
theorem c_X0_servicesWith (l : Launch) (D : va_G) (cI : ClassId) (h : Nat) (a : Nat → Nat) (u : cp_M) (x : Int32) (hN3 : cp_cn u 3 40) : ∀ sz : Nat, Met l yX0_servicesWith wsX0_servicesWith ({ frames := 0, cells := 0, slots := 0, locals := 0 } : Room) (va_Pc [.ref h, .int x] (cp_pre D [(cI, .int)] (cp_wX cI h a u) sz)) (va_Qi (fun (r : Int32) (u1 : cp_M) => r = nI (cp_with u x) ∧ u1 = u) (cp_at D [(cI, .int)] (va_A (cp_wX cI h a u) sz) (cp_wX cI h a)) (va_A (cp_wX cI h a u) sz)) 0 0 (va_A (cp_wX cI h a u) sz) := by
  refine cp_MetI (Qk := fun A => va_Qi (fun (r : Int32) (u1 : cp_M) => r = nI (cp_with u x) ∧ u1 = u) (cp_at D [(cI, .int)] A (cp_wX cI h a)) A) (by decide) rfl (Nat.le_of_ble_eq_true rfl) ?_
  intro p e s m args below meth c A hC hA hK hI ls hl
  obtain ⟨hx, hb, hml, hown, hts, hr, hlocks⟩ := hC
  have hown : s.vm.findClass RX0 = some m.cls := hown
  have hl : lv_has ls 4 [(0, .ref h), (1, .int x)] := hl
  have inW : ∀ w ∈ wsX00, w ∈ wsX0_servicesWith := by decide +kernel
  have fl_hymnOfService : Cond.fieldLink RX0 49 "CanticlePress" "hymnOfService" "[I" ∈ wsX0_servicesWith := by decide +kernel
  have fl_serviceCount : Cond.fieldLink RX0 131 "CanticlePress" "serviceCount" "I" ∈ wsX0_servicesWith := by decide +kernel
  refine lv_iconst (v := 0) hx hb dX0_servicesWith_0 (by decide) ?_
  refine lv_istore_n (lv' := [(2, .int 0), (0, .ref h), (1, .int x)]) hx hb dX0_servicesWith_1 rfl hl (by decide) rfl (fun ls hl => ?_)
  refine lv_iconst (v := 0) hx hb dX0_servicesWith_2 (by decide) ?_
  refine lv_istore_n (lv' := [(3, .int 0), (2, .int 0), (0, .ref h), (1, .int x)]) hx hb dX0_servicesWith_3 rfl hl (by decide) rfl (fun ls hl => ?_)
  have L4 : ∀ (n9 : Nat) (k : Nat) (hm9 : cp_n u 3 - k < n9) (hk : k ≤ cp_n u 3), ∀ (H : Heap) (locs : List Loc), cp_I D (cp_wX cI h a u) A s.heap H locs → ∀ ls, lv_has ls 4 [(3, .int (nI k)), (2, .int (nI (cp_cnt (fun k => u 13 k = x) k))), (0, .ref h), (1, .int x)] → W p l e ({ frames := 0, cells := 0, slots := 0, locals := 0 } : Room) s m args below meth c H locs 0 0 (MQ below (va_Qi (fun (r : Int32) (u1 : cp_M) => r = nI (cp_with u x) ∧ u1 = u) (cp_at D [(cI, .int)] A (cp_wX cI h a)) A) args s 0 0 A) (F0 m 4 ls []) := by
    intro n9
    induction n9 with
    | zero => intro k hm9; omega
    | succ n9 ih =>
      intro k hm9 hk H locs hI ls hl
      have hN9 := hN3.2.1
      refine lv_iload_n hx hb dX0_servicesWith_4 rfl (lv_at hl 0 rfl) ?_
      refine lv_aload_n hx hb dX0_servicesWith_5 rfl (lv_at hl 2 rfl) ?_
      refine cp_get (v := .int (u 14 3)) hx hb hts inW hown hK hI (cp_hX _ _ _ _) rfl 14 (by decide) fl_serviceCount rfl rfl dX0_servicesWith_6 ?_
      refine lv_icmp_ge (tgt := 31) hx hb dX0_servicesWith_9 (by decide) (fun c9 => ?_) (fun c9 => ?_)
      · have hk2 := cp_ex hN3 hk c9
        refine lv_iload_n hx hb dX0_servicesWith_31 rfl (lv_at hl 1 rfl) ?_
        exact cp_reti (u := u) (v := (nI (cp_cnt (fun k => u 13 k = x) k))) hx hb hr hlocks hK hI ⟨by rw [hk2]; rfl, rfl⟩ dX0_servicesWith_32
      · have hk2 := cp_in hN3 (by omega) c9
        refine lv_aload_n hx hb dX0_servicesWith_12 rfl (lv_at hl 2 rfl) ?_
        refine cp_get (v := .ref (a 13)) hx hb hts inW hown hK hI (cp_hX _ _ _ _) rfl 17 (by decide) fl_hymnOfService rfl rfl dX0_servicesWith_13 ?_
        refine lv_iload_n hx hb dX0_servicesWith_16 rfl (lv_at hl 0 rfl) ?_
        refine cp_iald hx hb hK hI 0 (cp_aX_13 _ _ _ _) rfl (j := k) (cp_ix_n (by omega) (by decide)) dX0_servicesWith_17 ?_
        refine lv_iload_n hx hb dX0_servicesWith_18 rfl (lv_at hl 3 rfl) ?_
        refine lv_icmp_ne (tgt := 25) hx hb dX0_servicesWith_19 (by decide) (fun c19 => ?_) (fun c19 => ?_)
        · obtain ⟨x25, ex25⟩ : ∃ y9 : Int32, y9 = (nI k) + 1 := ⟨_, rfl⟩
          refine lv_iinc (v := x25) (lv' := [(3, .int x25), (2, .int (nI (cp_cnt (fun k => u 13 k = x) k))), (0, .ref h), (1, .int x)]) hx hb dX0_servicesWith_25 hl (k := 0) rfl (by rw [ex25]; rfl) (by decide) rfl (fun ls hl => ?_)
          refine lv_goto (tgt := 4) hx hb dX0_servicesWith_28 (by decide) ?_
          rw [← cp_cnt_f (p := fun k => u 13 k = x) c19] at hl
          obtain rfl : x25 = nI (k + 1) := by rw [ex25]; exact nI_1 k
          exact ih (k + 1) (by omega) (by omega) _ _ hI ls (lv_sub hl [0, 1, 2, 3] rfl)
        · obtain ⟨x22, ex22⟩ : ∃ y9 : Int32, y9 = (nI (cp_cnt (fun k => u 13 k = x) k)) + 1 := ⟨_, rfl⟩
          refine lv_iinc (v := x22) (lv' := [(2, .int x22), (3, .int (nI k)), (0, .ref h), (1, .int x)]) hx hb dX0_servicesWith_22 hl (k := 1) rfl (by rw [ex22]; rfl) (by decide) rfl (fun ls hl => ?_)
          obtain ⟨x25, ex25⟩ : ∃ y9 : Int32, y9 = (nI k) + 1 := ⟨_, rfl⟩
          refine lv_iinc (v := x25) (lv' := [(3, .int x25), (2, .int x22), (0, .ref h), (1, .int x)]) hx hb dX0_servicesWith_25 hl (k := 1) rfl (by rw [ex25]; rfl) (by decide) rfl (fun ls hl => ?_)
          refine lv_goto (tgt := 4) hx hb dX0_servicesWith_28 (by decide) ?_
          obtain rfl : x22 = nI (cp_cnt (fun k => u 13 k = x) (k + 1)) := by rw [ex22, cp_cnt_t (p := fun k => u 13 k = x) c19]; exact nI_1 _
          obtain rfl : x25 = nI (k + 1) := by rw [ex25]; exact nI_1 k
          exact ih (k + 1) (by omega) (by omega) _ _ hI ls (lv_sub hl [0, 1, 2, 3] rfl)
  exact L4 ((cp_n u 3) + 1) 0 (Nat.lt_succ_self _) (Nat.zero_le _) _ _ hI ls (lv_sub hl [0, 1, 2, 3] rfl)
set_option maxHeartbeats 4000000 in
set_option maxRecDepth 100000 in
theorem c_X0_isSuitable (l : Launch) (D : va_G) (cI : ClassId) (h : Nat) (a : Nat → Nat) (u : cp_M) (g : Nat) (ch : Int32) (z : Int32) (hg : g < 16) (hN2 : cp_cn u 2 40) (hN3 : cp_cn u 3 40) : ∀ sz : Nat, Met l yX0_isSuitable wsX0_isSuitable ({ frames := 2, cells := 0, slots := 0, locals := 46 } : Room) (va_Pc [.ref h, .int (nI g), .int ch, .int z] (cp_pre D [(cI, .int)] (cp_wX cI h a u) sz)) (va_Qi (fun (r : Int32) (u1 : cp_M) => r = cp_b (cp_suit u ch g z) ∧ u1 = u) (cp_at D [(cI, .int)] (va_A (cp_wX cI h a u) sz) (cp_wX cI h a)) (va_A (cp_wX cI h a u) sz)) 0 0 (va_A (cp_wX cI h a u) sz) := by
  refine cp_MetI (Qk := fun A => va_Qi (fun (r : Int32) (u1 : cp_M) => r = cp_b (cp_suit u ch g z) ∧ u1 = u) (cp_at D [(cI, .int)] A (cp_wX cI h a)) A) (by decide) rfl (Nat.le_of_ble_eq_true rfl) ?_
  intro p e s m args below meth c A hC hA hK hI ls hl
  obtain ⟨hx, hb, hml, hown, hts, hr, hlocks⟩ := hC
  have hown : s.vm.findClass RX0 = some m.cls := hown
  have hl : lv_has ls 4 [(0, .ref h), (1, .int (nI g)), (2, .int ch), (3, .int z)] := hl
  have inW : ∀ w ∈ wsX00, w ∈ wsX0_isSuitable := by decide +kernel
  have fl_choirsOfHymn : Cond.fieldLink RX0 25 "CanticlePress" "choirsOfHymn" "[I" ∈ wsX0_isSuitable := by decide +kernel
  have fl_seasonsOfHymn : Cond.fieldLink RX0 13 "CanticlePress" "seasonsOfHymn" "[I" ∈ wsX0_isSuitable := by decide +kernel
  refine lv_iload_n hx hb dX0_isSuitable_0 rfl (lv_at hl 2 rfl) ?_
  refine lv_aload_n hx hb dX0_isSuitable_1 rfl (lv_at hl 0 rfl) ?_
  refine cp_get (v := .ref (a 5)) hx hb hts inW hown hK hI (cp_hX _ _ _ _) rfl 7 (by decide) fl_choirsOfHymn rfl rfl dX0_isSuitable_2 ?_
  refine lv_iload_n hx hb dX0_isSuitable_5 rfl (lv_at hl 1 rfl) ?_
  refine cp_iald hx hb hK hI 0 (cp_aX_5 _ _ _ _) rfl (j := g) (cp_ix_n (by omega) (by decide)) dX0_isSuitable_6 ?_
  refine lv_i2l (v := (u 5 g).toInt64) hx hb dX0_isSuitable_7 rfl ?_
  refine cp_cSi0 (As := [.int ch, .long ((u 5 g).toInt64)]) (rest := []) ⟨hx, hb, hml, hown, hts⟩ ((c_X0_isInSet l ch ((u 5 g).toInt64)) D) (va_cwS 2 hts gX0_isSuitable_X0_isInSet rfl rfl rfl (by decide +kernel) ⟨Nat.le_of_ble_eq_true rfl, Nat.le_of_ble_eq_true rfl⟩) hK hI hA rfl hl.1 rfl (Nat.le_of_ble_eq_true rfl) dX0_isSuitable_8 ⟨Nat.le_refl _, Nat.le_refl _⟩ (fun r8 u8 H locs hp8 hI => ?_)
  obtain rfl := hp8
  refine lv_if_eq (tgt := 55) hx hb dX0_isSuitable_11 (by decide) (fun c11 => ?_) (fun c11 => ?_)
  · have c11 := cp_b0.mp c11
    refine lv_iconst (v := 0) hx hb dX0_isSuitable_55 (by decide) ?_
    exact cp_retz (u := u) (v := 0) hx hb hr hlocks hK hI rfl ⟨(cp_bf (by first | exact fun h => c11 h.1 | exact fun h => c28 h.2.1 | exact fun h => c38 h.2.2.1 | exact fun h => c48 h.2.2.2)).symm, rfl⟩ dX0_isSuitable_56
  · have c11 := Classical.not_not.mp (fun h9 => c11 (cp_b0.mpr h9))
    refine lv_iload_n hx hb dX0_isSuitable_14 rfl (lv_at hl 3 rfl) ?_
    refine cp_cSi0 (As := [.int z]) (rest := []) ⟨hx, hb, hml, hown, hts⟩ ((c_X0_seasonOf l z) D) (va_cwS 1 hts gX0_isSuitable_X0_seasonOf rfl rfl rfl (by decide +kernel) ⟨Nat.le_of_ble_eq_true rfl, Nat.le_of_ble_eq_true rfl⟩) hK hI hA rfl hl.1 rfl (Nat.le_of_ble_eq_true rfl) dX0_isSuitable_15 ⟨Nat.le_refl _, Nat.le_refl _⟩ (fun r15 u15 H locs hp15 hI => ?_)
    obtain rfl := hp15
    refine lv_aload_n hx hb dX0_isSuitable_18 rfl (lv_at hl 0 rfl) ?_
    refine cp_get (v := .ref (a 1)) hx hb hts inW hown hK hI (cp_hX _ _ _ _) rfl 3 (by decide) fl_seasonsOfHymn rfl rfl dX0_isSuitable_19 ?_
    refine lv_iload_n hx hb dX0_isSuitable_22 rfl (lv_at hl 1 rfl) ?_
    refine cp_iald hx hb hK hI 0 (cp_aX_1 _ _ _ _) rfl (j := g) (cp_ix_n (by omega) (by decide)) dX0_isSuitable_23 ?_
    refine lv_i2l (v := (u 1 g).toInt64) hx hb dX0_isSuitable_24 rfl ?_
    refine cp_cSi0 (As := [.int (cp_season z), .long ((u 1 g).toInt64)]) (rest := []) ⟨hx, hb, hml, hown, hts⟩ ((c_X0_isInSet l (cp_season z) ((u 1 g).toInt64)) D) (va_cwS 2 hts gX0_isSuitable_X0_isInSet rfl rfl rfl (by decide +kernel) ⟨Nat.le_of_ble_eq_true rfl, Nat.le_of_ble_eq_true rfl⟩) hK hI hA rfl hl.1 rfl (Nat.le_of_ble_eq_true rfl) dX0_isSuitable_25 ⟨Nat.le_refl _, Nat.le_refl _⟩ (fun r25 u25 H locs hp25 hI => ?_)
    obtain rfl := hp25
    refine lv_if_eq (tgt := 55) hx hb dX0_isSuitable_28 (by decide) (fun c28 => ?_) (fun c28 => ?_)
    · have c28 := cp_b0.mp c28
      refine lv_iconst (v := 0) hx hb dX0_isSuitable_55 (by decide) ?_
      exact cp_retz (u := u) (v := 0) hx hb hr hlocks hK hI rfl ⟨(cp_bf (by first | exact fun h => c11 h.1 | exact fun h => c28 h.2.1 | exact fun h => c38 h.2.2.1 | exact fun h => c48 h.2.2.2)).symm, rfl⟩ dX0_isSuitable_56
    · have c28 := Classical.not_not.mp (fun h9 => c28 (cp_b0.mpr h9))
      refine lv_aload_n hx hb dX0_isSuitable_31 rfl (lv_at hl 0 rfl) ?_
      refine lv_iload_n hx hb dX0_isSuitable_32 rfl (lv_at hl 1 rfl) ?_
      refine lv_iconst (v := 0) hx hb dX0_isSuitable_33 (by decide) ?_
      refine lv_iload_n hx hb dX0_isSuitable_34 rfl (lv_at hl 3 rfl) ?_
      refine cp_cVi0 (wc := cp_wX cI h a) (u := u) (As := [.int (nI g), .int 0, .int z]) (rest := []) ⟨hx, hb, hml, hown, hts⟩ (c_X0_isAllowed l D cI h a u (nI g) 0 z hN2) (cwV 3 hts gX0_isSuitable_X0_isAllowed rfl rfl rfl (by decide +kernel) ⟨Nat.le_of_ble_eq_true rfl, Nat.le_of_ble_eq_true rfl⟩) hK hI hA ⟨_, cp_hX _ _ _ _⟩ rfl rfl rfl hl.1 rfl (Nat.le_of_ble_eq_true rfl) dX0_isSuitable_35 ⟨Nat.le_refl _, Nat.le_refl _⟩ (fun r35 u35 H locs hp35 hI => ?_)
      obtain ⟨rfl, e9⟩ := hp35
      rw [e9] at hI
      refine lv_if_eq (tgt := 55) hx hb dX0_isSuitable_38 (by decide) (fun c38 => ?_) (fun c38 => ?_)
      · have c38 := cp_b0.mp c38
        refine lv_iconst (v := 0) hx hb dX0_isSuitable_55 (by decide) ?_
        exact cp_retz (u := u) (v := 0) hx hb hr hlocks hK hI rfl ⟨(cp_bf (by first | exact fun h => c11 h.1 | exact fun h => c28 h.2.1 | exact fun h => c38 h.2.2.1 | exact fun h => c48 h.2.2.2)).symm, rfl⟩ dX0_isSuitable_56
      · have c38 := Classical.not_not.mp (fun h9 => c38 (cp_b0.mpr h9))
        refine lv_aload_n hx hb dX0_isSuitable_41 rfl (lv_at hl 0 rfl) ?_
        refine lv_iload_n hx hb dX0_isSuitable_42 rfl (lv_at hl 1 rfl) ?_
        refine lv_iload_n hx hb dX0_isSuitable_43 rfl (lv_at hl 2 rfl) ?_
        refine lv_iload_n hx hb dX0_isSuitable_44 rfl (lv_at hl 3 rfl) ?_
        refine cp_cVi0 (wc := cp_wX cI h a) (u := u) (As := [.int (nI g), .int ch, .int z]) (rest := []) ⟨hx, hb, hml, hown, hts⟩ (c_X0_isRested l D cI h a u (nI g) ch z hN3) (cwV 3 hts gX0_isSuitable_X0_isRested rfl rfl rfl (by decide +kernel) ⟨Nat.le_of_ble_eq_true rfl, Nat.le_of_ble_eq_true rfl⟩) hK hI hA ⟨_, cp_hX _ _ _ _⟩ rfl rfl rfl hl.1 rfl (Nat.le_of_ble_eq_true rfl) dX0_isSuitable_45 ⟨Nat.le_refl _, Nat.le_refl _⟩ (fun r45 u45 H locs hp45 hI => ?_)
        obtain ⟨rfl, e9⟩ := hp45
        rw [e9] at hI
        refine lv_if_eq (tgt := 55) hx hb dX0_isSuitable_48 (by decide) (fun c48 => ?_) (fun c48 => ?_)
        · have c48 := cp_b0.mp c48
          refine lv_iconst (v := 0) hx hb dX0_isSuitable_55 (by decide) ?_
          exact cp_retz (u := u) (v := 0) hx hb hr hlocks hK hI rfl ⟨(cp_bf (by first | exact fun h => c11 h.1 | exact fun h => c28 h.2.1 | exact fun h => c38 h.2.2.1 | exact fun h => c48 h.2.2.2)).symm, rfl⟩ dX0_isSuitable_56
        · have c48 := Classical.not_not.mp (fun h9 => c48 (cp_b0.mpr h9))
          refine lv_iconst (v := 1) hx hb dX0_isSuitable_51 (by decide) ?_
          refine lv_goto (tgt := 56) hx hb dX0_isSuitable_52 (by decide) ?_
          exact cp_retz (u := u) (v := 1) hx hb hr hlocks hK hI rfl ⟨(cp_bt ⟨c11, c28, c38, c48⟩).symm, rfl⟩ dX0_isSuitable_56
set_option maxHeartbeats 4000000 in
set_option maxRecDepth 100000 in
theorem c_X0_bestHymn (l : Launch) (D : va_G) (cI : ClassId) (h : Nat) (a : Nat → Nat) (u : cp_M) (ch : Int32) (z : Int32) (hN1 : cp_cn u 1 16) (hN2 : cp_cn u 2 40) (hN3 : cp_cn u 3 40) : ∀ sz : Nat, Met l yX0_bestHymn wsX0_bestHymn ({ frames := 3, cells := 0, slots := 0, locals := 69 } : Room) (va_Pc [.ref h, .int ch, .int z] (cp_pre D [(cI, .int)] (cp_wX cI h a u) sz)) (va_Qi (fun (r : Int32) (u1 : cp_M) => r = cp_o (cp_best u ch z) ∧ u1 = u) (cp_at D [(cI, .int)] (va_A (cp_wX cI h a u) sz) (cp_wX cI h a)) (va_A (cp_wX cI h a u) sz)) 0 0 (va_A (cp_wX cI h a u) sz) := by
  refine cp_MetI (Qk := fun A => va_Qi (fun (r : Int32) (u1 : cp_M) => r = cp_o (cp_best u ch z) ∧ u1 = u) (cp_at D [(cI, .int)] A (cp_wX cI h a)) A) (by decide) rfl (Nat.le_of_ble_eq_true rfl) ?_
  intro p e s m args below meth c A hC hA hK hI ls hl
  obtain ⟨hx, hb, hml, hown, hts, hr, hlocks⟩ := hC
  have hown : s.vm.findClass RX0 = some m.cls := hown
  have hl : lv_has ls 7 [(0, .ref h), (1, .int ch), (2, .int z)] := hl
  have inW : ∀ w ∈ wsX00, w ∈ wsX0_bestHymn := by decide +kernel
  have fl_hymnCount : Cond.fieldLink RX0 63 "CanticlePress" "hymnCount" "I" ∈ wsX0_bestHymn := by decide +kernel
  refine lv_iconst (v := (-1)) hx hb dX0_bestHymn_0 (by decide) ?_
  refine lv_istore_n (lv' := [(3, .int (-1)), (0, .ref h), (1, .int ch), (2, .int z)]) hx hb dX0_bestHymn_1 rfl hl (by decide) rfl (fun ls hl => ?_)
  refine lv_iconst (v := 0) hx hb dX0_bestHymn_2 (by decide) ?_
  refine lv_istore (lv' := [(4, .int 0), (3, .int (-1)), (0, .ref h), (1, .int ch), (2, .int z)]) hx hb dX0_bestHymn_3 hl (by decide) rfl (fun ls hl => ?_)
  refine lv_iconst (v := 0) hx hb dX0_bestHymn_5 (by decide) ?_
  refine lv_istore (lv' := [(5, .int 0), (4, .int 0), (3, .int (-1)), (0, .ref h), (1, .int ch), (2, .int z)]) hx hb dX0_bestHymn_6 hl (by decide) rfl (fun ls hl => ?_)
  have L8 : ∀ (n9 : Nat) (k : Nat) (y : Int32) (hm9 : cp_n u 1 - k < n9) (hk : k ≤ cp_n u 1) (hy : ∀ b, cp_bst (fun g => cp_suit u ch g z) (fun g => cp_with u (nI g)) k = some b → y = nI (cp_with u (nI b))), ∀ (H : Heap) (locs : List Loc), cp_I D (cp_wX cI h a u) A s.heap H locs → ∀ ls, lv_has ls 7 [(5, .int (nI k)), (4, .int y), (3, .int (cp_o (cp_bst (fun g => cp_suit u ch g z) (fun g => cp_with u (nI g)) k))), (0, .ref h), (1, .int ch), (2, .int z)] → W p l e ({ frames := 3, cells := 0, slots := 0, locals := 69 } : Room) s m args below meth c H locs 0 0 (MQ below (va_Qi (fun (r : Int32) (u1 : cp_M) => r = cp_o (cp_best u ch z) ∧ u1 = u) (cp_at D [(cI, .int)] A (cp_wX cI h a)) A) args s 0 0 A) (F0 m 8 ls []) := by
    intro n9
    induction n9 with
    | zero => intro k y hm9; omega
    | succ n9 ih =>
      intro k y hm9 hk hy H locs hI ls hl
      have hN9 := hN1.2.1
      refine lv_iload hx hb dX0_bestHymn_8 (lv_at hl 0 rfl) ?_
      refine lv_aload_n hx hb dX0_bestHymn_10 rfl (lv_at hl 3 rfl) ?_
      refine cp_get (v := .int (u 14 1)) hx hb hts inW hown hK hI (cp_hX _ _ _ _) rfl 1 (by decide) fl_hymnCount rfl rfl dX0_bestHymn_11 ?_
      refine lv_icmp_ge (tgt := 61) hx hb dX0_bestHymn_14 (by decide) (fun c14 => ?_) (fun c14 => ?_)
      · have hk2 := cp_ex hN1 hk c14
        refine lv_iload_n hx hb dX0_bestHymn_61 rfl (lv_at hl 2 rfl) ?_
        exact cp_reti (u := u) (v := (cp_o (cp_bst (fun g => cp_suit u ch g z) (fun g => cp_with u (nI g)) k))) hx hb hr hlocks hK hI ⟨by rw [hk2]; rfl, rfl⟩ dX0_bestHymn_62
      · have hk2 := cp_in hN1 (by omega) c14
        refine lv_aload_n hx hb dX0_bestHymn_17 rfl (lv_at hl 3 rfl) ?_
        refine lv_iload hx hb dX0_bestHymn_18 (lv_at hl 0 rfl) ?_
        refine lv_iload_n hx hb dX0_bestHymn_20 rfl (lv_at hl 4 rfl) ?_
        refine lv_iload_n hx hb dX0_bestHymn_21 rfl (lv_at hl 5 rfl) ?_
        refine cp_cVi0 (wc := cp_wX cI h a) (u := u) (As := [.int (nI k), .int ch, .int z]) (rest := []) ⟨hx, hb, hml, hown, hts⟩ (c_X0_isSuitable l D cI h a u k ch z (by omega) hN2 hN3) (cwV 3 hts gX0_bestHymn_X0_isSuitable rfl rfl rfl (by decide +kernel) ⟨Nat.le_of_ble_eq_true rfl, Nat.le_of_ble_eq_true rfl⟩) hK hI hA ⟨_, cp_hX _ _ _ _⟩ rfl rfl rfl hl.1 rfl (Nat.le_of_ble_eq_true rfl) dX0_bestHymn_22 ⟨Nat.le_refl _, Nat.le_refl _⟩ (fun r22 u22 H locs hp22 hI => ?_)
        obtain ⟨rfl, e9⟩ := hp22
        rw [e9] at hI
        refine lv_if_eq (tgt := 55) hx hb dX0_bestHymn_25 (by decide) (fun c25 => ?_) (fun c25 => ?_)
        · have c25 := cp_b0.mp c25
          obtain ⟨x55, ex55⟩ : ∃ y9 : Int32, y9 = (nI k) + 1 := ⟨_, rfl⟩
          refine lv_iinc (v := x55) (lv' := [(5, .int x55), (4, .int y), (3, .int (cp_o (cp_bst (fun g => cp_suit u ch g z) (fun g => cp_with u (nI g)) k))), (0, .ref h), (1, .int ch), (2, .int z)]) hx hb dX0_bestHymn_55 hl (k := 0) rfl (by rw [ex55]; rfl) (by decide) rfl (fun ls hl => ?_)
          refine lv_goto (tgt := 8) hx hb dX0_bestHymn_58 (by decide) ?_
          have e9 : cp_bst (fun g => cp_suit u ch g z) (fun g => cp_with u (nI g)) (k + 1) = cp_bst (fun g => cp_suit u ch g z) (fun g => cp_with u (nI g)) k := cp_bst_f (fun hh => c25 hh.1)
          obtain rfl : x55 = nI (k + 1) := by rw [ex55]; exact nI_1 k
          have hl : lv_has ls 7 [(5, .int (nI (k + 1))), (4, .int y), (3, .int (cp_o (cp_bst (fun g => cp_suit u ch g z) (fun g => cp_with u (nI g)) (k + 1)))), (0, .ref h), (1, .int ch), (2, .int z)] := by rw [e9]; exact hl
          exact ih (k + 1) y (by omega) (by omega) (fun b hb => hy b (e9 ▸ hb)) _ _ hI ls (lv_sub hl [0, 1, 2, 3, 4, 5] rfl)
        · have c25 := Classical.not_not.mp (fun h9 => c25 (cp_b0.mpr h9))
          refine lv_aload_n hx hb dX0_bestHymn_28 rfl (lv_at hl 3 rfl) ?_
          refine lv_iload hx hb dX0_bestHymn_29 (lv_at hl 0 rfl) ?_
          refine cp_cVi0 (wc := cp_wX cI h a) (u := u) (As := [.int (nI k)]) (rest := []) ⟨hx, hb, hml, hown, hts⟩ (c_X0_servicesWith l D cI h a u (nI k) hN3) (cwV 1 hts gX0_bestHymn_X0_servicesWith rfl rfl rfl (by decide +kernel) ⟨Nat.le_of_ble_eq_true rfl, Nat.le_of_ble_eq_true rfl⟩) hK hI hA ⟨_, cp_hX _ _ _ _⟩ rfl rfl rfl hl.1 rfl (Nat.le_of_ble_eq_true rfl) dX0_bestHymn_31 ⟨Nat.le_refl _, Nat.le_refl _⟩ (fun r31 u31 H locs hp31 hI => ?_)
          obtain ⟨rfl, e9⟩ := hp31
          rw [e9] at hI
          refine lv_topi (fun x34 ex34 => ?_)
          refine lv_istore (lv' := [(6, .int x34), (5, .int (nI k)), (4, .int y), (3, .int (cp_o (cp_bst (fun g => cp_suit u ch g z) (fun g => cp_with u (nI g)) k))), (0, .ref h), (1, .int ch), (2, .int z)]) hx hb dX0_bestHymn_34 hl (by decide) rfl (fun ls hl => ?_)
          refine lv_iload_n hx hb dX0_bestHymn_36 rfl (lv_at hl 3 rfl) ?_
          refine lv_iconst (v := (-1)) hx hb dX0_bestHymn_37 (by decide) ?_
          refine lv_icmp_eq (tgt := 48) hx hb dX0_bestHymn_38 (by decide) (fun c38 => ?_) (fun c38 => ?_)
          · refine lv_iload hx hb dX0_bestHymn_48 (lv_at hl 1 rfl) ?_
            refine lv_istore_n (lv' := [(3, .int (nI k)), (6, .int x34), (5, .int (nI k)), (4, .int y), (0, .ref h), (1, .int ch), (2, .int z)]) hx hb dX0_bestHymn_50 rfl hl (by decide) rfl (fun ls hl => ?_)
            refine lv_iload hx hb dX0_bestHymn_51 (lv_at hl 1 rfl) ?_
            refine lv_istore (lv' := [(4, .int x34), (3, .int (nI k)), (6, .int x34), (5, .int (nI k)), (0, .ref h), (1, .int ch), (2, .int z)]) hx hb dX0_bestHymn_53 hl (by decide) rfl (fun ls hl => ?_)
            obtain ⟨x55, ex55⟩ : ∃ y9 : Int32, y9 = (nI k) + 1 := ⟨_, rfl⟩
            refine lv_iinc (v := x55) (lv' := [(5, .int x55), (4, .int x34), (3, .int (nI k)), (6, .int x34), (0, .ref h), (1, .int ch), (2, .int z)]) hx hb dX0_bestHymn_55 hl (k := 3) rfl (by rw [ex55]; rfl) (by decide) rfl (fun ls hl => ?_)
            refine lv_goto (tgt := 8) hx hb dX0_bestHymn_58 (by decide) ?_
            have e9 : cp_bst (fun g => cp_suit u ch g z) (fun g => cp_with u (nI g)) (k + 1) = some k := cp_bst_t ⟨c25, fun b hb => by first | (rw [hb] at c38; exact absurd c38 (cp_ne_m1 (by have := cp_bst_lt hb; omega))) | (have h45 := Int32.not_le.mp c45; rw [hy b hb, ex34, nI_ltI (by have := cp_with_le hN3 (nI k); omega) (by have := cp_with_le hN3 (nI b); omega)] at h45; exact h45)⟩
            obtain rfl : x55 = nI (k + 1) := by rw [ex55]; exact nI_1 k
            have hl : lv_has ls 7 [(5, .int (nI (k + 1))), (4, .int x34), (3, .int (cp_o (cp_bst (fun g => cp_suit u ch g z) (fun g => cp_with u (nI g)) (k + 1)))), (6, .int x34), (0, .ref h), (1, .int ch), (2, .int z)] := by rw [e9]; exact hl
            exact ih (k + 1) x34 (by omega) (by omega) (fun b hb => by rw [e9] at hb; cases hb; exact ex34) _ _ hI ls (lv_sub hl [0, 1, 2, 4, 5, 6] rfl)
          · refine lv_iload hx hb dX0_bestHymn_41 (lv_at hl 0 rfl) ?_
            refine lv_iload hx hb dX0_bestHymn_43 (lv_at hl 2 rfl) ?_
            refine lv_icmp_ge (tgt := 55) hx hb dX0_bestHymn_45 (by decide) (fun c45 => ?_) (fun c45 => ?_)
            · obtain ⟨x55, ex55⟩ : ∃ y9 : Int32, y9 = (nI k) + 1 := ⟨_, rfl⟩
              refine lv_iinc (v := x55) (lv' := [(5, .int x55), (6, .int x34), (4, .int y), (3, .int (cp_o (cp_bst (fun g => cp_suit u ch g z) (fun g => cp_with u (nI g)) k))), (0, .ref h), (1, .int ch), (2, .int z)]) hx hb dX0_bestHymn_55 hl (k := 1) rfl (by rw [ex55]; rfl) (by decide) rfl (fun ls hl => ?_)
              refine lv_goto (tgt := 8) hx hb dX0_bestHymn_58 (by decide) ?_
              have e9 : cp_bst (fun g => cp_suit u ch g z) (fun g => cp_with u (nI g)) (k + 1) = cp_bst (fun g => cp_suit u ch g z) (fun g => cp_with u (nI g)) k := cp_bst_f (fun hh => by
                rcases hb : cp_bst (fun g => cp_suit u ch g z) (fun g => cp_with u (nI g)) k with _ | b
                · exact c38 (by rw [hb]; rfl)
                · have h9 := hh.2 b hb
                  rw [hy b hb, ex34, nI_leI (by have := cp_with_le hN3 (nI b); omega) (by have := cp_with_le hN3 (nI k); omega)] at c45
                  omega)
              obtain rfl : x55 = nI (k + 1) := by rw [ex55]; exact nI_1 k
              have hl : lv_has ls 7 [(5, .int (nI (k + 1))), (6, .int x34), (4, .int y), (3, .int (cp_o (cp_bst (fun g => cp_suit u ch g z) (fun g => cp_with u (nI g)) (k + 1)))), (0, .ref h), (1, .int ch), (2, .int z)] := by rw [e9]; exact hl
              exact ih (k + 1) y (by omega) (by omega) (fun b hb => hy b (e9 ▸ hb)) _ _ hI ls (lv_sub hl [0, 2, 3, 4, 5, 6] rfl)
            · refine lv_iload hx hb dX0_bestHymn_48 (lv_at hl 1 rfl) ?_
              refine lv_istore_n (lv' := [(3, .int (nI k)), (6, .int x34), (5, .int (nI k)), (4, .int y), (0, .ref h), (1, .int ch), (2, .int z)]) hx hb dX0_bestHymn_50 rfl hl (by decide) rfl (fun ls hl => ?_)
              refine lv_iload hx hb dX0_bestHymn_51 (lv_at hl 1 rfl) ?_
              refine lv_istore (lv' := [(4, .int x34), (3, .int (nI k)), (6, .int x34), (5, .int (nI k)), (0, .ref h), (1, .int ch), (2, .int z)]) hx hb dX0_bestHymn_53 hl (by decide) rfl (fun ls hl => ?_)
              obtain ⟨x55, ex55⟩ : ∃ y9 : Int32, y9 = (nI k) + 1 := ⟨_, rfl⟩
              refine lv_iinc (v := x55) (lv' := [(5, .int x55), (4, .int x34), (3, .int (nI k)), (6, .int x34), (0, .ref h), (1, .int ch), (2, .int z)]) hx hb dX0_bestHymn_55 hl (k := 3) rfl (by rw [ex55]; rfl) (by decide) rfl (fun ls hl => ?_)
              refine lv_goto (tgt := 8) hx hb dX0_bestHymn_58 (by decide) ?_
              have e9 : cp_bst (fun g => cp_suit u ch g z) (fun g => cp_with u (nI g)) (k + 1) = some k := cp_bst_t ⟨c25, fun b hb => by first | (rw [hb] at c38; exact absurd c38 (cp_ne_m1 (by have := cp_bst_lt hb; omega))) | (have h45 := Int32.not_le.mp c45; rw [hy b hb, ex34, nI_ltI (by have := cp_with_le hN3 (nI k); omega) (by have := cp_with_le hN3 (nI b); omega)] at h45; exact h45)⟩
              obtain rfl : x55 = nI (k + 1) := by rw [ex55]; exact nI_1 k
              have hl : lv_has ls 7 [(5, .int (nI (k + 1))), (4, .int x34), (3, .int (cp_o (cp_bst (fun g => cp_suit u ch g z) (fun g => cp_with u (nI g)) (k + 1)))), (6, .int x34), (0, .ref h), (1, .int ch), (2, .int z)] := by rw [e9]; exact hl
              exact ih (k + 1) x34 (by omega) (by omega) (fun b hb => by rw [e9] at hb; cases hb; exact ex34) _ _ hI ls (lv_sub hl [0, 1, 2, 4, 5, 6] rfl)
  exact L8 ((cp_n u 1) + 1) 0 0 (Nat.lt_succ_self _) (Nat.zero_le _) (fun b hb => nomatch hb) _ _ hI ls (lv_sub hl [0, 1, 2, 3, 4, 5] rfl)
set_option maxHeartbeats 4000000 in
set_option maxRecDepth 100000 in
theorem c_X0_isHeldIn (l : Launch) (D : va_G) (cI : ClassId) (h : Nat) (a : Nat → Nat) (u : cp_M) (g : Nat) (y : Int32) (hg : g < 40) : ∀ sz : Nat, Met l yX0_isHeldIn wsX0_isHeldIn ({ frames := 1, cells := 0, slots := 0, locals := 20 } : Room) (va_Pc [.ref h, .int (nI g), .int y] (cp_pre D [(cI, .int)] (cp_wX cI h a u) sz)) (va_Qi (fun (r : Int32) (u1 : cp_M) => r = cp_b (cp_held u g y) ∧ u1 = u) (cp_at D [(cI, .int)] (va_A (cp_wX cI h a u) sz) (cp_wX cI h a)) (va_A (cp_wX cI h a u) sz)) 0 0 (va_A (cp_wX cI h a u) sz) := by
  refine cp_MetI (Qk := fun A => va_Qi (fun (r : Int32) (u1 : cp_M) => r = cp_b (cp_held u g y) ∧ u1 = u) (cp_at D [(cI, .int)] A (cp_wX cI h a)) A) (by decide) rfl (Nat.le_of_ble_eq_true rfl) ?_
  intro p e s m args below meth c A hC hA hK hI ls hl
  obtain ⟨hx, hb, hml, hown, hts, hr, hlocks⟩ := hC
  have hown : s.vm.findClass RX0 = some m.cls := hown
  have hl : lv_has ls 4 [(0, .ref h), (1, .int (nI g)), (2, .int y)] := hl
  have inW : ∀ w ∈ wsX00, w ∈ wsX0_isHeldIn := by decide +kernel
  have fl_dayOfService : Cond.fieldLink RX0 46 "CanticlePress" "dayOfService" "[I" ∈ wsX0_isHeldIn := by decide +kernel
  have fl_today : Cond.fieldLink RX0 103 "CanticlePress" "today" "I" ∈ wsX0_isHeldIn := by decide +kernel
  refine lv_aload_n hx hb dX0_isHeldIn_0 rfl (lv_at hl 0 rfl) ?_
  refine cp_get (v := .ref (a 12)) hx hb hts inW hown hK hI (cp_hX _ _ _ _) rfl 16 (by decide) fl_dayOfService rfl rfl dX0_isHeldIn_1 ?_
  refine lv_iload_n hx hb dX0_isHeldIn_4 rfl (lv_at hl 1 rfl) ?_
  refine cp_iald hx hb hK hI 0 (cp_aX_12 _ _ _ _) rfl (j := g) (cp_ix_n (by omega) (by decide)) dX0_isHeldIn_5 ?_
  refine lv_topi (fun x6 ex6 => ?_)
  refine lv_istore_n (lv' := [(3, .int x6), (0, .ref h), (1, .int (nI g)), (2, .int y)]) hx hb dX0_isHeldIn_6 rfl hl (by decide) rfl (fun ls hl => ?_)
  obtain rfl := ex6
  refine lv_iload_n hx hb dX0_isHeldIn_7 rfl (lv_at hl 0 rfl) ?_
  refine lv_aload_n hx hb dX0_isHeldIn_8 rfl (lv_at hl 1 rfl) ?_
  refine cp_get (v := .int (u 14 0)) hx hb hts inW hown hK hI (cp_hX _ _ _ _) rfl 0 (by decide) fl_today rfl rfl dX0_isHeldIn_9 ?_
  refine lv_icmp_gt (tgt := 27) hx hb dX0_isHeldIn_12 (by decide) (fun c12 => ?_) (fun c12 => ?_)
  · refine lv_iconst (v := 0) hx hb dX0_isHeldIn_27 (by decide) ?_
    exact cp_retz (u := u) (v := 0) hx hb hr hlocks hK hI rfl ⟨(cp_bf (by first | exact fun h => absurd h.1 (Int32.not_le.mpr c12) | exact fun h => c20 h.2)).symm, rfl⟩ dX0_isHeldIn_28
  · refine lv_iload_n hx hb dX0_isHeldIn_15 rfl (lv_at hl 0 rfl) ?_
    refine cp_cSi0 (As := [.int (u 12 g)]) (rest := []) ⟨hx, hb, hml, hown, hts⟩ ((c_X0_yearOf l (u 12 g)) D) (va_cwS 1 hts gX0_isHeldIn_X0_yearOf rfl rfl rfl (by decide +kernel) ⟨Nat.le_of_ble_eq_true rfl, Nat.le_of_ble_eq_true rfl⟩) hK hI hA rfl hl.1 rfl (Nat.le_of_ble_eq_true rfl) dX0_isHeldIn_16 ⟨Nat.le_refl _, Nat.le_refl _⟩ (fun r16 u16 H locs hp16 hI => ?_)
    obtain rfl := hp16
    refine lv_iload_n hx hb dX0_isHeldIn_19 rfl (lv_at hl 3 rfl) ?_
    refine lv_icmp_ne (tgt := 27) hx hb dX0_isHeldIn_20 (by decide) (fun c20 => ?_) (fun c20 => ?_)
    · refine lv_iconst (v := 0) hx hb dX0_isHeldIn_27 (by decide) ?_
      exact cp_retz (u := u) (v := 0) hx hb hr hlocks hK hI rfl ⟨(cp_bf (by first | exact fun h => absurd h.1 (Int32.not_le.mpr c12) | exact fun h => c20 h.2)).symm, rfl⟩ dX0_isHeldIn_28
    · refine lv_iconst (v := 1) hx hb dX0_isHeldIn_23 (by decide) ?_
      refine lv_goto (tgt := 28) hx hb dX0_isHeldIn_24 (by decide) ?_
      exact cp_retz (u := u) (v := 1) hx hb hr hlocks hK hI rfl ⟨(cp_bt ⟨Int32.not_lt.mp c12, c20⟩).symm, rfl⟩ dX0_isHeldIn_28
set_option maxHeartbeats 4000000 in
set_option maxRecDepth 100000 in
theorem c_X0_timesSung (l : Launch) (D : va_G) (cI : ClassId) (h : Nat) (a : Nat → Nat) (u : cp_M) (x : Int32) (y : Int32) (hN3 : cp_cn u 3 40) : ∀ sz : Nat, Met l yX0_timesSung wsX0_timesSung ({ frames := 2, cells := 0, slots := 0, locals := 43 } : Room) (va_Pc [.ref h, .int x, .int y] (cp_pre D [(cI, .int)] (cp_wX cI h a u) sz)) (va_Qi (fun (r : Int32) (u1 : cp_M) => r = nI (cp_times u x y) ∧ u1 = u) (cp_at D [(cI, .int)] (va_A (cp_wX cI h a u) sz) (cp_wX cI h a)) (va_A (cp_wX cI h a u) sz)) 0 0 (va_A (cp_wX cI h a u) sz) := by
  refine cp_MetI (Qk := fun A => va_Qi (fun (r : Int32) (u1 : cp_M) => r = nI (cp_times u x y) ∧ u1 = u) (cp_at D [(cI, .int)] A (cp_wX cI h a)) A) (by decide) rfl (Nat.le_of_ble_eq_true rfl) ?_
  intro p e s m args below meth c A hC hA hK hI ls hl
  obtain ⟨hx, hb, hml, hown, hts, hr, hlocks⟩ := hC
  have hown : s.vm.findClass RX0 = some m.cls := hown
  have hl : lv_has ls 5 [(0, .ref h), (1, .int x), (2, .int y)] := hl
  have inW : ∀ w ∈ wsX00, w ∈ wsX0_timesSung := by decide +kernel
  have fl_hymnOfService : Cond.fieldLink RX0 49 "CanticlePress" "hymnOfService" "[I" ∈ wsX0_timesSung := by decide +kernel
  have fl_serviceCount : Cond.fieldLink RX0 131 "CanticlePress" "serviceCount" "I" ∈ wsX0_timesSung := by decide +kernel
  refine lv_iconst (v := 0) hx hb dX0_timesSung_0 (by decide) ?_
  refine lv_istore_n (lv' := [(3, .int 0), (0, .ref h), (1, .int x), (2, .int y)]) hx hb dX0_timesSung_1 rfl hl (by decide) rfl (fun ls hl => ?_)
  refine lv_iconst (v := 0) hx hb dX0_timesSung_2 (by decide) ?_
  refine lv_istore (lv' := [(4, .int 0), (3, .int 0), (0, .ref h), (1, .int x), (2, .int y)]) hx hb dX0_timesSung_3 hl (by decide) rfl (fun ls hl => ?_)
  have L5 : ∀ (n9 : Nat) (k : Nat) (hm9 : cp_n u 3 - k < n9) (hk : k ≤ cp_n u 3), ∀ (H : Heap) (locs : List Loc), cp_I D (cp_wX cI h a u) A s.heap H locs → ∀ ls, lv_has ls 5 [(4, .int (nI k)), (3, .int (nI (cp_cnt (fun k => cp_held u k y ∧ u 13 k = x) k))), (0, .ref h), (1, .int x), (2, .int y)] → W p l e ({ frames := 2, cells := 0, slots := 0, locals := 43 } : Room) s m args below meth c H locs 0 0 (MQ below (va_Qi (fun (r : Int32) (u1 : cp_M) => r = nI (cp_times u x y) ∧ u1 = u) (cp_at D [(cI, .int)] A (cp_wX cI h a)) A) args s 0 0 A) (F0 m 5 ls []) := by
    intro n9
    induction n9 with
    | zero => intro k hm9; omega
    | succ n9 ih =>
      intro k hm9 hk H locs hI ls hl
      have hN9 := hN3.2.1
      refine lv_iload hx hb dX0_timesSung_5 (lv_at hl 0 rfl) ?_
      refine lv_aload_n hx hb dX0_timesSung_7 rfl (lv_at hl 2 rfl) ?_
      refine cp_get (v := .int (u 14 3)) hx hb hts inW hown hK hI (cp_hX _ _ _ _) rfl 14 (by decide) fl_serviceCount rfl rfl dX0_timesSung_8 ?_
      refine lv_icmp_ge (tgt := 44) hx hb dX0_timesSung_11 (by decide) (fun c11 => ?_) (fun c11 => ?_)
      · have hk2 := cp_ex hN3 hk c11
        refine lv_iload_n hx hb dX0_timesSung_44 rfl (lv_at hl 1 rfl) ?_
        exact cp_reti (u := u) (v := (nI (cp_cnt (fun k => cp_held u k y ∧ u 13 k = x) k))) hx hb hr hlocks hK hI ⟨by rw [hk2]; rfl, rfl⟩ dX0_timesSung_45
      · have hk2 := cp_in hN3 (by omega) c11
        refine lv_aload_n hx hb dX0_timesSung_14 rfl (lv_at hl 2 rfl) ?_
        refine lv_iload hx hb dX0_timesSung_15 (lv_at hl 0 rfl) ?_
        refine lv_iload_n hx hb dX0_timesSung_17 rfl (lv_at hl 4 rfl) ?_
        refine cp_cVi0 (wc := cp_wX cI h a) (u := u) (As := [.int (nI k), .int y]) (rest := []) ⟨hx, hb, hml, hown, hts⟩ (c_X0_isHeldIn l D cI h a u k y (by omega)) (cwV 2 hts gX0_timesSung_X0_isHeldIn rfl rfl rfl (by decide +kernel) ⟨Nat.le_of_ble_eq_true rfl, Nat.le_of_ble_eq_true rfl⟩) hK hI hA ⟨_, cp_hX _ _ _ _⟩ rfl rfl rfl hl.1 rfl (Nat.le_of_ble_eq_true rfl) dX0_timesSung_18 ⟨Nat.le_refl _, Nat.le_refl _⟩ (fun r18 u18 H locs hp18 hI => ?_)
        obtain ⟨rfl, e9⟩ := hp18
        rw [e9] at hI
        refine lv_if_eq (tgt := 38) hx hb dX0_timesSung_21 (by decide) (fun c21 => ?_) (fun c21 => ?_)
        · have c21 := cp_b0.mp c21
          obtain ⟨x38, ex38⟩ : ∃ y9 : Int32, y9 = (nI k) + 1 := ⟨_, rfl⟩
          refine lv_iinc (v := x38) (lv' := [(4, .int x38), (3, .int (nI (cp_cnt (fun k => cp_held u k y ∧ u 13 k = x) k))), (0, .ref h), (1, .int x), (2, .int y)]) hx hb dX0_timesSung_38 hl (k := 0) rfl (by rw [ex38]; rfl) (by decide) rfl (fun ls hl => ?_)
          refine lv_goto (tgt := 5) hx hb dX0_timesSung_41 (by decide) ?_
          rw [← cp_cnt_f (p := fun k => cp_held u k y ∧ u 13 k = x) (by first | exact fun h => c21 h.1 | exact fun h => c32 h.2)] at hl
          obtain rfl : x38 = nI (k + 1) := by rw [ex38]; exact nI_1 k
          exact ih (k + 1) (by omega) (by omega) _ _ hI ls (lv_sub hl [0, 1, 2, 3, 4] rfl)
        · have c21 := Classical.not_not.mp (fun h9 => c21 (cp_b0.mpr h9))
          refine lv_aload_n hx hb dX0_timesSung_24 rfl (lv_at hl 2 rfl) ?_
          refine cp_get (v := .ref (a 13)) hx hb hts inW hown hK hI (cp_hX _ _ _ _) rfl 17 (by decide) fl_hymnOfService rfl rfl dX0_timesSung_25 ?_
          refine lv_iload hx hb dX0_timesSung_28 (lv_at hl 0 rfl) ?_
          refine cp_iald hx hb hK hI 0 (cp_aX_13 _ _ _ _) rfl (j := k) (cp_ix_n (by omega) (by decide)) dX0_timesSung_30 ?_
          refine lv_iload_n hx hb dX0_timesSung_31 rfl (lv_at hl 3 rfl) ?_
          refine lv_icmp_ne (tgt := 38) hx hb dX0_timesSung_32 (by decide) (fun c32 => ?_) (fun c32 => ?_)
          · obtain ⟨x38, ex38⟩ : ∃ y9 : Int32, y9 = (nI k) + 1 := ⟨_, rfl⟩
            refine lv_iinc (v := x38) (lv' := [(4, .int x38), (3, .int (nI (cp_cnt (fun k => cp_held u k y ∧ u 13 k = x) k))), (0, .ref h), (1, .int x), (2, .int y)]) hx hb dX0_timesSung_38 hl (k := 0) rfl (by rw [ex38]; rfl) (by decide) rfl (fun ls hl => ?_)
            refine lv_goto (tgt := 5) hx hb dX0_timesSung_41 (by decide) ?_
            rw [← cp_cnt_f (p := fun k => cp_held u k y ∧ u 13 k = x) (by first | exact fun h => c21 h.1 | exact fun h => c32 h.2)] at hl
            obtain rfl : x38 = nI (k + 1) := by rw [ex38]; exact nI_1 k
            exact ih (k + 1) (by omega) (by omega) _ _ hI ls (lv_sub hl [0, 1, 2, 3, 4] rfl)
          · obtain ⟨x35, ex35⟩ : ∃ y9 : Int32, y9 = (nI (cp_cnt (fun k => cp_held u k y ∧ u 13 k = x) k)) + 1 := ⟨_, rfl⟩
            refine lv_iinc (v := x35) (lv' := [(3, .int x35), (4, .int (nI k)), (0, .ref h), (1, .int x), (2, .int y)]) hx hb dX0_timesSung_35 hl (k := 1) rfl (by rw [ex35]; rfl) (by decide) rfl (fun ls hl => ?_)
            obtain ⟨x38, ex38⟩ : ∃ y9 : Int32, y9 = (nI k) + 1 := ⟨_, rfl⟩
            refine lv_iinc (v := x38) (lv' := [(4, .int x38), (3, .int x35), (0, .ref h), (1, .int x), (2, .int y)]) hx hb dX0_timesSung_38 hl (k := 1) rfl (by rw [ex38]; rfl) (by decide) rfl (fun ls hl => ?_)
            refine lv_goto (tgt := 5) hx hb dX0_timesSung_41 (by decide) ?_
            obtain rfl : x35 = nI (cp_cnt (fun k => cp_held u k y ∧ u 13 k = x) (k + 1)) := by rw [ex35, cp_cnt_t (p := fun k => cp_held u k y ∧ u 13 k = x) ⟨c21, c32⟩]; exact nI_1 _
            obtain rfl : x38 = nI (k + 1) := by rw [ex38]; exact nI_1 k
            exact ih (k + 1) (by omega) (by omega) _ _ hI ls (lv_sub hl [0, 1, 2, 3, 4] rfl)
  exact L5 ((cp_n u 3) + 1) 0 (Nat.lt_succ_self _) (Nat.zero_le _) _ _ hI ls (lv_sub hl [0, 1, 2, 3, 4] rfl)
set_option maxHeartbeats 4000000 in
set_option maxRecDepth 100000 in
theorem c_X0_hasLostItsRight (l : Launch) (D : va_G) (cI : ClassId) (h : Nat) (a : Nat → Nat) (u : cp_M) (g : Nat) (hg : g < 40) (hN2 : cp_cn u 2 40) : ∀ sz : Nat, Met l yX0_hasLostItsRight wsX0_hasLostItsRight ({ frames := 2, cells := 0, slots := 0, locals := 46 } : Room) (va_Pc [.ref h, .int (nI g)] (cp_pre D [(cI, .int)] (cp_wX cI h a u) sz)) (va_Qi (fun (r : Int32) (u1 : cp_M) => r = cp_b (cp_lost u g) ∧ u1 = u) (cp_at D [(cI, .int)] (va_A (cp_wX cI h a u) sz) (cp_wX cI h a)) (va_A (cp_wX cI h a u) sz)) 0 0 (va_A (cp_wX cI h a u) sz) := by
  refine cp_MetI (Qk := fun A => va_Qi (fun (r : Int32) (u1 : cp_M) => r = cp_b (cp_lost u g) ∧ u1 = u) (cp_at D [(cI, .int)] A (cp_wX cI h a)) A) (by decide) rfl (Nat.le_of_ble_eq_true rfl) ?_
  intro p e s m args below meth c A hC hA hK hI ls hl
  obtain ⟨hx, hb, hml, hown, hts, hr, hlocks⟩ := hC
  have hown : s.vm.findClass RX0 = some m.cls := hown
  have hl : lv_has ls 4 [(0, .ref h), (1, .int (nI g))] := hl
  have inW : ∀ w ∈ wsX00, w ∈ wsX0_hasLostItsRight := by decide +kernel
  have fl_dayOfService : Cond.fieldLink RX0 46 "CanticlePress" "dayOfService" "[I" ∈ wsX0_hasLostItsRight := by decide +kernel
  have fl_hymnOfService : Cond.fieldLink RX0 49 "CanticlePress" "hymnOfService" "[I" ∈ wsX0_hasLostItsRight := by decide +kernel
  have fl_today : Cond.fieldLink RX0 103 "CanticlePress" "today" "I" ∈ wsX0_hasLostItsRight := by decide +kernel
  refine lv_aload_n hx hb dX0_hasLostItsRight_0 rfl (lv_at hl 0 rfl) ?_
  refine cp_get (v := .ref (a 13)) hx hb hts inW hown hK hI (cp_hX _ _ _ _) rfl 17 (by decide) fl_hymnOfService rfl rfl dX0_hasLostItsRight_1 ?_
  refine lv_iload_n hx hb dX0_hasLostItsRight_4 rfl (lv_at hl 1 rfl) ?_
  refine cp_iald hx hb hK hI 0 (cp_aX_13 _ _ _ _) rfl (j := g) (cp_ix_n (by omega) (by decide)) dX0_hasLostItsRight_5 ?_
  refine lv_topi (fun x6 ex6 => ?_)
  refine lv_istore_n (lv' := [(2, .int x6), (0, .ref h), (1, .int (nI g))]) hx hb dX0_hasLostItsRight_6 rfl hl (by decide) rfl (fun ls hl => ?_)
  obtain rfl := ex6
  refine lv_aload_n hx hb dX0_hasLostItsRight_7 rfl (lv_at hl 1 rfl) ?_
  refine cp_get (v := .ref (a 12)) hx hb hts inW hown hK hI (cp_hX _ _ _ _) rfl 16 (by decide) fl_dayOfService rfl rfl dX0_hasLostItsRight_8 ?_
  refine lv_iload_n hx hb dX0_hasLostItsRight_11 rfl (lv_at hl 2 rfl) ?_
  refine cp_iald hx hb hK hI 0 (cp_aX_12 _ _ _ _) rfl (j := g) (cp_ix_n (by omega) (by decide)) dX0_hasLostItsRight_12 ?_
  refine lv_topi (fun x13 ex13 => ?_)
  refine lv_istore_n (lv' := [(3, .int x13), (2, .int (u 13 g)), (0, .ref h), (1, .int (nI g))]) hx hb dX0_hasLostItsRight_13 rfl hl (by decide) rfl (fun ls hl => ?_)
  obtain rfl := ex13
  refine lv_iload_n hx hb dX0_hasLostItsRight_14 rfl (lv_at hl 0 rfl) ?_
  refine lv_aload_n hx hb dX0_hasLostItsRight_15 rfl (lv_at hl 2 rfl) ?_
  refine cp_get (v := .int (u 14 0)) hx hb hts inW hown hK hI (cp_hX _ _ _ _) rfl 0 (by decide) fl_today rfl rfl dX0_hasLostItsRight_16 ?_
  refine lv_icmp_lt (tgt := 41) hx hb dX0_hasLostItsRight_19 (by decide) (fun c19 => ?_) (fun c19 => ?_)
  · refine lv_iconst (v := 0) hx hb dX0_hasLostItsRight_41 (by decide) ?_
    exact cp_retz (u := u) (v := 0) hx hb hr hlocks hK hI rfl ⟨(cp_bf (by first | exact fun h => absurd h.1 (Int32.not_le.mpr c19) | exact fun h => h.2.1 c24 | exact fun h => h.2.2 c34)).symm, rfl⟩ dX0_hasLostItsRight_42
  · refine lv_iload_n hx hb dX0_hasLostItsRight_22 rfl (lv_at hl 1 rfl) ?_
    refine lv_iconst (v := (-1)) hx hb dX0_hasLostItsRight_23 (by decide) ?_
    refine lv_icmp_eq (tgt := 41) hx hb dX0_hasLostItsRight_24 (by decide) (fun c24 => ?_) (fun c24 => ?_)
    · refine lv_iconst (v := 0) hx hb dX0_hasLostItsRight_41 (by decide) ?_
      exact cp_retz (u := u) (v := 0) hx hb hr hlocks hK hI rfl ⟨(cp_bf (by first | exact fun h => absurd h.1 (Int32.not_le.mpr c19) | exact fun h => h.2.1 c24 | exact fun h => h.2.2 c34)).symm, rfl⟩ dX0_hasLostItsRight_42
    · refine lv_aload_n hx hb dX0_hasLostItsRight_27 rfl (lv_at hl 2 rfl) ?_
      refine lv_iload_n hx hb dX0_hasLostItsRight_28 rfl (lv_at hl 1 rfl) ?_
      refine lv_iconst (v := 0) hx hb dX0_hasLostItsRight_29 (by decide) ?_
      refine lv_iload_n hx hb dX0_hasLostItsRight_30 rfl (lv_at hl 0 rfl) ?_
      refine cp_cVi0 (wc := cp_wX cI h a) (u := u) (As := [.int (u 13 g), .int 0, .int (u 12 g)]) (rest := []) ⟨hx, hb, hml, hown, hts⟩ (c_X0_isAllowed l D cI h a u (u 13 g) 0 (u 12 g) hN2) (cwV 3 hts gX0_hasLostItsRight_X0_isAllowed rfl rfl rfl (by decide +kernel) ⟨Nat.le_of_ble_eq_true rfl, Nat.le_of_ble_eq_true rfl⟩) hK hI hA ⟨_, cp_hX _ _ _ _⟩ rfl rfl rfl hl.1 rfl (Nat.le_of_ble_eq_true rfl) dX0_hasLostItsRight_31 ⟨Nat.le_refl _, Nat.le_refl _⟩ (fun r31 u31 H locs hp31 hI => ?_)
      obtain ⟨rfl, e9⟩ := hp31
      rw [e9] at hI
      refine lv_if_ne (tgt := 41) hx hb dX0_hasLostItsRight_34 (by decide) (fun c34 => ?_) (fun c34 => ?_)
      · have c34 := Classical.not_not.mp (fun h9 => c34 (cp_b0.mpr h9))
        refine lv_iconst (v := 0) hx hb dX0_hasLostItsRight_41 (by decide) ?_
        exact cp_retz (u := u) (v := 0) hx hb hr hlocks hK hI rfl ⟨(cp_bf (by first | exact fun h => absurd h.1 (Int32.not_le.mpr c19) | exact fun h => h.2.1 c24 | exact fun h => h.2.2 c34)).symm, rfl⟩ dX0_hasLostItsRight_42
      · have c34 := cp_b0.mp c34
        refine lv_iconst (v := 1) hx hb dX0_hasLostItsRight_37 (by decide) ?_
        refine lv_goto (tgt := 42) hx hb dX0_hasLostItsRight_38 (by decide) ?_
        exact cp_retz (u := u) (v := 1) hx hb hr hlocks hK hI rfl ⟨(cp_bt ⟨Int32.not_lt.mp c19, c24, c34⟩).symm, rfl⟩ dX0_hasLostItsRight_42
end
section
set_option maxHeartbeats 4000000 in
set_option maxRecDepth 100000 in
theorem c_X0_planAnew (l : Launch) (D : va_G) (cI : ClassId) (h : Nat) (a : Nat → Nat) (u : cp_M) (g : Nat) (hg : g < 40) (hN1 : cp_cn u 1 16) (hN2 : cp_cn u 2 40) (hN3 : cp_cn u 3 40) : ∀ sz : Nat, Met l yX0_planAnew wsX0_planAnew ({ frames := 4, cells := 0, slots := 0, locals := 95 } : Room) (va_Pc [.ref h, .int (nI g)] (cp_pre D [(cI, .int)] (cp_wX cI h a u) sz)) (va_Qv (fun (u1 : cp_M) => u1 = cp_plan u g) (cp_at D [(cI, .int)] (va_A (cp_wX cI h a u) sz) (cp_wX cI h a)) (va_A (cp_wX cI h a u) sz)) 0 0 (va_A (cp_wX cI h a u) sz) := by
  refine cp_MetI (Qk := fun A => va_Qv (fun (u1 : cp_M) => u1 = cp_plan u g) (cp_at D [(cI, .int)] A (cp_wX cI h a)) A) (by decide) rfl (Nat.le_of_ble_eq_true rfl) ?_
  intro p e s m args below meth c A hC hA hK hI ls hl
  obtain ⟨hx, hb, hml, hown, hts, hr, hlocks⟩ := hC
  have hown : s.vm.findClass RX0 = some m.cls := hown
  have hl : lv_has ls 2 [(0, .ref h), (1, .int (nI g))] := hl
  have inW : ∀ w ∈ wsX00, w ∈ wsX0_planAnew := by decide +kernel
  have fl_choirOfService : Cond.fieldLink RX0 43 "CanticlePress" "choirOfService" "[I" ∈ wsX0_planAnew := by decide +kernel
  have fl_dayOfService : Cond.fieldLink RX0 46 "CanticlePress" "dayOfService" "[I" ∈ wsX0_planAnew := by decide +kernel
  have fl_hymnOfService : Cond.fieldLink RX0 49 "CanticlePress" "hymnOfService" "[I" ∈ wsX0_planAnew := by decide +kernel
  refine lv_aload_n hx hb dX0_planAnew_0 rfl (lv_at hl 0 rfl) ?_
  refine cp_get (v := .ref (a 13)) hx hb hts inW hown hK hI (cp_hX _ _ _ _) rfl 17 (by decide) fl_hymnOfService rfl rfl dX0_planAnew_1 ?_
  refine lv_iload_n hx hb dX0_planAnew_4 rfl (lv_at hl 1 rfl) ?_
  refine lv_iconst (v := (-1)) hx hb dX0_planAnew_5 (by decide) ?_
  refine cp_iast hx hb hK hI 0 (cp_aX_13 _ _ _ _) rfl (j := g) (cp_ix_n (by omega) (by decide)) dX0_planAnew_6 (cp_sX_13 _ _ _ _ _) (fun H locs hI => ?_)
  obtain ⟨u6, eu6⟩ : ∃ z, z = cp_up u 13 (upd (u 13) g (-1)) := ⟨_, rfl⟩
  rw [← eu6] at hI
  have hM1 : cp_cn u6 1 16 := by rw [eu6]; exact cp_cn_up hN1 (by decide)
  have hM2 : cp_cn u6 2 40 := by rw [eu6]; exact cp_cn_up hN2 (by decide)
  have hM3 : cp_cn u6 3 40 := by rw [eu6]; exact cp_cn_up hN3 (by decide)
  refine lv_aload_n hx hb dX0_planAnew_7 rfl (lv_at hl 0 rfl) ?_
  refine cp_get (v := .ref (a 13)) hx hb hts inW hown hK hI (cp_hX _ _ _ _) rfl 17 (by decide) fl_hymnOfService rfl rfl dX0_planAnew_8 ?_
  refine lv_iload_n hx hb dX0_planAnew_11 rfl (lv_at hl 1 rfl) ?_
  refine lv_aload_n hx hb dX0_planAnew_12 rfl (lv_at hl 0 rfl) ?_
  refine lv_aload_n hx hb dX0_planAnew_13 rfl (lv_at hl 0 rfl) ?_
  refine cp_get (v := .ref (a 11)) hx hb hts inW hown hK hI (cp_hX _ _ _ _) rfl 15 (by decide) fl_choirOfService rfl rfl dX0_planAnew_14 ?_
  refine lv_iload_n hx hb dX0_planAnew_17 rfl (lv_at hl 1 rfl) ?_
  refine cp_iald hx hb hK hI 0 (cp_aX_11 _ _ _ _) rfl (j := g) (cp_ix_n (by omega) (by decide)) dX0_planAnew_18 ?_
  refine lv_aload_n hx hb dX0_planAnew_19 rfl (lv_at hl 0 rfl) ?_
  refine cp_get (v := .ref (a 12)) hx hb hts inW hown hK hI (cp_hX _ _ _ _) rfl 16 (by decide) fl_dayOfService rfl rfl dX0_planAnew_20 ?_
  refine lv_iload_n hx hb dX0_planAnew_23 rfl (lv_at hl 1 rfl) ?_
  refine cp_iald hx hb hK hI 0 (cp_aX_12 _ _ _ _) rfl (j := g) (cp_ix_n (by omega) (by decide)) dX0_planAnew_24 ?_
  refine cp_cVi0 (wc := cp_wX cI h a) (u := u6) (As := [.int (u6 11 g), .int (u6 12 g)]) (rest := [.int (nI g), .ref (a 13)]) ⟨hx, hb, hml, hown, hts⟩ (c_X0_bestHymn l D cI h a u6 (u6 11 g) (u6 12 g) hM1 hM2 hM3) (cwV 2 hts gX0_planAnew_X0_bestHymn rfl rfl rfl (by decide +kernel) ⟨Nat.le_of_ble_eq_true rfl, Nat.le_of_ble_eq_true rfl⟩) hK hI hA ⟨_, cp_hX _ _ _ _⟩ rfl rfl rfl hl.1 rfl (Nat.le_of_ble_eq_true rfl) dX0_planAnew_25 ⟨Nat.le_refl _, Nat.le_refl _⟩ (fun r25 u25 H locs hp25 hI => ?_)
  obtain ⟨rfl, e9⟩ := hp25
  rw [e9] at hI
  refine cp_iast hx hb hK hI 0 (cp_aX_13 _ _ _ _) rfl (j := g) (cp_ix_n (by omega) (by decide)) dX0_planAnew_28 (cp_sX_13 _ _ _ _ _) (fun H locs hI => ?_)
  obtain ⟨u28, eu28⟩ : ∃ z, z = cp_up u6 13 (upd (u6 13) g (cp_o (cp_best u6 (u6 11 g) (u6 12 g)))) := ⟨_, rfl⟩
  rw [← eu28] at hI
  exact cp_retv (u := u28) hx hb hr hlocks hK hI (by rw [eu28, eu6]; rfl) dX0_planAnew_29
set_option maxHeartbeats 4000000 in
set_option maxRecDepth 100000 in
theorem c_X0_silenceServicesWithoutRight (l : Launch) (D : va_G) (cI : ClassId) (h : Nat) (a : Nat → Nat) (u : cp_M)  (hN2 : cp_cn u 2 40) (hN3 : cp_cn u 3 40) : ∀ sz : Nat, Met l yX0_silenceServicesWithoutRight wsX0_silenceServicesWithoutRight ({ frames := 3, cells := 0, slots := 0, locals := 69 } : Room) (va_Pc [.ref h] (cp_pre D [(cI, .int)] (cp_wX cI h a u) sz)) (va_Ql (fun (r : Int64) (u1 : cp_M) => r = cp_msk u (cp_n u 3) ∧ u1 = cp_sil u (cp_n u 3)) (cp_at D [(cI, .int)] (va_A (cp_wX cI h a u) sz) (cp_wX cI h a)) (va_A (cp_wX cI h a u) sz)) 0 0 (va_A (cp_wX cI h a u) sz) := by
  refine cp_MetI (Qk := fun A => va_Ql (fun (r : Int64) (u1 : cp_M) => r = cp_msk u (cp_n u 3) ∧ u1 = cp_sil u (cp_n u 3)) (cp_at D [(cI, .int)] A (cp_wX cI h a)) A) (by decide) rfl (Nat.le_of_ble_eq_true rfl) ?_
  intro p e s m args below meth c A hC hA hK hI ls hl
  obtain ⟨hx, hb, hml, hown, hts, hr, hlocks⟩ := hC
  have hown : s.vm.findClass RX0 = some m.cls := hown
  have hl : lv_has ls 4 [(0, .ref h)] := hl
  have inW : ∀ w ∈ wsX00, w ∈ wsX0_silenceServicesWithoutRight := by decide +kernel
  have fl_hymnOfService : Cond.fieldLink RX0 49 "CanticlePress" "hymnOfService" "[I" ∈ wsX0_silenceServicesWithoutRight := by decide +kernel
  have fl_serviceCount : Cond.fieldLink RX0 131 "CanticlePress" "serviceCount" "I" ∈ wsX0_silenceServicesWithoutRight := by decide +kernel
  refine lv_lconst (v := 0) hx hb dX0_silenceServicesWithoutRight_0 (by decide) ?_
  refine lv_lstore_n (lv' := [(1, .long 0), (0, .ref h)]) hx hb dX0_silenceServicesWithoutRight_1 rfl hl (by decide) rfl (fun ls hl => ?_)
  refine lv_iconst (v := 0) hx hb dX0_silenceServicesWithoutRight_2 (by decide) ?_
  refine lv_istore_n (lv' := [(3, .int 0), (1, .long 0), (0, .ref h)]) hx hb dX0_silenceServicesWithoutRight_3 rfl hl (by decide) rfl (fun ls hl => ?_)
  have L4 : ∀ (n9 : Nat) (k : Nat) (hm9 : cp_n u 3 - k < n9) (hk : k ≤ cp_n u 3), ∀ (H : Heap) (locs : List Loc), cp_I D (cp_wX cI h a (cp_sil u k)) A s.heap H locs → ∀ ls, lv_has ls 4 [(3, .int (nI k)), (1, .long (cp_msk u k)), (0, .ref h)] → W p l e ({ frames := 3, cells := 0, slots := 0, locals := 69 } : Room) s m args below meth c H locs 0 0 (MQ below (va_Ql (fun (r : Int64) (u1 : cp_M) => r = cp_msk u (cp_n u 3) ∧ u1 = cp_sil u (cp_n u 3)) (cp_at D [(cI, .int)] A (cp_wX cI h a)) A) args s 0 0 A) (F0 m 4 ls []) := by
    intro n9
    induction n9 with
    | zero => intro k hm9; omega
    | succ n9 ih =>
      intro k hm9 hk H locs hI ls hl
      have hN9 := hN3.2.1
      have hs14 := cp_sil_r u k (k := 14) (by decide)
      refine lv_iload_n hx hb dX0_silenceServicesWithoutRight_4 rfl (lv_at hl 0 rfl) ?_
      refine lv_aload_n hx hb dX0_silenceServicesWithoutRight_5 rfl (lv_at hl 2 rfl) ?_
      refine cp_get (v := .int ((cp_sil u k) 14 3)) hx hb hts inW hown hK hI (cp_hX _ _ _ _) rfl 14 (by decide) fl_serviceCount rfl rfl dX0_silenceServicesWithoutRight_6 ?_
      refine lv_icmp_ge (tgt := 39) hx hb dX0_silenceServicesWithoutRight_9 (by decide) (fun c9 => ?_) (fun c9 => ?_)
      · have hk2 := cp_ex (k := k) hN3 hk (by rw [← hs14]; exact c9)
        refine lv_lload_n hx hb dX0_silenceServicesWithoutRight_39 rfl (lv_at hl 1 rfl) ?_
        exact cp_retl (u := (cp_sil u k)) hx hb hr hlocks hK hI ⟨by rw [hk2], by rw [hk2]⟩ dX0_silenceServicesWithoutRight_40
      · have hk2 := cp_in (k := k) hN3 (by omega) (by rw [← hs14]; exact c9)
        refine lv_aload_n hx hb dX0_silenceServicesWithoutRight_12 rfl (lv_at hl 2 rfl) ?_
        refine lv_iload_n hx hb dX0_silenceServicesWithoutRight_13 rfl (lv_at hl 0 rfl) ?_
        refine cp_cVi0 (wc := cp_wX cI h a) (u := (cp_sil u k)) (As := [.int (nI k)]) (rest := []) ⟨hx, hb, hml, hown, hts⟩ (c_X0_hasLostItsRight l D cI h a (cp_sil u k) k (by omega) (cp_cn_c hN2 hs14)) (cwV 1 hts gX0_silenceServicesWithoutRight_X0_hasLostItsRight rfl rfl rfl (by decide +kernel) ⟨Nat.le_of_ble_eq_true rfl, Nat.le_of_ble_eq_true rfl⟩) hK hI hA ⟨_, cp_hX _ _ _ _⟩ rfl rfl rfl hl.1 rfl (Nat.le_of_ble_eq_true rfl) dX0_silenceServicesWithoutRight_14 ⟨Nat.le_refl _, Nat.le_refl _⟩ (fun r14 u14 H locs hp14 hI => ?_)
        obtain ⟨rfl, e9⟩ := hp14
        rw [e9] at hI
        rw [cp_lost_sil]
        refine lv_if_eq (tgt := 33) hx hb dX0_silenceServicesWithoutRight_17 (by decide) (fun c17 => ?_) (fun c17 => ?_)
        · have c17 := cp_b0.mp c17
          obtain ⟨x33, ex33⟩ : ∃ y9 : Int32, y9 = (nI k) + 1 := ⟨_, rfl⟩
          refine lv_iinc (v := x33) (lv' := [(3, .int x33), (1, .long (cp_msk u k)), (0, .ref h)]) hx hb dX0_silenceServicesWithoutRight_33 hl (k := 0) rfl (by rw [ex33]; rfl) (by decide) rfl (fun ls hl => ?_)
          refine lv_goto (tgt := 4) hx hb dX0_silenceServicesWithoutRight_36 (by decide) ?_
          rw [← cp_msk_f c17] at hl
          rw [← cp_sil_f u c17] at hI
          obtain rfl : x33 = nI (k + 1) := by rw [ex33]; exact nI_1 k
          exact ih (k + 1) (by omega) (by omega) _ _ hI ls (lv_sub hl [0, 1, 2] rfl)
        · have c17 := Classical.not_not.mp (fun h9 => c17 (cp_b0.mpr h9))
          refine lv_aload_n hx hb dX0_silenceServicesWithoutRight_20 rfl (lv_at hl 2 rfl) ?_
          refine cp_get (v := .ref (a 13)) hx hb hts inW hown hK hI (cp_hX _ _ _ _) rfl 17 (by decide) fl_hymnOfService rfl rfl dX0_silenceServicesWithoutRight_21 ?_
          refine lv_iload_n hx hb dX0_silenceServicesWithoutRight_24 rfl (lv_at hl 0 rfl) ?_
          refine lv_iconst (v := (-1)) hx hb dX0_silenceServicesWithoutRight_25 (by decide) ?_
          refine cp_iast hx hb hK hI 0 (cp_aX_13 _ _ _ _) rfl (j := k) (cp_ix_n (by omega) (by decide)) dX0_silenceServicesWithoutRight_26 (cp_sX_13 _ _ _ _ _) (fun H locs hI => ?_)
          obtain ⟨u26, eu26⟩ : ∃ z, z = cp_up (cp_sil u k) 13 (upd ((cp_sil u k) 13) k (-1)) := ⟨_, rfl⟩
          rw [← eu26] at hI
          refine lv_lload_n hx hb dX0_silenceServicesWithoutRight_27 rfl (lv_at hl 1 rfl) ?_
          refine lv_lconst (v := 1) hx hb dX0_silenceServicesWithoutRight_28 (by decide) ?_
          refine lv_iload_n hx hb dX0_silenceServicesWithoutRight_29 rfl (lv_at hl 0 rfl) ?_
          refine lv_lshl (v := (1 <<< ((nI k).toInt64 &&& 63))) hx hb dX0_silenceServicesWithoutRight_30 rfl ?_
          refine lv_lor hx hb dX0_silenceServicesWithoutRight_31 ?_
          refine lv_topl (fun x32 ex32 => ?_)
          refine lv_lstore_n (lv' := [(1, .long x32), (3, .int (nI k)), (0, .ref h)]) hx hb dX0_silenceServicesWithoutRight_32 rfl hl (by decide) rfl (fun ls hl => ?_)
          obtain ⟨x33, ex33⟩ : ∃ y9 : Int32, y9 = (nI k) + 1 := ⟨_, rfl⟩
          refine lv_iinc (v := x33) (lv' := [(3, .int x33), (1, .long x32), (0, .ref h)]) hx hb dX0_silenceServicesWithoutRight_33 hl (k := 1) rfl (by rw [ex33]; rfl) (by decide) rfl (fun ls hl => ?_)
          refine lv_goto (tgt := 4) hx hb dX0_silenceServicesWithoutRight_36 (by decide) ?_
          obtain rfl : x32 = cp_msk u (k + 1) := by rw [ex32, cp_msk_t c17]
          rw [eu26, cp_sil_t u c17] at hI
          obtain rfl : x33 = nI (k + 1) := by rw [ex33]; exact nI_1 k
          exact ih (k + 1) (by omega) (by omega) _ _ hI ls (lv_sub hl [0, 1, 2] rfl)
  rw [← cp_sil_0 u] at hI
  exact L4 ((cp_n u 3) + 1) 0 (Nat.lt_succ_self _) (Nat.zero_le _) _ _ hI ls (lv_sub hl [0, 1, 2] rfl)
set_option maxHeartbeats 4000000 in
set_option maxRecDepth 100000 in
theorem c_X0_planEach (l : Launch) (D : va_G) (cI : ClassId) (h : Nat) (a : Nat → Nat) (u : cp_M) (set : Int64) (hN1 : cp_cn u 1 16) (hN2 : cp_cn u 2 40) (hN3 : cp_cn u 3 40) : ∀ sz : Nat, Met l yX0_planEach wsX0_planEach ({ frames := 5, cells := 0, slots := 0, locals := 116 } : Room) (va_Pc [.ref h, .long set] (cp_pre D [(cI, .int)] (cp_wX cI h a u) sz)) (va_Qv (fun (u1 : cp_M) => u1 = cp_pe (fun j => cp_inS (nI j) set) u (cp_n u 3)) (cp_at D [(cI, .int)] (va_A (cp_wX cI h a u) sz) (cp_wX cI h a)) (va_A (cp_wX cI h a u) sz)) 0 0 (va_A (cp_wX cI h a u) sz) := by
  refine cp_MetI (Qk := fun A => va_Qv (fun (u1 : cp_M) => u1 = cp_pe (fun j => cp_inS (nI j) set) u (cp_n u 3)) (cp_at D [(cI, .int)] A (cp_wX cI h a)) A) (by decide) rfl (Nat.le_of_ble_eq_true rfl) ?_
  intro p e s m args below meth c A hC hA hK hI ls hl
  obtain ⟨hx, hb, hml, hown, hts, hr, hlocks⟩ := hC
  have hown : s.vm.findClass RX0 = some m.cls := hown
  have hl : lv_has ls 4 [(0, .ref h), (1, .long set)] := hl
  have inW : ∀ w ∈ wsX00, w ∈ wsX0_planEach := by decide +kernel
  have fl_serviceCount : Cond.fieldLink RX0 131 "CanticlePress" "serviceCount" "I" ∈ wsX0_planEach := by decide +kernel
  refine lv_iconst (v := 0) hx hb dX0_planEach_0 (by decide) ?_
  refine lv_istore_n (lv' := [(3, .int 0), (0, .ref h), (1, .long set)]) hx hb dX0_planEach_1 rfl hl (by decide) rfl (fun ls hl => ?_)
  have L2 : ∀ (n9 : Nat) (k : Nat) (hm9 : cp_n u 3 - k < n9) (hk : k ≤ cp_n u 3), ∀ (H : Heap) (locs : List Loc), cp_I D (cp_wX cI h a (cp_pe (fun j => cp_inS (nI j) set) u k)) A s.heap H locs → ∀ ls, lv_has ls 4 [(3, .int (nI k)), (0, .ref h), (1, .long set)] → W p l e ({ frames := 5, cells := 0, slots := 0, locals := 116 } : Room) s m args below meth c H locs 0 0 (MQ below (va_Qv (fun (u1 : cp_M) => u1 = cp_pe (fun j => cp_inS (nI j) set) u (cp_n u 3)) (cp_at D [(cI, .int)] A (cp_wX cI h a)) A) args s 0 0 A) (F0 m 2 ls []) := by
    intro n9
    induction n9 with
    | zero => intro k hm9; omega
    | succ n9 ih =>
      intro k hm9 hk H locs hI ls hl
      have hN9 := hN3.2.1
      have hs14 := cp_pe_r (fun j => cp_inS (nI j) set) u (k := 14) (by decide) k
      refine lv_iload_n hx hb dX0_planEach_2 rfl (lv_at hl 0 rfl) ?_
      refine lv_aload_n hx hb dX0_planEach_3 rfl (lv_at hl 1 rfl) ?_
      refine cp_get (v := .int ((cp_pe (fun j => cp_inS (nI j) set) u k) 14 3)) hx hb hts inW hown hK hI (cp_hX _ _ _ _) rfl 14 (by decide) fl_serviceCount rfl rfl dX0_planEach_4 ?_
      refine lv_icmp_ge (tgt := 29) hx hb dX0_planEach_7 (by decide) (fun c7 => ?_) (fun c7 => ?_)
      · have hk2 := cp_ex (k := k) hN3 hk (by rw [← hs14]; exact c7)
        exact cp_retv (u := (cp_pe (fun j => cp_inS (nI j) set) u k)) hx hb hr hlocks hK hI (by rw [hk2]) dX0_planEach_29
      · have hk2 := cp_in (k := k) hN3 (by omega) (by rw [← hs14]; exact c7)
        refine lv_iload_n hx hb dX0_planEach_10 rfl (lv_at hl 0 rfl) ?_
        refine lv_lload_n hx hb dX0_planEach_11 rfl (lv_at hl 2 rfl) ?_
        refine cp_cSi0 (As := [.int (nI k), .long set]) (rest := []) ⟨hx, hb, hml, hown, hts⟩ ((c_X0_isInSet l (nI k) set) D) (va_cwS 2 hts gX0_planEach_X0_isInSet rfl rfl rfl (by decide +kernel) ⟨Nat.le_of_ble_eq_true rfl, Nat.le_of_ble_eq_true rfl⟩) hK hI hA rfl hl.1 rfl (Nat.le_of_ble_eq_true rfl) dX0_planEach_12 ⟨Nat.le_refl _, Nat.le_refl _⟩ (fun r12 u12 H locs hp12 hI => ?_)
        obtain rfl := hp12
        refine lv_if_eq (tgt := 23) hx hb dX0_planEach_15 (by decide) (fun c15 => ?_) (fun c15 => ?_)
        · have c15 := cp_b0.mp c15
          obtain ⟨x23, ex23⟩ : ∃ y9 : Int32, y9 = (nI k) + 1 := ⟨_, rfl⟩
          refine lv_iinc (v := x23) (lv' := [(3, .int x23), (0, .ref h), (1, .long set)]) hx hb dX0_planEach_23 hl (k := 0) rfl (by rw [ex23]; rfl) (by decide) rfl (fun ls hl => ?_)
          refine lv_goto (tgt := 2) hx hb dX0_planEach_26 (by decide) ?_
          rw [← cp_pe_f (q := fun j => cp_inS (nI j) set) c15] at hI
          obtain rfl : x23 = nI (k + 1) := by rw [ex23]; exact nI_1 k
          exact ih (k + 1) (by omega) (by omega) _ _ hI ls (lv_sub hl [0, 1, 2] rfl)
        · have c15 := Classical.not_not.mp (fun h9 => c15 (cp_b0.mpr h9))
          refine lv_aload_n hx hb dX0_planEach_18 rfl (lv_at hl 1 rfl) ?_
          refine lv_iload_n hx hb dX0_planEach_19 rfl (lv_at hl 0 rfl) ?_
          refine cp_cVv0 (wc := cp_wX cI h a) (u := (cp_pe (fun j => cp_inS (nI j) set) u k)) (As := [.int (nI k)]) (rest := []) ⟨hx, hb, hml, hown, hts⟩ (c_X0_planAnew l D cI h a (cp_pe (fun j => cp_inS (nI j) set) u k) k (by omega) (cp_cn_c hN1 hs14) (cp_cn_c hN2 hs14) (cp_cn_c hN3 hs14)) (cwV 1 hts gX0_planEach_X0_planAnew rfl rfl rfl (by decide +kernel) ⟨Nat.le_of_ble_eq_true rfl, Nat.le_of_ble_eq_true rfl⟩) hK hI hA ⟨_, cp_hX _ _ _ _⟩ rfl rfl rfl hl.1 rfl (Nat.le_of_ble_eq_true rfl) dX0_planEach_20 ⟨Nat.le_refl _, Nat.le_refl _⟩ (fun u20 H locs hp20 hI => ?_)
          have eu20 := hp20
          obtain ⟨x23, ex23⟩ : ∃ y9 : Int32, y9 = (nI k) + 1 := ⟨_, rfl⟩
          refine lv_iinc (v := x23) (lv' := [(3, .int x23), (0, .ref h), (1, .long set)]) hx hb dX0_planEach_23 hl (k := 0) rfl (by rw [ex23]; rfl) (by decide) rfl (fun ls hl => ?_)
          refine lv_goto (tgt := 2) hx hb dX0_planEach_26 (by decide) ?_
          rw [eu20, ← cp_pe_t (q := fun j => cp_inS (nI j) set) c15] at hI
          obtain rfl : x23 = nI (k + 1) := by rw [ex23]; exact nI_1 k
          exact ih (k + 1) (by omega) (by omega) _ _ hI ls (lv_sub hl [0, 1, 2] rfl)
  exact L2 ((cp_n u 3) + 1) 0 (Nat.lt_succ_self _) (Nat.zero_le _) _ _ hI ls (lv_sub hl [0, 1, 2] rfl)
end
section
theorem last_ok : True := trivial
end
