section
-- ===== PART A: goes FIRST, ahead of the names: the tables' words, and 'selects' of the private methods out of them =====
/-- a private method of a class that the tables say can be made, by its rows of tables_1 -/
def lw_okq (q : MethodName × Nat) : Prop := (q.1.cls ≠ "java/lang/invoke/MethodHandle" ∧ q.1.cls ≠ "java/lang/invoke/VarHandle") ∧ Cond.instantiable q.1.cls q.2 ∈ tables_1 ∧ Cond.privateMethod q.1 ∈ tables_1 ∧ Cond.instanceMethod q.1 ∈ tables_1
theorem lw_p0 : lw_okq (⟨"java/lang/Throwable", "fillInStackTrace", "(I)Ljava/lang/Throwable;"⟩, 6) := ⟨⟨by decide +kernel, by decide +kernel⟩, List.mem_of_getElem? (i := 74) (by decide +kernel), List.mem_of_getElem? (i := 72) (by decide +kernel), List.mem_of_getElem? (i := 73) (by decide +kernel)⟩
theorem lw_p1 : lw_okq (⟨"NumberCircuits", "setTruth", "(IIZ)V"⟩, 2) := ⟨⟨by decide +kernel, by decide +kernel⟩, List.mem_of_getElem? (i := 9) (by decide +kernel), List.mem_of_getElem? (i := 134) (by decide +kernel), List.mem_of_getElem? (i := 135) (by decide +kernel)⟩
theorem lw_p2 : lw_okq (⟨"NumberCircuits", "isYes", "(II)Z"⟩, 2) := ⟨⟨by decide +kernel, by decide +kernel⟩, List.mem_of_getElem? (i := 9) (by decide +kernel), List.mem_of_getElem? (i := 145) (by decide +kernel), List.mem_of_getElem? (i := 146) (by decide +kernel)⟩
theorem lw_p3 : lw_okq (⟨"NumberCircuits", "isZeroEverywhere", "(I)Z"⟩, 2) := ⟨⟨by decide +kernel, by decide +kernel⟩, List.mem_of_getElem? (i := 9) (by decide +kernel), List.mem_of_getElem? (i := 204) (by decide +kernel), List.mem_of_getElem? (i := 205) (by decide +kernel)⟩
theorem lw_p4 : lw_okq (⟨"NumberCircuitsModel", "out", "(II)Z"⟩, 4) := ⟨⟨by decide +kernel, by decide +kernel⟩, List.mem_of_getElem? (i := 208) (by decide +kernel), List.mem_of_getElem? (i := 236) (by decide +kernel), List.mem_of_getElem? (i := 237) (by decide +kernel)⟩
theorem lw_p5 : lw_okq (⟨"NumberCircuitsModel", "result", "(III)I"⟩, 4) := ⟨⟨by decide +kernel, by decide +kernel⟩, List.mem_of_getElem? (i := 208) (by decide +kernel), List.mem_of_getElem? (i := 248) (by decide +kernel), List.mem_of_getElem? (i := 249) (by decide +kernel)⟩
theorem lw_p6 : lw_okq (⟨"NumberCircuitsModel", "fail", "(I)I"⟩, 4) := ⟨⟨by decide +kernel, by decide +kernel⟩, List.mem_of_getElem? (i := 208) (by decide +kernel), List.mem_of_getElem? (i := 256) (by decide +kernel), List.mem_of_getElem? (i := 257) (by decide +kernel)⟩
theorem lw_p7 : lw_okq (⟨"NumberCircuitsModel", "yes", "(I)I"⟩, 4) := ⟨⟨by decide +kernel, by decide +kernel⟩, List.mem_of_getElem? (i := 208) (by decide +kernel), List.mem_of_getElem? (i := 260) (by decide +kernel), List.mem_of_getElem? (i := 261) (by decide +kernel)⟩
def lw_privs_1 : List (MethodName × Nat) := [(⟨"java/lang/Throwable", "fillInStackTrace", "(I)Ljava/lang/Throwable;"⟩, 6), (⟨"NumberCircuits", "setTruth", "(IIZ)V"⟩, 2), (⟨"NumberCircuits", "isYes", "(II)Z"⟩, 2), (⟨"NumberCircuits", "isZeroEverywhere", "(I)Z"⟩, 2), (⟨"NumberCircuitsModel", "out", "(II)Z"⟩, 4), (⟨"NumberCircuitsModel", "result", "(III)I"⟩, 4), (⟨"NumberCircuitsModel", "fail", "(I)I"⟩, 4), (⟨"NumberCircuitsModel", "yes", "(I)I"⟩, 4)]
theorem lw_r1 : ∀ q ∈ lw_privs_1, lw_okq q := List.forall_mem_cons.mpr ⟨lw_p0, List.forall_mem_cons.mpr ⟨lw_p1, List.forall_mem_cons.mpr ⟨lw_p2, List.forall_mem_cons.mpr ⟨lw_p3, List.forall_mem_cons.mpr ⟨lw_p4, List.forall_mem_cons.mpr ⟨lw_p5, List.forall_mem_cons.mpr ⟨lw_p6, List.forall_mem_cons.mpr ⟨lw_p7, fun _ h => absurd h List.not_mem_nil⟩⟩⟩⟩⟩⟩⟩⟩
def lw_privs : List (MethodName × Nat) := lw_privs_1
def lw_tbl : List Cond := k2_sels lw_privs ++ tables_1
theorem lw_privs_ok : ∀ q ∈ lw_privs, lw_okq q := lw_r1
end
section
/-! ===== BEGIN words of one list among another's, by their places ===== -/
theorem goodIn_r {big : List Cond} (ws : List Cond) (ps : List Nat) (hp : ws = ps.filterMap (fun i => big[i]?)) (h : ws.all goodWord = true) : GoodIn big ws := by
  intro w hw
  have h1 := List.all_eq_true.mp h w hw
  rw [hp] at hw
  obtain ⟨i, -, hi⟩ := List.mem_filterMap.mp hw
  have hm : w ∈ big := by first | exact List.mem_of_getElem? hi | exact List.getElem?_mem hi
  exact ⟨hm, good_of_word h1⟩
theorem goodIn_app {big a b : List Cond} (ha : GoodIn big a) (hb : GoodIn big b) : GoodIn big (a ++ b) := fun w h => (List.mem_append.mp h).elim (ha w) (hb w)
theorem goodIn_ca {big a b : List Cond} {c : Cond} (ha : GoodIn big (c :: a)) (hb : GoodIn big b) : GoodIn big (c :: (a ++ b)) := fun w h => (List.mem_cons.mp h).elim (fun e => ha w (List.mem_cons.mpr (Or.inl e))) (fun h => (List.mem_append.mp h).elim (fun h => ha w (List.mem_cons.mpr (Or.inr h))) (hb w))
theorem goodIn_sub {big ws : List Cond} (hm : ∀ w ∈ ws, w ∈ big) (h : ws.all goodWord = true) : GoodIn big ws := fun w hw => ⟨hm w hw, good_of_word (List.all_eq_true.mp h w hw)⟩
/-! ===== END ===== -/

/-! ===== BEGIN exceptions that leave a method, and their catching by the caller (launches without stack traces) ===== -/
section VXA
/-! The laws vx_back, vx_callV, vx_callS, vx_callSW, vx_throw0, vx_throwS follow proofs of the library, with one case more: JvmDerived/Free/Laws.lean (Back.of_free), Shelf42/LK1.lean (callV, callS), Shelf/KitTraced.lean (throwNew0V, throwNewS). -/
/-- where a method has thrown q: the class by its name, the cell, what was written, the world -/
def vx_T (XC : String → State → State → Prop) (st : State) (q : Addr) (t : State) (mc ms : Nat) (free : Addr → Prop) : Prop :=
  ∃ (E : String) (ce : Cell) (L : List Loc), XC E st t ∧ t.heap[q]? = some ce ∧ ce.vm = .none ∧ st.vm.findClass E = some ce.cls ∧ st.WarmedH t.vm ∧ st.sameButNew ({ t with vm := st.vm } : State) L mc ms ∧ ∀ z ∈ L, free z.base
def vx_Q (Qc : Array Value → State → Outcome → State → Prop) (XC : String → State → State → Prop) (mc ms : Nat) (free : Addr → Prop) : Array Value → State → Outcome → State → Prop := fun a st o t =>
  (Qc a st o t ∧ ∃ L, FrameEnd st o t L mc ms ∧ ∀ q ∈ L, free q.base) ∨ ∃ q, o = .threw q ∧ vx_T XC st q t mc ms free
/-- a callee that returns or throws -/
def vx_Met (l : Launch) (y : MethodName) (ws : List Cond) (rm : Room) (Pc : Array Value → State → Prop) (Qc : Array Value → State → Outcome → State → Prop) (XC : String → State → State → Prop) (mc ms : Nat) (free : Addr → Prop) : Prop :=
  MetFree l y (headSpec ws rm) Pc (fun _ _ _ _ _ => True) (vx_Q Qc XC mc ms free)
def vx_Post (XC : String → State → State → Prop) (mc ms : Nat) (free : Addr → Prop) : Pt → Array Value → Addr → Pt → Prop := fun A a q B =>
  ∃ (g : JFrame) (mk : MethodId) (t : State) (L : List Loc) (E : String) (ce : Cell), B.U.heap = t.heap ∧ B.U.vm = t.vm ∧ XC E (A.U.calling g mk a) t ∧ t.heap[q]? = some ce ∧ ce.vm = .none ∧ A.U.vm.findClass E = some ce.cls ∧ B.locs = A.locs ++ L ∧ (∀ z ∈ L, free z.base) ∧ B.cells = A.cells + mc ∧ B.slots = A.slots + ms
def vx_Back (l : Launch) (R : Room) (p : Program) (e : Env) (below : List Frame) (s : State) (sargs : Array Value) (y : MethodName) (len W9 : Nat)
    (Pre : Pt → Array Value → Prop) (Post : Pt → Array Value → Option Value → Pt → Prop) (PostX : Pt → Array Value → Addr → Pt → Prop) : Prop :=
  ∀ (m : MethodId) (meth : Method) (c : Code) (A : Pt) (g : JFrame) (ig : Instr) (mk : MethodId) (a : Array Value),
    Stand p l e R s m sargs below meth c A.U A.locs A.cells A.slots → g.method = m → g.locals.size = c.maxLocals → decode c.code g.pc = .ok (ig, len) →
    2 * g.monitorRoom + (g.stack.map fun v => v.category).sum ≤ W9 → A.U.methodNamed? y = some mk → Pre A a →
    (∃ (v : Option Value) (B : Pt), Stand p l e R s m sargs below meth c B.U B.locs B.cells B.slots ∧ Post A a v B ∧
      Steps p.tables e below (doInvoke e (A.U.setTop g) [] mk a).1 (B.U.setTop { g with pc := g.pc + len, stack := v.toList ++ g.stack })) ∨
    (∃ (q : Addr) (B : Pt), Stand p l e R s m sargs below meth c B.U B.locs B.cells B.slots ∧ PostX A a q B ∧
      Steps p.tables e below (doInvoke e (A.U.setTop g) [] mk a).1 ((B.U.setTop g).pushFrame (.throwing q)))
section Payer
variable {l : Launch} {R : Room} {p : Program} {e : Env} {below : List Frame} {s : State} {sargs : Array Value} {y : MethodName} {len W9 : Nat}
theorem vx_back {ws : List Cond} {rm : Room} {Pc : Array Value → State → Prop} {Qc : Array Value → State → Outcome → State → Prop} {XC : String → State → State → Prop} {mc ms : Nat} {free : Addr → Prop} {bytes : ByteArray} {maxL : Nat} {ret : Option FieldType}
    (hM : vx_Met l y ws rm Pc Qc XC mc ms free) (hblind : FrameBlind Pc) (hrc : rm.cells = mc) (hrs : rm.slots = ms)
    (hframes : rm.frames + 1 ≤ R.frames) (hlocals : W9 + (maxL + 11) + rm.locals ≤ R.locals)
    (hws : ∀ w ∈ ws, ∀ a' U, s.WarmedH U.vm → w.before a' U = true) (hcode : Cond.code y bytes maxL ret ∈ ws) (hinit : ∀ a' U, s.WarmedH U.vm → (Cond.initialized y.cls).before a' U = true) :
    vx_Back l R p e below s sargs y len W9 (PreOf R mc ms Pc) (PostOf Qc mc ms free) (vx_Post XC mc ms free) := by
  intro m meth c A g ig mk a X hg hsize hdg hW hn hp
  have h1 : (headSpec ws rm).pre.before a A.U = true := atoms_intro fun w hw => hws w hw _ _ X.warmed
  have h2 : (Cond.code y bytes maxL ret).before a A.U = true := hws _ hcode _ _ X.warmed
  have h3 : (Cond.initialized y.cls).before a A.U = true := hinit _ _ X.warmed
  have h4 : A.cells + (headSpec ws rm).room.cells ≤ R.cells := by rw [show (headSpec ws rm).room.cells = mc from hrc]; exact hp.1
  have h5 : A.slots + (headSpec ws rm).room.slots ≤ R.slots := by rw [show (headSpec ws rm).room.slots = ms from hrs]; exact hp.2.1
  have hPc : Pc a (A.U.calling g mk a) := hblind _ _ _ _ hp.2.2
  obtain ⟨U, Ls, c0, s0⟩ := A
  dsimp only [Pt.U, Pt.locs, Pt.cells, Pt.slots] at h1 h2 h3 h4 h5 X hn hPc ⊢
  obtain ⟨methY, cY, hmY, hcY, -, hlY, -, -, -, -⟩ := Cond.code_spec hn h2
  obtain ⟨kY, hkY, -⟩ := className_of_methodNamed hn
  have hinitY : kY.init = .initialized := Cond.initialized_spec (findClass_of_methodNamed hn) hkY h3
  have h : At U g.method c below := by rw [hg]; exact X.here
  have hlocals9 : W9 + (maxL + 11) + (headSpec ws rm).room.locals ≤ R.locals := hlocals
  have happ : (headSpec ws rm).appliesLoose y e.platform (U.calling g mk a) = true :=
    Spec.appliesLoose_calling (g := g) h hdg hn hkY hinitY
      (X.room_calling (g := g) (R' := (headSpec ws rm).room) hsize hmY hcY hframes (by rw [hlY]; omega) h4 h5) h1
  obtain ⟨mid, hmid⟩ := h.above
  have hfr : (U.setTop g).frames = (.java g :: mid) ++ below := by rw [State.frames_setTop' g h.top, hmid]; rfl
  obtain ⟨o, s₂, hsteps, -, hend, hq⟩ := Steps.callFree hM p X.admits X.cas X.clock (acts := []) hfr happ hPc trivial
  have hq' : vx_Q Qc XC mc ms free a (U.calling g mk a) o s₂ := hq
  rw [State.frames_setTop' g h.top] at hend
  obtain ⟨g₀, hg0⟩ := Option.isSome_iff_exists.mp h.top
  obtain ⟨r, hr⟩ := State.topJava?_eq_some.mp hg0
  have hr' : (({ U with heap := s₂.heap, slotsUsed := s₂.slotsUsed } : State).setVm s₂.vm).frames = .java g₀ :: r := hr
  rcases hq' with ⟨hqc, L, hfe, hL⟩ | ⟨q, rfl, E, ce, L, hx, hce, hcv, hcl, hW₂, hsm, hL⟩
  · obtain ⟨⟨v, rfl⟩, hW₂, e2, q2, q3, q4, q5, q6⟩ := id hfe
    have e3 : s₂ = ({ (U.calling g mk a).setFrames s₂.frames with heap := s₂.heap, slotsUsed := s₂.slotsUsed } : State).setVm s₂.vm := by
      have : s₂ = ({ s₂ with vm := (U.calling g mk a).vm } : State).setVm s₂.vm := rfl
      rw [e2] at this
      exact this
    obtain ⟨c₂, i₂, len₂, hc₂, hd₂, hf₂⟩ := hend
    have hW' : U.WarmedH s₂.vm := hW₂
    have hcc : c₂ = c := by
      have h1 : s₂.code? g.method = U.code? g.method := by
        rw [State.code?_eq, State.code?_eq, hW'.alike.method?]
      exact Option.some.inj (hc₂.symm.trans (h1.trans h.code))
    subst hcc
    have hlen : len₂ = len := by rw [hdg] at hd₂; cases hd₂; rfl
    subst hlen
    have hs₂ : s₂ = (({ U with heap := s₂.heap, slotsUsed := s₂.slotsUsed } : State).setVm s₂.vm).setTop { g with pc := g.pc + len₂, stack := v.toList ++ g.stack } := by
      refine e3.trans ?_
      rw [hf₂, State.calling_eq h.top, State.setFrames_setFrames, State.setTop_of_frames _ hr', hr]
      rfl
    have hsame : U.sameButNew ({ U with heap := s₂.heap, slotsUsed := s₂.slotsUsed } : State) L mc ms := by
      refine ⟨?_, q2, q3, q4, q5, q6⟩
      obtain ⟨t, ht, -⟩ := State.frames_cons hr
      show ({ U with heap := s₂.heap, slotsUsed := s₂.slotsUsed } : State) = { U.setFrames U.frames with heap := s₂.heap, slotsUsed := s₂.slotsUsed }
      rw [State.setFrames_self ht]
    subst hg
    refine Or.inl ⟨v, ⟨(({ U with heap := s₂.heap, slotsUsed := s₂.slotsUsed } : State).setVm s₂.vm), Ls ++ L, c0 + mc, s0 + ms⟩,
      ⟨X.admits, X.cas, X.clock, X.frames, X.room, X.hears, X.method, X.code, (X.here.setHeapUsed s₂.heap s₂.slotsUsed).setVm hW'.alike, X.tail, State.WarmedH.trans X.warmed hW', X.limits, X.bytes, X.same.trans (hsame.setVm s.vm)⟩,
      ⟨g, mk, s₂, L, rfl, rfl, hqc, rfl, hL, rfl, rfl⟩, ?_⟩
    show Steps p.tables e below _ ((({ U with heap := s₂.heap, slotsUsed := s₂.slotsUsed } : State).setVm s₂.vm).setTop { g with pc := g.pc + len₂, stack := v.toList ++ g.stack })
    rw [← hs₂]
    exact hsteps
  · obtain ⟨e2, q2, q3, q4, q5, q6⟩ := id hsm
    have e3 : s₂ = ({ (U.calling g mk a).setFrames s₂.frames with heap := s₂.heap, slotsUsed := s₂.slotsUsed } : State).setVm s₂.vm := by
      have : s₂ = ({ s₂ with vm := (U.calling g mk a).vm } : State).setVm s₂.vm := rfl
      rw [e2] at this
      exact this
    have hf₂ : s₂.frames = .throwing q :: .java g :: U.frames.tail := hend
    have hW' : U.WarmedH s₂.vm := hW₂
    have hs₂ : s₂ = ((({ U with heap := s₂.heap, slotsUsed := s₂.slotsUsed } : State).setVm s₂.vm).setTop g).pushFrame (.throwing q) := by
      refine e3.trans ?_
      rw [hf₂, State.calling_eq h.top, State.setFrames_setFrames, State.pushFrame, State.frames_setTop _ hr', State.setTop_of_frames _ hr', State.setFrames_setFrames, hr]
      rfl
    have hsame : U.sameButNew ({ U with heap := s₂.heap, slotsUsed := s₂.slotsUsed } : State) L mc ms := by
      refine ⟨?_, q2, q3, q4, q5, q6⟩
      obtain ⟨t, ht, -⟩ := State.frames_cons hr
      show ({ U with heap := s₂.heap, slotsUsed := s₂.slotsUsed } : State) = { U.setFrames U.frames with heap := s₂.heap, slotsUsed := s₂.slotsUsed }
      rw [State.setFrames_self ht]
    subst hg
    refine Or.inr ⟨q, ⟨(({ U with heap := s₂.heap, slotsUsed := s₂.slotsUsed } : State).setVm s₂.vm), Ls ++ L, c0 + mc, s0 + ms⟩,
      ⟨X.admits, X.cas, X.clock, X.frames, X.room, X.hears, X.method, X.code, (X.here.setHeapUsed s₂.heap s₂.slotsUsed).setVm hW'.alike, X.tail, State.WarmedH.trans X.warmed hW', X.limits, X.bytes, X.same.trans (hsame.setVm s.vm)⟩,
      ⟨g, mk, s₂, L, E, ce, rfl, rfl, hx, hce, hcv, hcl, rfl, hL, rfl, rfl⟩, ?_⟩
    show Steps p.tables e below _ (((({ U with heap := s₂.heap, slotsUsed := s₂.slotsUsed } : State).setVm s₂.vm).setTop g).pushFrame (.throwing q))
    rw [← hs₂]
    exact hsteps
end Payer
section Calls
variable {p : Program} {l : Launch} {e : Env} {R : Room} {s : State} {m : MethodId} {args : Array Value} {below : List Frame} {meth : Method} {c : Code} {T : State} {locs : List Loc} {cells slots : Nat}
theorem vx_callV (X : Stand p l e R s m args below meth c T locs cells slots) (hexec : p.tables.exec = Jvm.exec) {own C : String} {index : Nat} {y : MethodName} {bytes : ByteArray} {maxL : Nat} {ret : Option FieldType}
    (hown : s.vm.findClass own = some m.cls) (hlink : (Cond.methodLink own index y).before args s = true) (hinst : (Cond.instanceMethod y).before args s = true) (hsel : (Cond.selects C y y).before args s = true)
    (hcode : (Cond.code y bytes maxL ret).before args s = true) (hy : y.cls ≠ "java/lang/invoke/MethodHandle" ∧ y.cls ≠ "java/lang/invoke/VarHandle")
    {W9 : Nat} {Pre : Pt → Array Value → Prop} {Post : Pt → Array Value → Option Value → Pt → Prop} {PostX : Pt → Array Value → Addr → Pt → Prop} (hK : vx_Back l R p e below s args y 3 W9 Pre Post PostX)
    {b : Addr} {cellB : Cell} (hcell : T.heap[b]? = some cellB) (hobj : cellB.vm.isStatics = false) (hcls : s.vm.findClass C = some cellB.cls)
    {g : JFrame} (hg : g.method = m) (hsize : g.locals.size = c.maxLocals) {argsL rest : List Value} (hlen : ∀ sig, parseMethodDescriptor y.desc = some sig → argsL.length = sig.parameters.length)
    (hstack : g.stack = argsL.reverse ++ .ref b :: rest) (hW : 2 * g.monitorRoom + (rest.map fun v => v.category).sum ≤ W9) (hdg : decode c.code g.pc = .ok (.invokevirtual index, 3))
    (hpre : ∀ vm₁, s.WarmedH vm₁ → Pre ⟨T.setVm vm₁, locs, cells, slots⟩ (Value.ref b :: argsL).toArray) :
    (∃ (v : Option Value) (vm₁ : Vm) (B : Pt), s.WarmedH vm₁ ∧ Stand p l e R s m args below meth c B.U B.locs B.cells B.slots ∧ Post ⟨T.setVm vm₁, locs, cells, slots⟩ (Value.ref b :: argsL).toArray v B ∧
      ∀ target, Steps p.tables e below (B.U.setTop { g with pc := g.pc + 3, stack := v.toList ++ rest }) target → Steps p.tables e below (T.setTop g) target) ∨
    (∃ (q : Addr) (vm₁ : Vm) (B : Pt), s.WarmedH vm₁ ∧ Stand p l e R s m args below meth c B.U B.locs B.cells B.slots ∧ PostX ⟨T.setVm vm₁, locs, cells, slots⟩ (Value.ref b :: argsL).toArray q B ∧
      Steps p.tables e below (T.setTop g) ((B.U.setTop { g with stack := rest }).pushFrame (.throwing q))) := by
  obtain ⟨mk, methM, hnamed, hmethM, hstM, habM⟩ := Cond.instanceMethod_spec hinst
  obtain ⟨methM', cM, hmethM', -, -, -, -, -, -, hsigM⟩ := Cond.code_spec hnamed hcode
  cases hmethM.symm.trans hmethM'
  obtain ⟨c2, r2, m2, q1, q2, q3, q4, kP, hkP, hkPi⟩ := Cond.selects_spec hsel
  cases hcls.symm.trans q1
  cases (State.methodFound?_of_named hnamed hy).symm.trans q2
  cases hnamed.symm.trans q3
  have hselP : selectMethod e.platform s.vm cellB.cls mk = .method mk := by rw [Launch.admits_selectMethod X.admits]; exact q4
  obtain ⟨vm₁, X₁, hstep₁⟩ := X.invokevirtual hexec hown hlink hnamed hmethM hstM hkP hkPi hy (a := b) (cell := cellB) hcell
    (fun z h => by rw [h] at hobj; cases hobj) hselP hmethM habM hkP hkPi (g := g) hg (argsL := argsL) (rest := rest) (hlen _ hsigM) hstack hdg
  rcases hK m meth c ⟨T.setVm vm₁, locs, cells, slots⟩ { g with stack := rest } (.invokevirtual index) mk (Value.ref b :: argsL).toArray X₁ hg hsize hdg hW (X₁.named hnamed) (hpre vm₁ X₁.warmed) with ⟨v, B, X', hpost, hsteps⟩ | ⟨q, B, X', hpost, hsteps⟩
  · exact Or.inl ⟨v, vm₁, B, X₁.warmed, X', hpost, fun target h => hstep₁ _ fun acts => by rw [doInvoke_state]; exact hsteps.trans h⟩
  · exact Or.inr ⟨q, vm₁, B, X₁.warmed, X', hpost, hstep₁ _ fun acts => by rw [doInvoke_state]; exact hsteps⟩
theorem vx_callS (X : Stand p l e R s m args below meth c T locs cells slots) (hexec : p.tables.exec = Jvm.exec) {own : String} {index : Nat} {y : MethodName} {bytes : ByteArray} {maxL : Nat} {ret : Option FieldType}
    (hown : s.vm.findClass own = some m.cls) (hlink : (Cond.methodLink own index y).before args s = true) (hstat : (Cond.static y).before args s = true) (hinit : (Cond.initialized y.cls).before args s = true)
    (hcode : (Cond.code y bytes maxL ret).before args s = true) (hy : y.cls ≠ "java/lang/invoke/MethodHandle" ∧ y.cls ≠ "java/lang/invoke/VarHandle")
    {W9 : Nat} {Pre : Pt → Array Value → Prop} {Post : Pt → Array Value → Option Value → Pt → Prop} {PostX : Pt → Array Value → Addr → Pt → Prop} (hK : vx_Back l R p e below s args y 3 W9 Pre Post PostX)
    {g : JFrame} (hg : g.method = m) (hsize : g.locals.size = c.maxLocals) {argsL rest : List Value} (hlen : ∀ sig, parseMethodDescriptor y.desc = some sig → argsL.length = sig.parameters.length)
    (hstack : g.stack = argsL.reverse ++ rest) (hW : 2 * g.monitorRoom + (rest.map fun v => v.category).sum ≤ W9) (hdg : decode c.code g.pc = .ok (.invokestatic index, 3))
    (hpre : ∀ vm₁, s.WarmedH vm₁ → Pre ⟨T.setVm vm₁, locs, cells, slots⟩ argsL.toArray) :
    (∃ (v : Option Value) (vm₁ : Vm) (B : Pt), s.WarmedH vm₁ ∧ Stand p l e R s m args below meth c B.U B.locs B.cells B.slots ∧ Post ⟨T.setVm vm₁, locs, cells, slots⟩ argsL.toArray v B ∧
      ∀ target, Steps p.tables e below (B.U.setTop { g with pc := g.pc + 3, stack := v.toList ++ rest }) target → Steps p.tables e below (T.setTop g) target) ∨
    (∃ (q : Addr) (vm₁ : Vm) (B : Pt), s.WarmedH vm₁ ∧ Stand p l e R s m args below meth c B.U B.locs B.cells B.slots ∧ PostX ⟨T.setVm vm₁, locs, cells, slots⟩ argsL.toArray q B ∧
      Steps p.tables e below (T.setTop g) ((B.U.setTop { g with stack := rest }).pushFrame (.throwing q))) := by
  obtain ⟨mk, hnamed⟩ := Cond.code_named hcode
  obtain ⟨methM, cM, hmethM, -, -, -, -, -, -, hsigM⟩ := Cond.code_spec hnamed hcode
  have hstatic : methM.isStatic = true := Cond.static_spec hnamed hmethM hstat
  obtain ⟨kP, hkP, -⟩ := className_of_methodNamed hnamed
  have hinitP : kP.init = .initialized := Cond.initialized_spec (findClass_of_methodNamed hnamed) hkP hinit
  obtain ⟨vm₁, X₁, hstep₁⟩ := X.invokestatic hexec hown hlink hnamed hmethM hstatic hkP hinitP hy (g := g) hg (argsL := argsL) (rest := rest) (hlen _ hsigM) hstack hdg
  rcases hK m meth c ⟨T.setVm vm₁, locs, cells, slots⟩ { g with stack := rest } (.invokestatic index) mk argsL.toArray X₁ hg hsize hdg hW (X₁.named hnamed) (hpre vm₁ X₁.warmed) with ⟨v, B, X', hpost, hsteps⟩ | ⟨q, B, X', hpost, hsteps⟩
  · exact Or.inl ⟨v, vm₁, B, X₁.warmed, X', hpost, fun target h => hstep₁ _ fun acts => by rw [doInvoke_state]; exact hsteps.trans h⟩
  · exact Or.inr ⟨q, vm₁, B, X₁.warmed, X', hpost, hstep₁ _ fun acts => by rw [doInvoke_state]; exact hsteps⟩
end Calls
theorem vx_cls {s : State} {T : State} {vm₁ : Vm} {E : String} {k : ClassId} (hW : s.WarmedH vm₁) (h : (T.setVm vm₁).vm.findClass E = some k) : s.vm.findClass E = some k := by
  have h1 : vm₁.findClass E = some k := h
  rw [hW.alike.findClass] at h1
  exact h1
/-- the method's frame g, with q thrown over it -/
def vx_W (p : Program) (l : Launch) (e : Env) (R : Room) (s : State) (m : MethodId) (args : Array Value) (below : List Frame) (meth : Method) (c : Code) (H : Heap) (locs : List Loc) (cells slots : Nat) (Q : State → Prop) (g : JFrame) (q : Addr) : Prop :=
  ∀ T : State, T.heap = H → Stand p l e R s m args below meth c T locs cells slots → ∃ t, Steps p.tables e below ((T.setTop g).pushFrame (.throwing q)) t ∧ Q t
def vx_Run (p : Program) (l : Launch) (e : Env) (R : Room) (s : State) (m : MethodId) (args : Array Value) (below : List Frame) (meth : Method) (c : Code) (H : Heap) (locs : List Loc) (cells slots mc ms : Nat) (g : JFrame) (rest : List Value) (Qa : State → Outcome → State → Prop) (XC : String → State → State → Prop) (free : Addr → Prop) : Prop :=
  ∀ T : State, T.heap = H → Stand p l e R s m args below meth c T locs cells slots →
    (∃ (v : Option Value) (st₀ t T' : State) (L : List Loc), st₀.heap = H ∧ Stand p l e R s m args below meth c T' (locs ++ L) (cells + mc) (slots + ms) ∧ (∀ q ∈ L, free q.base) ∧ T'.heap = t.heap ∧ T'.vm = t.vm ∧ Qa st₀ (.returned v) t ∧
      Goes p e below T g T' { g with pc := g.pc + 3, stack := v.toList ++ rest }) ∨
    (∃ (q : Addr) (st₀ t T' : State) (L : List Loc) (E : String) (ce : Cell), st₀.heap = H ∧ Stand p l e R s m args below meth c T' (locs ++ L) (cells + mc) (slots + ms) ∧ (∀ z ∈ L, free z.base) ∧ T'.heap = t.heap ∧ T'.vm = t.vm ∧ XC E st₀ t ∧ t.heap[q]? = some ce ∧ ce.vm = .none ∧ s.vm.findClass E = some ce.cls ∧
      Steps p.tables e below (T.setTop g) ((T'.setTop { g with stack := rest }).pushFrame (.throwing q)))
def vx_X {S : Type} (px : S → Prop) (B : String → S → State → Prop) (A : Nat → Prop) : String → State → State → Prop := fun E st t => ∃ u : S, px u ∧ B E u t ∧ va_F A st t
section Runs
variable {p : Program} {l : Launch} {e : Env} {R : Room} {s : State} {m : MethodId} {args : Array Value} {below : List Frame} {meth : Method} {c : Code} {H : Heap} {locs : List Loc} {cells slots : Nat}
variable {y : MethodName} {bytes cc : ByteArray} {maxL nL mc ms n index : Nat} {ret : Option FieldType} {ws : List Cond} {rm : Room} {Pc : Array Value → State → Prop} {Qc : Array Value → State → Outcome → State → Prop} {XC : String → State → State → Prop} {free : Addr → Prop} {Ts : List Cond} {own C : String} {b : Addr} {As rest : List Value} {g : JFrame}
theorem vx_callBack (cb : CallB R s args own index y bytes maxL ret ws rm mc ms n) (hM : vx_Met l y ws rm Pc Qc XC mc ms free) (hbl : FrameBlind Pc) : vx_Back l R p e below s args y 3 8 (PreOf R mc ms Pc) (PostOf Qc mc ms free) (vx_Post XC mc ms free) := by
  obtain ⟨hrc, hrs, hfr, hlo, hws, hcw, -, hini, -⟩ := cb
  exact vx_back (bytes := bytes) (maxL := maxL) (ret := ret) hM hbl hrc hrs hfr hlo hws hcw (fun a' U hW => word_at hW (Or.inl (by first | rfl | simp [Cond.onTables, Cond.keeps, Cond.steady])) hini)
theorem vx_runV (S : CallFix p m c cc nL s args Ts own) (hM : vx_Met l y ws rm Pc Qc XC mc ms free) (cw : CallW R s args own C index y bytes maxL ret ws rm mc ms n) (hp : PreV s H C b Pc As)
    (hg : g.method = m) (hn : As.length = n) (hsize : g.locals.size = nL) (hstack : g.stack = As.reverse ++ .ref b :: rest) (hW : 2 * g.monitorRoom + (rest.map fun v => v.category).sum ≤ 8) (hdg : decode cc g.pc = .ok (.invokevirtual index, 3)) (hf : cells + mc ≤ R.cells ∧ slots + ms ≤ R.slots) :
    vx_Run p l e R s m args below meth c H locs cells slots mc ms g rest (Qc (Value.ref b :: As).toArray) XC free := by
  have hK : vx_Back l R p e below s args y 3 8 (PreOf R mc ms Pc) (PostOf Qc mc ms free) (vx_Post XC mc ms free) := vx_callBack cw.1 hM hp.1
  obtain ⟨⟨-, -, -, -, -, -, hcode, -, hy, hlen, hl⟩, hin, hse⟩ := cw
  obtain ⟨hx, hb, hml, ho, -⟩ := S
  obtain ⟨-, ⟨cellB, hcB, hoB, hclB⟩, hPc⟩ := hp
  intro T hT X
  rcases vx_callV X hx (C := C) (bytes := bytes) (maxL := maxL) (ret := ret) ho hl hin hse hcode hy hK (by rw [hT]; exact hcB) hoB hclB hg (hsize.trans hml.symm) (argsL := As) (rest := rest) (fun sig h => hn.trans (hlen sig h)) hstack hW (by rw [hb]; exact hdg)
    (fun vm₁ hW₁ => ⟨hf.1, hf.2, hPc (T.setVm vm₁) hT hW₁⟩) with ⟨v, vm₁, ⟨U', l2, c2, s2⟩, hW₁, X', ⟨g', mk, t, L, e1, e2, hq, h1, hL, h2, h3⟩, st⟩ | ⟨q, vm₁, ⟨U', l2, c2, s2⟩, hW₁, X', ⟨g', mk, t, L, E, ce, e1, e2, hq, hce, hcv, hcl, h1, hL, h2, h3⟩, st⟩
  · dsimp only [Pt.U, Pt.locs, Pt.cells, Pt.slots] at X' e1 e2 h1 h2 h3 st
    subst h1; subst h2; subst h3
    exact Or.inl ⟨v, (T.setVm vm₁).calling g' mk (Value.ref b :: As).toArray, t, U', L, hT, X', hL, e1, e2, hq, st⟩
  · dsimp only [Pt.U, Pt.locs, Pt.cells, Pt.slots] at X' e1 e2 h1 h2 h3 st hcl
    subst h1; subst h2; subst h3
    exact Or.inr ⟨q, (T.setVm vm₁).calling g' mk (Value.ref b :: As).toArray, t, U', L, E, ce, hT, X', hL, e1, e2, hq, hce, hcv, vx_cls hW₁ hcl, st⟩
theorem vx_runS (S : CallFix p m c cc nL s args Ts own) (hM : vx_Met l y ws rm Pc Qc XC mc ms free) (cw : CallB R s args own index y bytes maxL ret ws rm mc ms n ∧ (Cond.static y).before args s = true) (hp : PreS s H Pc As)
    (hg : g.method = m) (hn : As.length = n) (hsize : g.locals.size = nL) (hstack : g.stack = As.reverse ++ rest) (hW : 2 * g.monitorRoom + (rest.map fun v => v.category).sum ≤ 8) (hdg : decode cc g.pc = .ok (.invokestatic index, 3)) (hf : cells + mc ≤ R.cells ∧ slots + ms ≤ R.slots) :
    vx_Run p l e R s m args below meth c H locs cells slots mc ms g rest (Qc As.toArray) XC free := by
  have hK : vx_Back l R p e below s args y 3 8 (PreOf R mc ms Pc) (PostOf Qc mc ms free) (vx_Post XC mc ms free) := vx_callBack cw.1 hM hp.1
  obtain ⟨⟨-, -, -, -, -, -, hcode, hini, hy, hlen, hl⟩, hstt⟩ := cw
  obtain ⟨hx, hb, hml, ho, -⟩ := S
  intro T hT X
  rcases vx_callS X hx (bytes := bytes) (maxL := maxL) (ret := ret) ho hl hstt hini hcode hy hK hg (hsize.trans hml.symm) (argsL := As) (rest := rest) (fun sig h => hn.trans (hlen sig h)) hstack hW (by rw [hb]; exact hdg)
    (fun vm₁ hW₁ => ⟨hf.1, hf.2, hp.2 (T.setVm vm₁) hT hW₁⟩) with ⟨v, vm₁, ⟨U', l2, c2, s2⟩, hW₁, X', ⟨g', mk, t, L, e1, e2, hq, h1, hL, h2, h3⟩, st⟩ | ⟨q, vm₁, ⟨U', l2, c2, s2⟩, hW₁, X', ⟨g', mk, t, L, E, ce, e1, e2, hq, hce, hcv, hcl, h1, hL, h2, h3⟩, st⟩
  · dsimp only [Pt.U, Pt.locs, Pt.cells, Pt.slots] at X' e1 e2 h1 h2 h3 st
    subst h1; subst h2; subst h3
    exact Or.inl ⟨v, (T.setVm vm₁).calling g' mk As.toArray, t, U', L, hT, X', hL, e1, e2, hq, st⟩
  · dsimp only [Pt.U, Pt.locs, Pt.cells, Pt.slots] at X' e1 e2 h1 h2 h3 st hcl
    subst h1; subst h2; subst h3
    exact Or.inr ⟨q, (T.setVm vm₁).calling g' mk As.toArray, t, U', L, E, ce, hT, X', hL, e1, e2, hq, hce, hcv, vx_cls hW₁ hcl, st⟩
end Runs
section Rows
variable {p : Program} {l : Launch} {e : Env} {R : Room} {s : State} {m : MethodId} {args : Array Value} {below : List Frame} {meth : Method} {c : Code} {H : Heap} {locs : List Loc} {cells slots : Nat} {Q : State → Prop}
variable {mc ms : Nat} {free : Addr → Prop} {A0 A1 : Nat → Prop} {H0 : Heap} {a : Array Value} {pc : Nat} {ls : Array Slot} {st0 rest : List Value}
theorem vx_keep {st₀ t T' : State} {L : List Loc} (h0 : st₀.heap = H) (e1 : T'.heap = t.heap) (hS : va_S A0 H0 H locs) (hA : ∀ q, q < H.size → A1 q → A0 q) (hf : ∀ q, free q → A0 q) (hL : ∀ q ∈ L, free q.base) (hF : va_F A1 st₀ t) :
    H.size ≤ T'.heap.size ∧ (∀ q : Nat, q < H.size → ¬ A1 q → T'.heap[q]? = H[q]?) ∧ va_S A0 H0 T'.heap (locs ++ L) := by
  obtain ⟨hz, hk⟩ := hF
  rw [h0] at hz hk
  exact ⟨by rw [e1]; exact hz, fun q h1 h2 => by rw [e1]; exact hk q h1 h2,
    ⟨Nat.le_trans hS.1 (by rw [e1]; exact hz), fun q h1 h2 => by rw [e1, hk q (Nat.lt_of_lt_of_le h1 hS.1) (fun z => h2 (hA q (Nat.lt_of_lt_of_le h1 hS.1) z))]; exact hS.2.1 q h1 h2, fun q hq => by
      rcases List.mem_append.mp hq with h | h
      · exact hS.2.2 q h
      · exact hf _ (hL q h)⟩⟩
theorem vx_calli {S SX : Type} {post : Int32 → S → Prop} {px : SX → Prop} {B : S → State → Prop} {BX : String → SX → State → Prop} {AX : Nat → Prop} (hr : vx_Run p l e R s m args below meth c H locs cells slots mc ms (F0 m pc ls st0) rest (va_Qi post B A1 a) (vx_X px BX AX) free) (hS : va_S A0 H0 H locs) (hA : ∀ q, q < H.size → A1 q → A0 q) (hf : ∀ q, free q → A0 q) (hAX : ∀ q, q < H.size → AX q → A0 q)
    (kx : ∀ (E : String) (ce : Cell) (q9 : Addr) (u : SX) (t : State) (H1 : Heap) (locs1 : List Loc), t.heap = H1 → s.vm.Alike t.vm → px u → BX E u t → H.size ≤ H1.size → (∀ q : Nat, q < H.size → ¬ AX q → H1[q]? = H[q]?) → va_S A0 H0 H1 locs1 → H1[q9]? = some ce → ce.vm = .none → s.vm.findClass E = some ce.cls → vx_W p l e R s m args below meth c H1 locs1 (cells + mc) (slots + ms) Q (F0 m pc ls rest) q9)
    (kk : ∀ (r : Int32) (u : S) (t : State) (H1 : Heap) (locs1 : List Loc), t.heap = H1 → s.vm.Alike t.vm → post r u → B u t → H.size ≤ H1.size → (∀ q : Nat, q < H.size → ¬ A1 q → H1[q]? = H[q]?) → va_S A0 H0 H1 locs1 → W p l e R s m args below meth c H1 locs1 (cells + mc) (slots + ms) Q (F0 m (pc + 3) ls (.int r :: rest))) : W p l e R s m args below meth c H locs cells slots Q (F0 m pc ls st0) := by
  intro T hT X
  rcases hr T hT X with ⟨v, st₀, t, T', L, h0, X', hL, e1, e2, ⟨⟨r, u, hv, hp, hb⟩, hF⟩, st⟩ | ⟨q, st₀, t, T', L, E, ce, h0, X', hL, e1, e2, ⟨u, hp, hb, hF⟩, hce, hcv, hcl, st⟩
  · cases hv
    obtain ⟨k1, k2, k3⟩ := vx_keep h0 e1 hS hA hf hL hF
    obtain ⟨t2, a1, b1⟩ := kk r u t T'.heap (locs ++ L) e1.symm (by rw [← e2]; exact X'.warmed.alike) hp hb k1 k2 k3 T' rfl X'
    exact ⟨t2, st t2 a1, b1⟩
  · obtain ⟨k1, k2, k3⟩ := vx_keep h0 e1 hS hAX hf hL hF
    obtain ⟨t2, a1, b1⟩ := kx E ce q u t T'.heap (locs ++ L) e1.symm (by rw [← e2]; exact X'.warmed.alike) hp hb k1 k2 k3 (by rw [e1]; exact hce) hcv hcl T' rfl X'
    exact ⟨t2, st.trans a1, b1⟩
theorem vx_calll {S SX : Type} {post : Int64 → S → Prop} {px : SX → Prop} {B : S → State → Prop} {BX : String → SX → State → Prop} {AX : Nat → Prop} (hr : vx_Run p l e R s m args below meth c H locs cells slots mc ms (F0 m pc ls st0) rest (va_Ql post B A1 a) (vx_X px BX AX) free) (hS : va_S A0 H0 H locs) (hA : ∀ q, q < H.size → A1 q → A0 q) (hf : ∀ q, free q → A0 q) (hAX : ∀ q, q < H.size → AX q → A0 q)
    (kx : ∀ (E : String) (ce : Cell) (q9 : Addr) (u : SX) (t : State) (H1 : Heap) (locs1 : List Loc), t.heap = H1 → s.vm.Alike t.vm → px u → BX E u t → H.size ≤ H1.size → (∀ q : Nat, q < H.size → ¬ AX q → H1[q]? = H[q]?) → va_S A0 H0 H1 locs1 → H1[q9]? = some ce → ce.vm = .none → s.vm.findClass E = some ce.cls → vx_W p l e R s m args below meth c H1 locs1 (cells + mc) (slots + ms) Q (F0 m pc ls rest) q9)
    (kk : ∀ (r : Int64) (u : S) (t : State) (H1 : Heap) (locs1 : List Loc), t.heap = H1 → s.vm.Alike t.vm → post r u → B u t → H.size ≤ H1.size → (∀ q : Nat, q < H.size → ¬ A1 q → H1[q]? = H[q]?) → va_S A0 H0 H1 locs1 → W p l e R s m args below meth c H1 locs1 (cells + mc) (slots + ms) Q (F0 m (pc + 3) ls (.long r :: rest))) : W p l e R s m args below meth c H locs cells slots Q (F0 m pc ls st0) := by
  intro T hT X
  rcases hr T hT X with ⟨v, st₀, t, T', L, h0, X', hL, e1, e2, ⟨⟨r, u, hv, hp, hb⟩, hF⟩, st⟩ | ⟨q, st₀, t, T', L, E, ce, h0, X', hL, e1, e2, ⟨u, hp, hb, hF⟩, hce, hcv, hcl, st⟩
  · cases hv
    obtain ⟨k1, k2, k3⟩ := vx_keep h0 e1 hS hA hf hL hF
    obtain ⟨t2, a1, b1⟩ := kk r u t T'.heap (locs ++ L) e1.symm (by rw [← e2]; exact X'.warmed.alike) hp hb k1 k2 k3 T' rfl X'
    exact ⟨t2, st t2 a1, b1⟩
  · obtain ⟨k1, k2, k3⟩ := vx_keep h0 e1 hS hAX hf hL hF
    obtain ⟨t2, a1, b1⟩ := kx E ce q u t T'.heap (locs ++ L) e1.symm (by rw [← e2]; exact X'.warmed.alike) hp hb k1 k2 k3 (by rw [e1]; exact hce) hcv hcl T' rfl X'
    exact ⟨t2, st.trans a1, b1⟩
theorem vx_callf {S SX : Type} {post : UInt32 → S → Prop} {px : SX → Prop} {B : S → State → Prop} {BX : String → SX → State → Prop} {AX : Nat → Prop} (hr : vx_Run p l e R s m args below meth c H locs cells slots mc ms (F0 m pc ls st0) rest (va_Qf post B A1 a) (vx_X px BX AX) free) (hS : va_S A0 H0 H locs) (hA : ∀ q, q < H.size → A1 q → A0 q) (hf : ∀ q, free q → A0 q) (hAX : ∀ q, q < H.size → AX q → A0 q)
    (kx : ∀ (E : String) (ce : Cell) (q9 : Addr) (u : SX) (t : State) (H1 : Heap) (locs1 : List Loc), t.heap = H1 → s.vm.Alike t.vm → px u → BX E u t → H.size ≤ H1.size → (∀ q : Nat, q < H.size → ¬ AX q → H1[q]? = H[q]?) → va_S A0 H0 H1 locs1 → H1[q9]? = some ce → ce.vm = .none → s.vm.findClass E = some ce.cls → vx_W p l e R s m args below meth c H1 locs1 (cells + mc) (slots + ms) Q (F0 m pc ls rest) q9)
    (kk : ∀ (r : UInt32) (u : S) (t : State) (H1 : Heap) (locs1 : List Loc), t.heap = H1 → s.vm.Alike t.vm → post r u → B u t → H.size ≤ H1.size → (∀ q : Nat, q < H.size → ¬ A1 q → H1[q]? = H[q]?) → va_S A0 H0 H1 locs1 → W p l e R s m args below meth c H1 locs1 (cells + mc) (slots + ms) Q (F0 m (pc + 3) ls (.float r :: rest))) : W p l e R s m args below meth c H locs cells slots Q (F0 m pc ls st0) := by
  intro T hT X
  rcases hr T hT X with ⟨v, st₀, t, T', L, h0, X', hL, e1, e2, ⟨⟨r, u, hv, hp, hb⟩, hF⟩, st⟩ | ⟨q, st₀, t, T', L, E, ce, h0, X', hL, e1, e2, ⟨u, hp, hb, hF⟩, hce, hcv, hcl, st⟩
  · cases hv
    obtain ⟨k1, k2, k3⟩ := vx_keep h0 e1 hS hA hf hL hF
    obtain ⟨t2, a1, b1⟩ := kk r u t T'.heap (locs ++ L) e1.symm (by rw [← e2]; exact X'.warmed.alike) hp hb k1 k2 k3 T' rfl X'
    exact ⟨t2, st t2 a1, b1⟩
  · obtain ⟨k1, k2, k3⟩ := vx_keep h0 e1 hS hAX hf hL hF
    obtain ⟨t2, a1, b1⟩ := kx E ce q u t T'.heap (locs ++ L) e1.symm (by rw [← e2]; exact X'.warmed.alike) hp hb k1 k2 k3 (by rw [e1]; exact hce) hcv hcl T' rfl X'
    exact ⟨t2, st.trans a1, b1⟩
theorem vx_calld {S SX : Type} {post : UInt64 → S → Prop} {px : SX → Prop} {B : S → State → Prop} {BX : String → SX → State → Prop} {AX : Nat → Prop} (hr : vx_Run p l e R s m args below meth c H locs cells slots mc ms (F0 m pc ls st0) rest (va_Qd post B A1 a) (vx_X px BX AX) free) (hS : va_S A0 H0 H locs) (hA : ∀ q, q < H.size → A1 q → A0 q) (hf : ∀ q, free q → A0 q) (hAX : ∀ q, q < H.size → AX q → A0 q)
    (kx : ∀ (E : String) (ce : Cell) (q9 : Addr) (u : SX) (t : State) (H1 : Heap) (locs1 : List Loc), t.heap = H1 → s.vm.Alike t.vm → px u → BX E u t → H.size ≤ H1.size → (∀ q : Nat, q < H.size → ¬ AX q → H1[q]? = H[q]?) → va_S A0 H0 H1 locs1 → H1[q9]? = some ce → ce.vm = .none → s.vm.findClass E = some ce.cls → vx_W p l e R s m args below meth c H1 locs1 (cells + mc) (slots + ms) Q (F0 m pc ls rest) q9)
    (kk : ∀ (r : UInt64) (u : S) (t : State) (H1 : Heap) (locs1 : List Loc), t.heap = H1 → s.vm.Alike t.vm → post r u → B u t → H.size ≤ H1.size → (∀ q : Nat, q < H.size → ¬ A1 q → H1[q]? = H[q]?) → va_S A0 H0 H1 locs1 → W p l e R s m args below meth c H1 locs1 (cells + mc) (slots + ms) Q (F0 m (pc + 3) ls (.double r :: rest))) : W p l e R s m args below meth c H locs cells slots Q (F0 m pc ls st0) := by
  intro T hT X
  rcases hr T hT X with ⟨v, st₀, t, T', L, h0, X', hL, e1, e2, ⟨⟨r, u, hv, hp, hb⟩, hF⟩, st⟩ | ⟨q, st₀, t, T', L, E, ce, h0, X', hL, e1, e2, ⟨u, hp, hb, hF⟩, hce, hcv, hcl, st⟩
  · cases hv
    obtain ⟨k1, k2, k3⟩ := vx_keep h0 e1 hS hA hf hL hF
    obtain ⟨t2, a1, b1⟩ := kk r u t T'.heap (locs ++ L) e1.symm (by rw [← e2]; exact X'.warmed.alike) hp hb k1 k2 k3 T' rfl X'
    exact ⟨t2, st t2 a1, b1⟩
  · obtain ⟨k1, k2, k3⟩ := vx_keep h0 e1 hS hAX hf hL hF
    obtain ⟨t2, a1, b1⟩ := kx E ce q u t T'.heap (locs ++ L) e1.symm (by rw [← e2]; exact X'.warmed.alike) hp hb k1 k2 k3 (by rw [e1]; exact hce) hcv hcl T' rfl X'
    exact ⟨t2, st.trans a1, b1⟩
theorem vx_callv {S SX : Type} {post : S → Prop} {px : SX → Prop} {B : S → State → Prop} {BX : String → SX → State → Prop} {AX : Nat → Prop} (hr : vx_Run p l e R s m args below meth c H locs cells slots mc ms (F0 m pc ls st0) rest (va_Qv post B A1 a) (vx_X px BX AX) free) (hS : va_S A0 H0 H locs) (hA : ∀ q, q < H.size → A1 q → A0 q) (hf : ∀ q, free q → A0 q) (hAX : ∀ q, q < H.size → AX q → A0 q)
    (kx : ∀ (E : String) (ce : Cell) (q9 : Addr) (u : SX) (t : State) (H1 : Heap) (locs1 : List Loc), t.heap = H1 → s.vm.Alike t.vm → px u → BX E u t → H.size ≤ H1.size → (∀ q : Nat, q < H.size → ¬ AX q → H1[q]? = H[q]?) → va_S A0 H0 H1 locs1 → H1[q9]? = some ce → ce.vm = .none → s.vm.findClass E = some ce.cls → vx_W p l e R s m args below meth c H1 locs1 (cells + mc) (slots + ms) Q (F0 m pc ls rest) q9)
    (kk : ∀ (u : S) (t : State) (H1 : Heap) (locs1 : List Loc), t.heap = H1 → s.vm.Alike t.vm → post u → B u t → H.size ≤ H1.size → (∀ q : Nat, q < H.size → ¬ A1 q → H1[q]? = H[q]?) → va_S A0 H0 H1 locs1 → W p l e R s m args below meth c H1 locs1 (cells + mc) (slots + ms) Q (F0 m (pc + 3) ls (rest))) : W p l e R s m args below meth c H locs cells slots Q (F0 m pc ls st0) := by
  intro T hT X
  rcases hr T hT X with ⟨v, st₀, t, T', L, h0, X', hL, e1, e2, ⟨⟨u, hv, hp, hb⟩, hF⟩, st⟩ | ⟨q, st₀, t, T', L, E, ce, h0, X', hL, e1, e2, ⟨u, hp, hb, hF⟩, hce, hcv, hcl, st⟩
  · cases hv
    obtain ⟨k1, k2, k3⟩ := vx_keep h0 e1 hS hA hf hL hF
    obtain ⟨t2, a1, b1⟩ := kk u t T'.heap (locs ++ L) e1.symm (by rw [← e2]; exact X'.warmed.alike) hp hb k1 k2 k3 T' rfl X'
    exact ⟨t2, st t2 a1, b1⟩
  · obtain ⟨k1, k2, k3⟩ := vx_keep h0 e1 hS hAX hf hL hF
    obtain ⟨t2, a1, b1⟩ := kx E ce q u t T'.heap (locs ++ L) e1.symm (by rw [← e2]; exact X'.warmed.alike) hp hb k1 k2 k3 (by rw [e1]; exact hce) hcv hcl T' rfl X'
    exact ⟨t2, st.trans a1, b1⟩
/-- caught by the row x of this method's table; the rows ahead don't take it -/
theorem vx_catch {own name : String} {E : String} {ce : Cell} {q : Addr} (hown : s.vm.findClass own = some m.cls) (pre : List ExceptionTableEntry) (x : ExceptionTableEntry) (suf : List ExceptionTableEntry) (hsplit : c.exceptionTable.toList = pre ++ x :: suf)
    (hpass : ∀ z ∈ pre, covers z pc = false ∨ (z.catchType ≠ 0 ∧ ∃ nm : String, (Cond.classLink own z.catchType nm).before args s = true ∧ va_Nc E nm s)) (hx : covers x pc = true) (h0 : x.catchType ≠ 0)
    (hlink : (Cond.classLink own x.catchType name).before args s = true) (hcast : (Cond.castable E name).before args s = true) (hcell : H[q]? = some ce) (hv : ce.vm = .none) (hcl : s.vm.findClass E = some ce.cls)
    (kk : W p l e R s m args below meth c H locs cells slots Q (F0 m x.handlerPc ls [.ref q])) : vx_W p l e R s m args below meth c H locs cells slots Q (F0 m pc ls rest) q := by
  intro T hT X
  have hpl : e.platform.magicAccessors = ({} : Platform).magicAccessors := by rw [X.admits.platform]
  obtain ⟨c3, c4, hc3, hc4, hasg⟩ := Cond.castable_spec hcast
  cases Option.some.inj (hc3.symm.trans hcl)
  obtain ⟨c5, hc5, hcl5⟩ := Cond.classLink_spec hown hlink e.platform hpl
  cases Option.some.inj (hc4.symm.trans hc5)
  obtain ⟨vm', X', st⟩ := X.thenCaughtThrough q (g := F0 m pc ls rest) rfl (Steps.refl _) (by rw [hT]; exact hcell) (by rw [hv]; rfl) (by obtain ⟨k9, h9, -⟩ := Vm.findClass_spec hcl; exact ⟨k9, h9⟩) pre x suf hsplit
    (fun z hz => by
      rcases hpass z hz with h | ⟨hz0, nm, hl1, hn1⟩
      · exact Or.inl h
      · obtain ⟨c6, hc6, hcl6⟩ := Cond.classLink_spec hown hl1 e.platform hpl
        obtain ⟨a8, b8, h1, h2, h3⟩ := hn1
        cases Option.some.inj (h1.symm.trans hcl)
        cases Option.some.inj (h2.symm.trans hc6)
        exact Or.inr ⟨hz0, _, hcl6, h3⟩) hx (Or.inr ⟨h0, c4, hcl5, hasg⟩)
  obtain ⟨t, a1, b1⟩ := kk (T.setVm vm') hT X'
  exact ⟨t, st.trans a1, b1⟩
end Rows
section Ends
variable {p : Program} {l : Launch} {e : Env} {R : Room} {s : State} {m : MethodId} {args : Array Value} {below : List Frame} {meth : Method} {c : Code} {H : Heap} {locs : List Loc} {cells slots : Nat} {Q : State → Prop}
variable {mc ms : Nat} {free : Addr → Prop} {A0 A1 : Nat → Prop} {H0 : Heap} {a : Array Value} {ls : Array Slot} {st0 rest : List Value}
variable {Qc : Array Value → State → Outcome → State → Prop} {XC : String → State → State → Prop}
/-- what a body that may throw owes at its end -/
def vx_MQ (below : List Frame) (Qc : Array Value → State → Outcome → State → Prop) (XC : String → State → State → Prop) (a : Array Value) (s : State) (mc ms : Nat) (free : Addr → Prop) : State → Prop := fun t =>
  ∃ o, t.status = .running ∧ Ended t below o ∧ vx_Q Qc XC mc ms free a s o t
theorem vx_ret {g : JFrame} {mc ms : Nat} (k : W p l e R s m args below meth c H locs cells slots (MQ below Qc args s mc ms free) g) : W p l e R s m args below meth c H locs cells slots (vx_MQ below Qc XC args s mc ms free) g := by
  intro T hT X
  obtain ⟨t, a1, o, b1, b2, b3, b4⟩ := k T hT X
  exact ⟨t, a1, o, b1, b2, Or.inl ⟨b3, b4⟩⟩
/-- not caught here: it goes on to the caller -/
theorem vx_widen {g : JFrame} {q : Addr} {k n : Nat} (h1 : cells ≤ k) (h2 : slots ≤ n) (kk : vx_W p l e R s m args below meth c H locs k n Q g q) : vx_W p l e R s m args below meth c H locs cells slots Q g q := fun T hT X => kk T hT (stand_widen X h1 h2)
theorem vx_out {pc : Nat} {E : String} {ce : Cell} {q : Addr} {mc ms : Nat} (hout : ∀ x ∈ c.exceptionTable.toList, covers x pc = false) (hlocks : meth.locks = false) (hcell : H[q]? = some ce) (hv : ce.vm = .none) (hcl : s.vm.findClass E = some ce.cls)
    (hx : ∀ t : State, t.heap = H → s.vm.Alike t.vm → XC E s t) (hf : ∀ z ∈ locs, free z.base) (hc : cells ≤ mc) (hs : slots ≤ ms) :
    vx_W p l e R s m args below meth c H locs cells slots (vx_MQ below Qc XC args s mc ms free) (F0 m pc ls rest) q := by
  intro T hT X
  obtain ⟨st1, hrun, hend, hW, hsm⟩ := X.leaveThrown q (g := F0 m pc ls rest) rfl rfl rfl hout hlocks
  have hcell9 : (T.setFrames (.throwing q :: below)).heap[q]? = some ce := by
    show T.heap[q]? = some ce
    rw [hT]; exact hcell
  exact ⟨_, st1, .threw q, hrun, hend, Or.inr ⟨q, rfl, E, ce, locs, hx _ hT hW.alike, hcell9, hv, hcl, hW, hsm.mono hc hs, hf⟩⟩
theorem vx_frame {U : State} {k n : Nat} (h : s.sameButNew ({ U with vm := s.vm } : State) locs k n) : s.heap.size ≤ U.heap.size ∧ ∀ q : Nat, q < s.heap.size → (∀ z ∈ locs, z.base ≠ q) → U.heap[q]? = s.heap[q]? := by
  obtain ⟨-, h2, -, -, -, h6⟩ := h
  refine ⟨h2, fun q hq hz => ?_⟩
  obtain ⟨c9, e1, e2, e3, e4⟩ := h6 q _ (Array.getElem?_eq_getElem hq)
  have hs : c9.slots = (s.heap[q]).slots := Array.ext_getElem? fun i => e4 i fun hm => hz _ hm rfl
  have h9 : c9 = s.heap[q] := by
    rw [hs] at e2
    exact e2
  have e5 : U.heap[q]? = some c9 := e1
  rw [e5, h9, Array.getElem?_eq_getElem hq]
/-- the words of a throw but the four that speak of the heap -/
def vx_no (w : Cond) : Bool := decide (w ≠ .isRef (.static Bundle.tN "UNASSIGNED_STACK" Bundle.steD)) && decide (w ≠ .isRef (.static Bundle.tN "SUPPRESSED_SENTINEL" Bundle.listD)) && decide (w ≠ .laysStatic Bundle.tN "UNASSIGNED_STACK" Bundle.steD) && decide (w ≠ .laysStatic Bundle.tN "SUPPRESSED_SENTINEL" Bundle.listD)
def vx_at0 (own : String) (ic : Nat) (X : String) (names : List String) : List Cond := (Bundle.ownAtoms0 own ic X names).filter vx_no
def vx_atS (own : String) (ic : Nat) (X : String) (names : List String) : List Cond := (Bundle.ownAtoms own ic X names).filter vx_no
/-- a word that the tables alone decide, or a good one -/
def vx_ot (w : Cond) : Bool := w.onTables || goodWord w
theorem vx_ot_at {args a' : Array Value} {s U : State} {w : Cond} (hW : s.WarmedH U.vm) (hvm : s.vm = U.vm) (hg : vx_ot w = true) (h : w.before args s = true) : w.before a' U = true := by
  simp only [vx_ot, Bool.or_eq_true] at hg
  rcases hg with hg | hg
  · exact va_tabs hg hvm h
  · exact word_at hW (good_of_word hg) h
/-- a list's words: the good ones out of the method's own list, the others by premises of their own -/
theorem vx_hat {args : Array Value} {s : State} {L B : List Cond} (h1 : ∀ w ∈ L.filter goodWord, w.before args s = true) (h2 : ∀ w ∈ L.filter (fun w => !goodWord w), w ∈ B) (h3 : ∀ w ∈ B, w.before args s = true) : ∀ w ∈ L, w.before args s = true := by
  intro w hw
  by_cases g : goodWord w = true
  · exact h1 w (List.mem_filter.mpr ⟨hw, g⟩)
  · refine h3 w (h2 w (List.mem_filter.mpr ⟨hw, ?_⟩))
    show (!goodWord w) = true
    cases hgw : goodWord w
    · rfl
    · exact absurd hgw g
theorem vx_c {args : Array Value} {s : State} {w : Cond} {B : List Cond} (h : w.before args s = true) (t : ∀ w ∈ B, w.before args s = true) : ∀ w' ∈ w :: B, w'.before args s = true := fun w' h' => (List.mem_cons.mp h').elim (fun e => by rw [e]; exact h) (t w')
theorem vx_n {args : Array Value} {s : State} : ∀ w ∈ ([] : List Cond), w.before args s = true := fun _ h => nomatch h
theorem vx_own {args : Array Value} {s : State} {L : List Cond} (h1 : ∀ w ∈ L.filter vx_no, w.before args s = true)
    (hU : (Cond.isRef (.static Bundle.tN "UNASSIGNED_STACK" Bundle.steD)).before args s = true) (hN : (Cond.isRef (.static Bundle.tN "SUPPRESSED_SENTINEL" Bundle.listD)).before args s = true)
    (lU : (Cond.laysStatic Bundle.tN "UNASSIGNED_STACK" Bundle.steD).before args s = true) (lN : (Cond.laysStatic Bundle.tN "SUPPRESSED_SENTINEL" Bundle.listD).before args s = true) : ∀ w ∈ L, w.before args s = true := by
  intro w hw
  by_cases e1 : w = .isRef (.static Bundle.tN "UNASSIGNED_STACK" Bundle.steD)
  · rw [e1]; exact hU
  · by_cases e2 : w = .isRef (.static Bundle.tN "SUPPRESSED_SENTINEL" Bundle.listD)
    · rw [e2]; exact hN
    · by_cases e3 : w = .laysStatic Bundle.tN "UNASSIGNED_STACK" Bundle.steD
      · rw [e3]; exact lU
      · by_cases e4 : w = .laysStatic Bundle.tN "SUPPRESSED_SENTINEL" Bundle.listD
        · rw [e4]; exact lN
        · exact h1 w (List.mem_filter.mpr ⟨hw, by unfold vx_no; rw [decide_eq_true e1, decide_eq_true e2, decide_eq_true e3, decide_eq_true e4]; rfl⟩)
/-- where a static field lies, its class's statics cell in H -/
def vx_L (C n d : String) (A : Nat → Prop) (U : State) (H : Heap) : Prop := ∃ (c : ClassId) (k : Class) (i : Nat) (f : Field) (a : Nat) (cell : Cell), U.vm.findClass C = some c ∧ U.fieldFound? C n d = some (c, k, i, f) ∧ f.isStatic = true ∧ k.statics = some a ∧ H[a]? = some cell ∧ cell.vm.isStatics = true ∧ cell.cls = c ∧ f.slot < cell.slots.size ∧ k.staticTypes[f.slot]? = some f.type ∧ ¬ A a
theorem vx_L.moved {C n d : String} {A : Nat → Prop} {u U : State} {H : Heap} (hvm : u.vm.Alike U.vm) (h : vx_L C n d A u H) : vx_L C n d A U H := by
  obtain ⟨c, k, i, f, a, cell, h1, h2, h3, h4, h5, h6, h7, h8, h9, h10⟩ := h
  obtain ⟨k', hi', he⟩ := State.fieldFound?_setVm hvm h2
  exact ⟨c, k', i, f, a, cell, by rw [hvm.findClass]; exact h1, hi', h3, by rw [he]; exact h4, h5, h6, h7, h8, by rw [he]; exact h9, h10⟩
theorem vx_L.kept {C n d : String} {A : Nat → Prop} {U : State} {H H1 : Heap} (h : vx_L C n d A U H) (hq : ∀ a : Nat, a < H.size → ¬ A a → H1[a]? = H[a]?) : vx_L C n d A U H1 := by
  obtain ⟨c, k, i, f, a, cell, h1, h2, h3, h4, h5, h6, h7, h8, h9, h10⟩ := h
  exact ⟨c, k, i, f, a, cell, h1, h2, h3, h4, by rw [hq a (Array.getElem?_eq_some_iff.mp h5).1 h10]; exact h5, h6, h7, h8, h9, h10⟩
theorem vx_L.narrow {C n d : String} {A B : Nat → Prop} {U : State} {H : Heap} (h : vx_L C n d A U H) (hAB : ∀ q, B q → A q) : vx_L C n d B U H := by
  obtain ⟨c, k, i, f, a, cell, h1, h2, h3, h4, h5, h6, h7, h8, h9, h10⟩ := h
  exact ⟨c, k, i, f, a, cell, h1, h2, h3, h4, h5, h6, h7, h8, h9, fun z => h10 (hAB _ z)⟩
theorem vx_L.word {C n d : String} {A : Nat → Prop} {s : State} {args : Array Value} (h : vx_L C n d A s s.heap) : (Cond.laysStatic C n d).before args s = true := by
  obtain ⟨c, k, i, f, a, cell, h1, h2, h3, h4, h5, h6, h7, h8, h9, -⟩ := h
  show (Cond.laysStatic C n d).holds args s none s [] = true
  exact Cond.laysStatic_of h1 h2 h3 h4 h5 h6 h7 h8 h9
/-- .. and what it holds: null or some reference -/
def vx_Zq (C n d : String) (A : Nat → Prop) (U : State) (H : Heap) : Prop := va_Zq C n d A U H ∧ vx_L C n d A U H
theorem vx_Zq.moved {C n d : String} {A : Nat → Prop} {u U : State} {H : Heap} (hvm : u.vm.Alike U.vm) (h : vx_Zq C n d A u H) : vx_Zq C n d A U H := ⟨va_Zq.moved hvm h.1, vx_L.moved hvm h.2⟩
theorem vx_Zq.kept {C n d : String} {A : Nat → Prop} {U : State} {H H1 : Heap} (h : vx_Zq C n d A U H) (hq : ∀ a : Nat, a < H.size → ¬ A a → H1[a]? = H[a]?) : vx_Zq C n d A U H1 := ⟨va_Zq.kept h.1 hq, vx_L.kept h.2 hq⟩
theorem vx_Zq.narrow {C n d : String} {A B : Nat → Prop} {U : State} {H : Heap} (h : vx_Zq C n d A U H) (hAB : ∀ q, B q → A q) : vx_Zq C n d B U H := ⟨va_Zq.narrow h.1 hAB, vx_L.narrow h.2 hAB⟩
theorem vx_Zqof {args : Array Value} {s : State} {C n d : String} {A : Nat → Prop} (hl : (Cond.laysStatic C n d).before args s = true) (hini : (Cond.initialized C).before args s = true) (h : (Cond.isRef (.static C n d)).before args s = true) (hA : ∀ a : Nat, a < s.heap.size → ¬ A a) : vx_Zq C n d A s s.heap := by
  refine ⟨va_Zqof hl hini h hA, ?_⟩
  obtain ⟨c, k, i, f, a, cell, h1, h2, h3, h4, h5, h6, h7, h8, h9⟩ := Cond.laysStatic_spec hl
  exact ⟨c, k, i, f, a, cell, h1, h2, h3, h4, h5, h6, h7, h8, h9, hA a (Array.getElem?_eq_some_iff.mp h5).1⟩
theorem vx_isRef {C n d : String} {v : Value} {A : Nat → Prop} {s : State} {args : Array Value} (h : va_Z C n d v A s s.heap) (hv : v.isRef = true) : (Cond.isRef (.static C n d)).before args s = true := by
  obtain ⟨cf, kf, fi, f, a, cell, h1, h2, h3, h4, h5, h6, h7, -⟩ := h
  have he : (Term.static C n d).eval args s none [] s = some v := by
    simp [Term.eval, State.fieldNamed?, h1, h2, h4, h5, h6, h7]
  simp only [Cond.before, Cond.holds, Cond.value, he]
  cases v <;> simp_all [Value.isRef]
theorem vx_isRefq {C n d : String} {A : Nat → Prop} {s : State} {args : Array Value} (h : va_Zq C n d A s s.heap) : (Cond.isRef (.static C n d)).before args s = true := by
  rcases h with h | ⟨t, h⟩
  · exact vx_isRef h rfl
  · exact vx_isRef h rfl
/-- the same frame, seen from here: as if the method were called anew in this heap -/
theorem vx_rebase {T : State} (X : Stand p l e R s m args below meth c T locs cells slots) {R' : Room} (hf : R'.frames ≤ R.frames) (hl : R'.locals ≤ R.locals) (hc : cells + R'.cells ≤ R.cells) (hs : slots + R'.slots ≤ R.slots) :
    Stand p l e R' ((T.setVm s.vm).setFrames (.invoking m args :: below)) m args below meth c T [] 0 0 := by
  have htop : (T.setVm s.vm).topJava?.isSome := X.here.top
  have hF : ((T.setVm s.vm).setFrames (.invoking m args :: below)).frames = .invoking m args :: below := State.frames_setFrames _ (State.cur_lt_of_top htop)
  obtain ⟨g₀, hg0⟩ := Option.isSome_iff_exists.mp htop
  obtain ⟨r, hr⟩ := State.topJava?_eq_some.mp hg0
  have hl9 : e.platform.stackLimits (T.setVm s.vm).me = e.platform.stackLimits s.me := X.limits
  have hb9 : (T.setVm s.vm).me.stackBytes = s.me.stackBytes := X.bytes
  refine ⟨X.admits, X.cas, X.clock, hF, ?_, X.hears, X.method, X.code, X.here, X.tail, X.warmed, ?_, ?_, ?_⟩
  · have h := X.room
    have hU : ((T.setVm s.vm).setFrames (.invoking m args :: below)).localsInUse = s.localsInUse := by
      rw [State.localsInUse_invoking hF (meth := meth) (c := c) X.method X.code, State.localsInUse_invoking X.frames X.method X.code]
    simp only [State.hasRoom, Bool.and_eq_true, decide_eq_true_eq] at h ⊢
    obtain ⟨⟨⟨⟨h1, h2, h3, h4, h5, h6⟩, h7⟩, h8⟩, h9⟩ := h
    rw [X.frames, List.length_cons] at h2 h3
    have q1 := X.heapSize
    have q2 := X.used
    simp only [hF, hU, List.length_cons, State.stackLimits_setFrames, State.stackBytes_setFrames, hl9, hb9]
    refine ⟨⟨⟨⟨by omega, by omega, by omega, by omega, by omega, h6⟩, ?_⟩, ?_⟩, X.book⟩
    · show T.heap.size + R'.cells ≤ e.platform.maxCells
      omega
    · show T.slotsUsed + R'.slots ≤ e.platform.maxSlots
      omega
  · rw [State.stackLimits_setFrames]; rfl
  · rw [State.stackBytes_setFrames]; rfl
  · refine ⟨?_, Nat.le_refl _, Nat.le_refl _, ?_, ?_, fun a c9 h9 => ⟨c9, h9, rfl, rfl, fun _ _ => rfl⟩⟩
    · obtain ⟨t, ht, -⟩ := State.frames_cons hr
      show T.setVm s.vm = { ((T.setVm s.vm).setFrames (.invoking m args :: below)).setFrames (T.setVm s.vm).frames with heap := T.heap, slotsUsed := T.slotsUsed }
      rw [State.setFrames_setFrames, State.setFrames_self ht]
      rfl
    · show T.slotsUsed = T.slotsUsed + ((T.heap.toList.drop T.heap.size).map (·.slots.size)).sum
      rw [List.drop_eq_nil_of_le (Nat.le_of_eq Array.length_toList)]
      rfl
    · show ((T.heap.toList.drop T.heap.size).map (·.slots.size)).sum ≤ 0
      rw [List.drop_eq_nil_of_le (Nat.le_of_eq Array.length_toList)]
      exact Nat.le_refl _
/-- 'throw new E()': new; dup; invokespecial; athrow -/
theorem vx_throw0 {cc : ByteArray} {pc : Nat} (hexec : p.tables.exec = Jvm.exec) (hb : c.code = cc) (hl : l.stackTraces = false) {own cls : String} {names : List String} {ik ic mc ms : Nat} {A : Nat → Prop}
    (hown : s.vm.findClass own = some m.cls) (hcls : Bundle.fit cls = true) (hnames : ∀ n ∈ names, Bundle.fit n = true)
    (hk : (Cond.classLink own ik cls).before args s = true) (hini : (Cond.initialized cls).before args s = true) (hat : ∀ w ∈ vx_at0 own ic cls names, w.before args s = true)
    (hgood : ∀ w ∈ Cond.classLink own ik cls :: Cond.initialized cls :: vx_at0 own ic cls names, vx_ot w = true)
    (hU : vx_Zq Bundle.tN "UNASSIGNED_STACK" Bundle.steD A s s.heap) (hN : vx_Zq Bundle.tN "SUPPRESSED_SENTINEL" Bundle.listD A s s.heap) (hS : va_S A s.heap H locs) (hsize : ls.size = c.maxLocals)
    (d0 : decode cc pc = .ok (.new ik, 3)) (d3 : decode cc (pc + 3) = .ok (.dup, 1)) (d4 : decode cc (pc + 4) = .ok (.invokespecial ic, 3)) (d7 : decode cc (pc + 7) = .ok (.athrow, 1))
    (hout : ∀ x ∈ c.exceptionTable.toList, covers x (pc + 7) = false)
    (hRframes : names.length + 3 < R.frames) (hRlocals : (rest.map fun v => v.category).sum + (13 * (names.length + 1) + 42) ≤ R.locals) (hRcells : cells + 1 ≤ R.cells) (hRslots : slots + 6 ≤ R.slots) (hlocks : meth.locks = false)
    (hx : ∀ t : State, s.vm.Alike t.vm → H.size ≤ t.heap.size → (∀ q : Nat, q < H.size → t.heap[q]? = H[q]?) → XC cls s t)
    (hf : ∀ z ∈ locs, free z.base) (hc : cells + 1 ≤ mc) (hs : slots + 6 ≤ ms) :
    W p l e R s m args below meth c H locs cells slots (vx_MQ below Qc XC args s mc ms free) (F0 m pc ls rest) := by
  intro T hT X
  have htr : e.platform.stackTraces = false := (show e.platform.stackTraces = l.stackTraces by rw [X.admits.platform]).trans hl
  have Y := vx_rebase X (R' := { frames := R.frames, locals := R.locals, cells := 1, slots := 6 }) (Nat.le_refl _) (Nat.le_refl _) hRcells hRslots
  obtain ⟨s', hA⟩ : ∃ z, z = (T.setVm s.vm).setFrames (.invoking m args :: below) := ⟨_, rfl⟩
  rw [← hA] at Y
  have hvm : s'.vm = s.vm := by rw [hA]; rfl
  have hhp : s'.heap = H := by rw [hA]; exact hT
  have hW0 : s.WarmedH s'.vm := by rw [hvm]; exact State.WarmedH.refl s
  have hat' : ∀ w ∈ vx_at0 own ic cls names, w.before args s' = true := fun w hw => vx_ot_at hW0 hvm.symm (hgood w (List.mem_cons_of_mem _ (List.mem_cons_of_mem _ hw))) (hat w hw)
  have hk' : (Cond.classLink own ik cls).before args s' = true := vx_ot_at hW0 hvm.symm (hgood _ List.mem_cons_self) hk
  have hini' : (Cond.initialized cls).before args s' = true := vx_ot_at hW0 hvm.symm (hgood _ (List.mem_cons_of_mem _ List.mem_cons_self)) hini
  have hU' : vx_Zq Bundle.tN "UNASSIGNED_STACK" Bundle.steD A s' s'.heap := by rw [hhp]; exact vx_Zq.moved hW0.alike (hU.kept hS.2.1)
  have hN' : vx_Zq Bundle.tN "SUPPRESSED_SENTINEL" Bundle.listD A s' s'.heap := by rw [hhp]; exact vx_Zq.moved hW0.alike (hN.kept hS.2.1)
  have h : ∀ w ∈ Bundle.ownAtoms0 own ic cls names, w.before args s' = true := vx_own hat' (vx_isRefq hU'.1) (vx_isRefq hN'.1) hU'.2.word hN'.2.word
  have hown' : s'.vm.findClass own = some m.cls := by rw [hvm]; exact hown
  have hins : (Cond.instantiable cls 6).before args s' = true := h _ (by simp [Bundle.ownAtoms0])
  obtain ⟨vm₁, cX, kX, hfX, hkX, -, -, X₁, st1⟩ := Y.newCold hexec (own := own) (C := cls) (index := ik) (n := 6) hown' hk' hins hini'
    (g := F0 m pc ls rest) rfl (by rw [hb]; exact d0) (Nat.le_refl _) (Nat.le_refl _)
  generalize hT1 : (T.setVm vm₁).pushCell { cls := cX, slots := kX.instanceTypes.map defaultValue, vm := .none } = T1 at X₁ st1
  have hcat : (Value.ref T.heap.size).category = 1 := rfl
  have hcellA : T1.heap[T.heap.size]? = some (freshCell cX kX) := by rw [← hT1]; exact State.heap_pushCell_size _ _
  have d3' : decode c.code (pc + 3) = .ok (.dup, 1) := by rw [hb]; exact d3
  obtain ⟨U, hsteps, hrun, hend, hW, hsame, ce, hce, hO⟩ := X₁.ctorThrow0 hexec htr (own := own) (cls := cls) (names := names) (ic := ic) hown' hcls hnames h (fun x hx => nomatch hx) hfX hkX hcellA (by rw [hhp, hT]; exact Nat.le_refl _)
    (g := { method := m, pc := pc + 4, locals := ls, stack := .ref T.heap.size :: .ref T.heap.size :: rest, locked := none }) rfl hsize rfl rfl (rest := rest) rfl
    (by rw [hb]; exact d4) (by rw [hb]; exact d7) hout hRframes (by simp only [List.map_cons, List.sum_cons, hcat]; omega) hlocks
  obtain ⟨f1, f2⟩ := vx_frame hsame
  rw [hhp] at f1 f2
  have hWs : s.WarmedH U.vm := State.WarmedH.trans hW0 hW
  have hcl : s.vm.findClass cls = some ce.cls := by
    have h9 := hO.cls
    rw [hvm] at h9
    exact h9
  have hall : s.sameButNew ({ U with vm := s.vm } : State) locs mc ms := by
    subst hA
    obtain ⟨e1, e2⟩ := hsame
    rw [State.setFrames_setFrames] at e1
    have h2 : (T.setVm s.vm).sameButNew ({ U with vm := s.vm } : State) [] (0 + 1) (0 + 6) := ⟨e1, e2⟩
    have h3 := X.same.trans h2
    rw [List.append_nil] at h3
    exact h3.mono hc hs
  refine ⟨U, ?_, .threw T.heap.size, hrun, hend, Or.inr ⟨T.heap.size, rfl, cls, ce, locs, hx U hWs.alike f1 (fun q hq => f2 q hq (fun z hz => nomatch hz)), hce, hO.vm, hcl, hWs, hall, hf⟩⟩
  refine st1 _ ?_
  show Steps p.tables e below (T1.setTop { method := m, pc := pc + 3, locals := ls, stack := .ref T.heap.size :: rest, locked := none }) _
  jvm_step X₁.here [X₁.here.top, hexec, d3', Value.category]
  exact hsteps
/-- 'throw new E("text")': new; dup; ldc; invokespecial; athrow -/
theorem vx_throwS {cc : ByteArray} {pc : Nat} (hexec : p.tables.exec = Jvm.exec) (hb : c.code = cc) (hl : l.stackTraces = false) {own cls text : String} {names : List String} {ik is ic mc ms sa : Nat} {A : Nat → Prop}
    (hown : s.vm.findClass own = some m.cls) (hcls : Bundle.fit cls = true) (hnames : ∀ n ∈ names, Bundle.fit n = true)
    (hk : (Cond.classLink own ik cls).before args s = true) (hini : (Cond.initialized cls).before args s = true) (hstr : vk_R own is text sa s) (hat : ∀ w ∈ vx_atS own ic cls names, w.before args s = true)
    (hgood : ∀ w ∈ Cond.classLink own ik cls :: Cond.initialized cls :: vx_atS own ic cls names, vx_ot w = true)
    (hU : vx_Zq Bundle.tN "UNASSIGNED_STACK" Bundle.steD A s s.heap) (hN : vx_Zq Bundle.tN "SUPPRESSED_SENTINEL" Bundle.listD A s s.heap) (hS : va_S A s.heap H locs) (hsize : ls.size = c.maxLocals)
    (d0 : decode cc pc = .ok (.new ik, 3)) (d3 : decode cc (pc + 3) = .ok (.dup, 1)) (d4 : decode cc (pc + 4) = .ok (.ldc is, 2)) (d6 : decode cc (pc + 6) = .ok (.invokespecial ic, 3)) (d9 : decode cc (pc + 9) = .ok (.athrow, 1))
    (hout : ∀ x ∈ c.exceptionTable.toList, covers x (pc + 9) = false)
    (hRframes : names.length + 3 < R.frames) (hRlocals : (rest.map fun v => v.category).sum + (13 * (names.length + 1) + 43) ≤ R.locals) (hRcells : cells + 1 ≤ R.cells) (hRslots : slots + 6 ≤ R.slots) (hlocks : meth.locks = false)
    (hx : ∀ t : State, s.vm.Alike t.vm → H.size ≤ t.heap.size → (∀ q : Nat, q < H.size → t.heap[q]? = H[q]?) → XC cls s t)
    (hf : ∀ z ∈ locs, free z.base) (hc : cells + 1 ≤ mc) (hs : slots + 6 ≤ ms) :
    W p l e R s m args below meth c H locs cells slots (vx_MQ below Qc XC args s mc ms free) (F0 m pc ls rest) := by
  intro T hT X
  have htr : e.platform.stackTraces = false := (show e.platform.stackTraces = l.stackTraces by rw [X.admits.platform]).trans hl
  have Y := vx_rebase X (R' := { frames := R.frames, locals := R.locals, cells := 1, slots := 6 }) (Nat.le_refl _) (Nat.le_refl _) hRcells hRslots
  obtain ⟨s', hA⟩ : ∃ z, z = (T.setVm s.vm).setFrames (.invoking m args :: below) := ⟨_, rfl⟩
  rw [← hA] at Y
  have hvm : s'.vm = s.vm := by rw [hA]; rfl
  have hhp : s'.heap = H := by rw [hA]; exact hT
  have hW0 : s.WarmedH s'.vm := by rw [hvm]; exact State.WarmedH.refl s
  have hat' : ∀ w ∈ vx_atS own ic cls names, w.before args s' = true := fun w hw => vx_ot_at hW0 hvm.symm (hgood w (List.mem_cons_of_mem _ (List.mem_cons_of_mem _ hw))) (hat w hw)
  have hk' : (Cond.classLink own ik cls).before args s' = true := vx_ot_at hW0 hvm.symm (hgood _ List.mem_cons_self) hk
  have hini' : (Cond.initialized cls).before args s' = true := vx_ot_at hW0 hvm.symm (hgood _ (List.mem_cons_of_mem _ List.mem_cons_self)) hini
  have hU' : vx_Zq Bundle.tN "UNASSIGNED_STACK" Bundle.steD A s' s'.heap := by rw [hhp]; exact vx_Zq.moved hW0.alike (hU.kept hS.2.1)
  have hN' : vx_Zq Bundle.tN "SUPPRESSED_SENTINEL" Bundle.listD A s' s'.heap := by rw [hhp]; exact vx_Zq.moved hW0.alike (hN.kept hS.2.1)
  have h : ∀ w ∈ Bundle.ownAtoms own ic cls names, w.before args s' = true := vx_own hat' (vx_isRefq hU'.1) (vx_isRefq hN'.1) hU'.2.word hN'.2.word
  have hown' : s'.vm.findClass own = some m.cls := by rw [hvm]; exact hown
  have hins : (Cond.instantiable cls 6).before args s' = true := h _ (by simp [Bundle.ownAtoms])
  obtain ⟨vm₁, cX, kX, hfX, hkX, -, -, X₁, st1⟩ := Y.newCold hexec (own := own) (C := cls) (index := ik) (n := 6) hown' hk' hins hini'
    (g := F0 m pc ls rest) rfl (by rw [hb]; exact d0) (Nat.le_refl _) (Nat.le_refl _)
  generalize hT1 : (T.setVm vm₁).pushCell { cls := cX, slots := kX.instanceTypes.map defaultValue, vm := .none } = T1 at X₁ st1
  have hcat : (Value.ref T.heap.size).category = 1 := rfl
  have hcellA : T1.heap[T.heap.size]? = some (freshCell cX kX) := by rw [← hT1]; exact State.heap_pushCell_size _ _
  have d3' : decode c.code (pc + 3) = .ok (.dup, 1) := by rw [hb]; exact d3
  have d4' : decode c.code (pc + 4) = .ok (.ldc is, 2) := by rw [hb]; exact d4
  have hstr' : vk_R own is text sa s' := vk_R.warm hW0 hstr
  obtain ⟨U, hsteps, hrun, hend, hW, hsame, ce, hce, hO⟩ := X₁.ctorThrowS hexec htr (own := own) (cls := cls) (names := names) (ic := ic) hown' hcls hnames h (fun x hx => nomatch hx) hfX hkX hcellA (by rw [hhp, hT]; exact Nat.le_refl _) (msg := .ref sa) rfl
    (g := { method := m, pc := pc + 6, locals := ls, stack := .ref sa :: .ref T.heap.size :: .ref T.heap.size :: rest, locked := none }) rfl hsize rfl rfl (rest := rest) rfl
    (by rw [hb]; exact d6) (by rw [hb]; exact d9) hout hRframes (by simp only [List.map_cons, List.sum_cons, hcat]; omega) hlocks
  obtain ⟨f1, f2⟩ := vx_frame hsame
  rw [hhp] at f1 f2
  have hWs : s.WarmedH U.vm := State.WarmedH.trans hW0 hW
  have hcl : s.vm.findClass cls = some ce.cls := by
    have h9 := hO.cls
    rw [hvm] at h9
    exact h9
  have hall : s.sameButNew ({ U with vm := s.vm } : State) locs mc ms := by
    subst hA
    obtain ⟨e1, e2⟩ := hsame
    rw [State.setFrames_setFrames] at e1
    have h2 : (T.setVm s.vm).sameButNew ({ U with vm := s.vm } : State) [] (0 + 1) (0 + 6) := ⟨e1, e2⟩
    have h3 := X.same.trans h2
    rw [List.append_nil] at h3
    exact h3.mono hc hs
  refine ⟨U, ?_, .threw T.heap.size, hrun, hend, Or.inr ⟨T.heap.size, rfl, cls, ce, locs, hx U hWs.alike f1 (fun q hq => f2 q hq (fun z hz => nomatch hz)), hce, hO.vm, hcl, hWs, hall, hf⟩⟩
  refine st1 _ ?_
  show Steps p.tables e below (T1.setTop { method := m, pc := pc + 3, locals := ls, stack := .ref T.heap.size :: rest, locked := none }) _
  jvm_step X₁.here [X₁.here.top, hexec, d3', Value.category]
  exact X₁.ldcString hexec (own := own) (text := text) (index := is) (a := sa) hown' hstr'.1 hstr'.2
    (g := { method := m, pc := pc + 4, locals := ls, stack := .ref T.heap.size :: .ref T.heap.size :: rest, locked := none }) rfl d4' _ hsteps
/-- 'throw new E("text")', the text by a wide index -/
theorem vx_throwSW {cc : ByteArray} {pc : Nat} (hexec : p.tables.exec = Jvm.exec) (hb : c.code = cc) (hl : l.stackTraces = false) {own cls text : String} {names : List String} {ik is ic mc ms sa : Nat} {A : Nat → Prop}
    (hown : s.vm.findClass own = some m.cls) (hcls : Bundle.fit cls = true) (hnames : ∀ n ∈ names, Bundle.fit n = true)
    (hk : (Cond.classLink own ik cls).before args s = true) (hini : (Cond.initialized cls).before args s = true) (hstr : vk_R own is text sa s) (hat : ∀ w ∈ vx_atS own ic cls names, w.before args s = true)
    (hgood : ∀ w ∈ Cond.classLink own ik cls :: Cond.initialized cls :: vx_atS own ic cls names, vx_ot w = true)
    (hU : vx_Zq Bundle.tN "UNASSIGNED_STACK" Bundle.steD A s s.heap) (hN : vx_Zq Bundle.tN "SUPPRESSED_SENTINEL" Bundle.listD A s s.heap) (hS : va_S A s.heap H locs) (hsize : ls.size = c.maxLocals)
    (d0 : decode cc pc = .ok (.new ik, 3)) (d3 : decode cc (pc + 3) = .ok (.dup, 1)) (d4 : decode cc (pc + 4) = .ok (.ldc_w is, 3)) (d7 : decode cc (pc + 7) = .ok (.invokespecial ic, 3)) (d10 : decode cc (pc + 10) = .ok (.athrow, 1))
    (hout : ∀ x ∈ c.exceptionTable.toList, covers x (pc + 10) = false)
    (hRframes : names.length + 3 < R.frames) (hRlocals : (rest.map fun v => v.category).sum + (13 * (names.length + 1) + 43) ≤ R.locals) (hRcells : cells + 1 ≤ R.cells) (hRslots : slots + 6 ≤ R.slots) (hlocks : meth.locks = false)
    (hx : ∀ t : State, s.vm.Alike t.vm → H.size ≤ t.heap.size → (∀ q : Nat, q < H.size → t.heap[q]? = H[q]?) → XC cls s t)
    (hf : ∀ z ∈ locs, free z.base) (hc : cells + 1 ≤ mc) (hs : slots + 6 ≤ ms) :
    W p l e R s m args below meth c H locs cells slots (vx_MQ below Qc XC args s mc ms free) (F0 m pc ls rest) := by
  intro T hT X
  have htr : e.platform.stackTraces = false := (show e.platform.stackTraces = l.stackTraces by rw [X.admits.platform]).trans hl
  have Y := vx_rebase X (R' := { frames := R.frames, locals := R.locals, cells := 1, slots := 6 }) (Nat.le_refl _) (Nat.le_refl _) hRcells hRslots
  obtain ⟨s', hA⟩ : ∃ z, z = (T.setVm s.vm).setFrames (.invoking m args :: below) := ⟨_, rfl⟩
  rw [← hA] at Y
  have hvm : s'.vm = s.vm := by rw [hA]; rfl
  have hhp : s'.heap = H := by rw [hA]; exact hT
  have hW0 : s.WarmedH s'.vm := by rw [hvm]; exact State.WarmedH.refl s
  have hat' : ∀ w ∈ vx_atS own ic cls names, w.before args s' = true := fun w hw => vx_ot_at hW0 hvm.symm (hgood w (List.mem_cons_of_mem _ (List.mem_cons_of_mem _ hw))) (hat w hw)
  have hk' : (Cond.classLink own ik cls).before args s' = true := vx_ot_at hW0 hvm.symm (hgood _ List.mem_cons_self) hk
  have hini' : (Cond.initialized cls).before args s' = true := vx_ot_at hW0 hvm.symm (hgood _ (List.mem_cons_of_mem _ List.mem_cons_self)) hini
  have hU' : vx_Zq Bundle.tN "UNASSIGNED_STACK" Bundle.steD A s' s'.heap := by rw [hhp]; exact vx_Zq.moved hW0.alike (hU.kept hS.2.1)
  have hN' : vx_Zq Bundle.tN "SUPPRESSED_SENTINEL" Bundle.listD A s' s'.heap := by rw [hhp]; exact vx_Zq.moved hW0.alike (hN.kept hS.2.1)
  have h : ∀ w ∈ Bundle.ownAtoms own ic cls names, w.before args s' = true := vx_own hat' (vx_isRefq hU'.1) (vx_isRefq hN'.1) hU'.2.word hN'.2.word
  have hown' : s'.vm.findClass own = some m.cls := by rw [hvm]; exact hown
  have hins : (Cond.instantiable cls 6).before args s' = true := h _ (by simp [Bundle.ownAtoms])
  obtain ⟨vm₁, cX, kX, hfX, hkX, -, -, X₁, st1⟩ := Y.newCold hexec (own := own) (C := cls) (index := ik) (n := 6) hown' hk' hins hini'
    (g := F0 m pc ls rest) rfl (by rw [hb]; exact d0) (Nat.le_refl _) (Nat.le_refl _)
  generalize hT1 : (T.setVm vm₁).pushCell { cls := cX, slots := kX.instanceTypes.map defaultValue, vm := .none } = T1 at X₁ st1
  have hcat : (Value.ref T.heap.size).category = 1 := rfl
  have hcellA : T1.heap[T.heap.size]? = some (freshCell cX kX) := by rw [← hT1]; exact State.heap_pushCell_size _ _
  have d3' : decode c.code (pc + 3) = .ok (.dup, 1) := by rw [hb]; exact d3
  have d4' : decode c.code (pc + 4) = .ok (.ldc_w is, 3) := by rw [hb]; exact d4
  have hstr' : vk_R own is text sa s' := vk_R.warm hW0 hstr
  obtain ⟨U, hsteps, hrun, hend, hW, hsame, ce, hce, hO⟩ := X₁.ctorThrowS hexec htr (own := own) (cls := cls) (names := names) (ic := ic) hown' hcls hnames h (fun x hx => nomatch hx) hfX hkX hcellA (by rw [hhp, hT]; exact Nat.le_refl _) (msg := .ref sa) rfl
    (g := { method := m, pc := pc + 7, locals := ls, stack := .ref sa :: .ref T.heap.size :: .ref T.heap.size :: rest, locked := none }) rfl hsize rfl rfl (rest := rest) rfl
    (by rw [hb]; exact d7) (by rw [hb]; exact d10) hout hRframes (by simp only [List.map_cons, List.sum_cons, hcat]; omega) hlocks
  obtain ⟨f1, f2⟩ := vx_frame hsame
  rw [hhp] at f1 f2
  have hWs : s.WarmedH U.vm := State.WarmedH.trans hW0 hW
  have hcl : s.vm.findClass cls = some ce.cls := by
    have h9 := hO.cls
    rw [hvm] at h9
    exact h9
  have hall : s.sameButNew ({ U with vm := s.vm } : State) locs mc ms := by
    subst hA
    obtain ⟨e1, e2⟩ := hsame
    rw [State.setFrames_setFrames] at e1
    have h2 : (T.setVm s.vm).sameButNew ({ U with vm := s.vm } : State) [] (0 + 1) (0 + 6) := ⟨e1, e2⟩
    have h3 := X.same.trans h2
    rw [List.append_nil] at h3
    exact h3.mono hc hs
  refine ⟨U, ?_, .threw T.heap.size, hrun, hend, Or.inr ⟨T.heap.size, rfl, cls, ce, locs, hx U hWs.alike f1 (fun q hq => f2 q hq (fun z hz => nomatch hz)), hce, hO.vm, hcl, hWs, hall, hf⟩⟩
  refine st1 _ ?_
  show Steps p.tables e below (T1.setTop { method := m, pc := pc + 3, locals := ls, stack := .ref T.heap.size :: rest, locked := none }) _
  jvm_step X₁.here [X₁.here.top, hexec, d3', Value.category]
  exact X₁.ldcStringW hexec (own := own) (text := text) (index := is) (a := sa) hown' hstr'.1 hstr'.2
    (g := { method := m, pc := pc + 4, locals := ls, stack := .ref T.heap.size :: .ref T.heap.size :: rest, locked := none }) rfl d4' _ hsteps
end Ends
section Bodies
variable {l : Launch}
theorem vx_ofW {y : MethodName} {ws ws' : List Cond} {rm : Room} {Pc : Array Value → State → Prop} {Qc : Array Value → State → Outcome → State → Prop} {XC : String → State → State → Prop} {mc ms : Nat} {free : Addr → Prop} {cc : ByteArray} {maxL : Nat} {ret : Option FieldType}
    (hy : plainName y.cls = true) (hw : ws = Cond.code y cc maxL ret :: ws')
    (body : ∀ p e s m args below meth c s₁, BodyLoose p l y (headSpec ws rm) cc maxL ret e s m args below meth c s₁ → c.maxLocals = maxL → (∀ x ∈ c.exceptionTable.toList, False) → Pc args s →
      W p l e (headSpec ws rm).room s m args below meth c s.heap [] 0 0 (vx_MQ below Qc XC args s mc ms free) (entryFrame m args maxL)) : vx_Met l y ws rm Pc Qc XC mc ms free := by
  refine MetFree.of_bodyS (code := cc) (maxLocals := maxL) (ret := ret) hy ?_ ?_
  · intro args s m h hn
    obtain ⟨meth, c, h1, h2, h3, h4, h5, h6, -, -⟩ := Cond.code_spec hn (atoms_spec (ws := ws) h _ (by rw [hw]; exact List.mem_cons_self))
    exact ⟨meth, c, h1, h2, h3, h4, h5, h6⟩
  · intro p e s m args below meth c s₁ B hml hP _
    have hh0 : s₁.heap = s.heap := by rw [B.state]; rfl
    have ht : ∀ x ∈ c.exceptionTable.toList, False := by
      obtain ⟨meth9, c9, h1, h2, -, -, -, -, h7, -⟩ := Cond.code_spec B.named (atoms_spec (ws := ws) B.pre _ (by rw [hw]; exact List.mem_cons_self))
      cases Option.some.inj (h1.symm.trans B.method)
      cases Option.some.inj (h2.symm.trans (Stand.of_body B).code)
      intro x hx
      rw [Array.isEmpty_iff.mp h7] at hx
      cases hx
    obtain ⟨t, a1, o, b1, b2, b3⟩ := body p e s m args below meth c s₁ B hml ht hP s₁ hh0 (Stand.of_body B)
    exact ⟨t, o, a1, b1, b2, b3⟩
/-- the table of a body with handlers -/
theorem vx_table {p : Program} {x y : MethodName} {S : Spec} {cc bytes : ByteArray} {maxL maxL' : Nat} {ret ret' : Option FieldType} {e : Env} {s s₁ : State} {m : MethodId} {args : Array Value} {below : List Frame} {meth : Method} {c : Code} {hh : List (Nat × Nat × Nat × Nat)}
    (B : BodyLoose p l y S cc maxL ret e s m args below meth c s₁) (h : (Cond.codeWith y bytes maxL' ret' hh).before args s = true) : c.exceptionTable.toList = tableOf hh := by
  obtain ⟨m9, meth9, c9, hn9, h1, h2, -, -, h6, -⟩ := Cond.codeWith_spec h
  cases Option.some.inj (hn9.symm.trans B.named)
  cases Option.some.inj (h1.symm.trans B.method)
  cases Option.some.inj (h2.symm.trans (Stand.of_body B).code)
  rw [← h6, table_eq]
end Bodies
end VXA
/-! ===== END ===== -/
/-! ===== BEGIN a static call of a method with an exception table ===== -/
section VXS
variable {p : Program} {l : Launch} {e : Env} {R : Room} {s : State} {m : MethodId} {args : Array Value} {below : List Frame} {meth : Method} {c : Code} {T : State} {H : Heap} {locs : List Loc} {cells slots : Nat}
abbrev vx_CSW (R : Room) (s : State) (args : Array Value) (own : String) (index : Nat) (y : MethodName) (bytes : ByteArray) (maxL : Nat) (ret : Option FieldType) (hh : List (Nat × Nat × Nat × Nat)) (ws : List Cond) (rm : Room) (mc ms n : Nat) : Prop :=
  (rm.cells = mc ∧ rm.slots = ms ∧ rm.frames + 1 ≤ R.frames ∧ 8 + (maxL + 11) + rm.locals ≤ R.locals ∧ (∀ w ∈ ws, ∀ (a' : Array Value) (U : State), s.WarmedH U.vm → w.before a' U = true) ∧ Cond.codeWith y bytes maxL ret hh ∈ ws) ∧
  (Cond.codeWith y bytes maxL ret hh).before args s = true ∧ (Cond.initialized y.cls).before args s = true ∧ (y.cls ≠ "java/lang/invoke/MethodHandle" ∧ y.cls ≠ "java/lang/invoke/VarHandle") ∧
  (∀ sig, parseMethodDescriptor y.desc = some sig → n = sig.parameters.length) ∧ (Cond.methodLink own index y).before args s = true ∧ (Cond.static y).before args s = true
theorem vx_cwSW {own : String} {index maxL mc ms : Nat} {y : MethodName} {bytes : ByteArray} {ret : Option FieldType} {hh : List (Nat × Nat × Nat × Nat)} {Ts ws ws' : List Cond} {rm : Room} (n : Nat) (ht : ∀ w ∈ Ts, w.before args s = true) (hT : GoodIn Ts (va_wsS own index y ws)) (hw : ws = Cond.codeWith y bytes maxL ret hh :: ws') (hrc : rm.cells = mc) (hrs : rm.slots = ms)
    (hd : y.cls ≠ "java/lang/invoke/MethodHandle" ∧ y.cls ≠ "java/lang/invoke/VarHandle" ∧ (parseMethodDescriptor y.desc).map (fun d => d.parameters.length) = some n) (hR : rm.frames + 1 ≤ R.frames ∧ 8 + (maxL + 11) + rm.locals ≤ R.locals) :
    vx_CSW R s args own index y bytes maxL ret hh ws rm mc ms n := by
  have ok : ∀ w ∈ va_wsS own index y ws, w.before args s = true := fun w h => ht w (hT w h).1
  have hG : GoodIn Ts ws := fun w h => hT w (by unfold va_wsS; exact List.mem_append_right _ h)
  have hc : Cond.codeWith y bytes maxL ret hh ∈ ws := by rw [hw]; exact List.mem_cons_self
  refine ⟨⟨hrc, hrs, hR.1, hR.2, pay_in ht hG, hc⟩, ht _ (hG _ hc).1, ok _ (by simp [va_wsS]), ⟨hd.1, hd.2.1⟩, fun sig h => ?_, ok _ (by simp [va_wsS]), ok _ (by simp [va_wsS])⟩
  have h2 := hd.2.2
  rw [h] at h2
  exact (Option.some.inj h2).symm
theorem vx_callSW (X : Stand p l e R s m args below meth c T locs cells slots) (hexec : p.tables.exec = Jvm.exec) {own : String} {index : Nat} {y : MethodName} {bytes : ByteArray} {maxL : Nat} {ret : Option FieldType} {hh : List (Nat × Nat × Nat × Nat)}
    (hown : s.vm.findClass own = some m.cls) (hlink : (Cond.methodLink own index y).before args s = true) (hstat : (Cond.static y).before args s = true) (hinit : (Cond.initialized y.cls).before args s = true)
    (hcode : (Cond.codeWith y bytes maxL ret hh).before args s = true) (hy : y.cls ≠ "java/lang/invoke/MethodHandle" ∧ y.cls ≠ "java/lang/invoke/VarHandle")
    {W9 : Nat} {Pre : Pt → Array Value → Prop} {Post : Pt → Array Value → Option Value → Pt → Prop} (hK : Back l R p e below s args y 3 W9 Pre Post)
    {g : JFrame} (hg : g.method = m) (hsize : g.locals.size = c.maxLocals) {argsL rest : List Value} (hlen : ∀ sig, parseMethodDescriptor y.desc = some sig → argsL.length = sig.parameters.length)
    (hstack : g.stack = argsL.reverse ++ rest) (hW : 2 * g.monitorRoom + (rest.map fun v => v.category).sum ≤ W9) (hdg : decode c.code g.pc = .ok (.invokestatic index, 3))
    (hpre : ∀ vm₁, s.WarmedH vm₁ → Pre ⟨T.setVm vm₁, locs, cells, slots⟩ argsL.toArray) :
    ∃ (v : Option Value) (vm₁ : Vm) (B : Pt), s.WarmedH vm₁ ∧ Stand p l e R s m args below meth c B.U B.locs B.cells B.slots ∧ Post ⟨T.setVm vm₁, locs, cells, slots⟩ argsL.toArray v B ∧
      ∀ target, Steps p.tables e below (B.U.setTop { g with pc := g.pc + 3, stack := v.toList ++ rest }) target → Steps p.tables e below (T.setTop g) target := by
  obtain ⟨mk, methM, cM, hnamed, hmethM, -, -, -, -, -, -, hsigM⟩ := Cond.codeWith_spec hcode
  have hstatic : methM.isStatic = true := Cond.static_spec hnamed hmethM hstat
  obtain ⟨kP, hkP, -⟩ := className_of_methodNamed hnamed
  have hinitP : kP.init = .initialized := Cond.initialized_spec (findClass_of_methodNamed hnamed) hkP hinit
  obtain ⟨vm₁, X₁, hstep₁⟩ := X.invokestatic hexec hown hlink hnamed hmethM hstatic hkP hinitP hy (g := g) hg (argsL := argsL) (rest := rest) (hlen _ hsigM) hstack hdg
  obtain ⟨v, B, X', hpost, hsteps⟩ := hK m meth c ⟨T.setVm vm₁, locs, cells, slots⟩ { g with stack := rest } (.invokestatic index) mk argsL.toArray X₁ hg hsize hdg hW (X₁.named hnamed) (hpre vm₁ X₁.warmed)
  exact ⟨v, vm₁, B, X₁.warmed, X', hpost, fun target h => hstep₁ _ fun acts => by rw [doInvoke_state]; exact hsteps.trans h⟩
theorem vx_runSW {y : MethodName} {bytes cc : ByteArray} {maxL nL mc ms n index : Nat} {ret : Option FieldType} {hh : List (Nat × Nat × Nat × Nat)} {ws : List Cond} {rm : Room} {Pc : Array Value → State → Prop} {Qc : Array Value → State → Outcome → State → Prop} {free : Addr → Prop} {Ts : List Cond} {own : String} {As rest : List Value} {g : JFrame}
    (S : CallFix p m c cc nL s args Ts own) (hM : Met l y ws rm Pc Qc mc ms free) (cw : vx_CSW R s args own index y bytes maxL ret hh ws rm mc ms n) (hp : PreS s H Pc As)
    (hg : g.method = m) (hn : As.length = n) (hsize : g.locals.size = nL) (hstack : g.stack = As.reverse ++ rest) (hW : 2 * g.monitorRoom + (rest.map fun v => v.category).sum ≤ 8) (hdg : decode cc g.pc = .ok (.invokestatic index, 3)) (hf : cells + mc ≤ R.cells ∧ slots + ms ≤ R.slots) :
    va_Run p l e R s m args below meth c H locs cells slots mc ms g rest (Qc As.toArray) (free) := by
  obtain ⟨⟨hrc, hrs, hfr, hlo, hws, hcw⟩, hcode, hini, hy, hlen, hl, hstt⟩ := cw
  have hK : Back l R p e below s args y 3 8 (PreOf R mc ms Pc) (PostOf Qc mc ms free) := va_backW (hh := hh) (bytes := bytes) (maxL := maxL) (ret := ret) hM hp.1 hrc hrs hfr hlo hws hcw (fun a' U hW => word_at hW (Or.inl (by first | rfl | simp [Cond.onTables, Cond.keeps, Cond.steady])) hini)
  obtain ⟨hx, hb, hml, ho, -⟩ := S
  intro T hT X
  obtain ⟨v, vm₁, ⟨U', l2, c2, s2⟩, hW₁, X', ⟨g', mk, t, L, e1, e2, hq, h1, hL, h2, h3⟩, st⟩ := vx_callSW X hx (hh := hh) (bytes := bytes) (maxL := maxL) (ret := ret) ho hl hstt hini hcode hy hK hg (hsize.trans hml.symm) (argsL := As) (rest := rest) (fun sig h => hn.trans (hlen sig h)) hstack hW (by rw [hb]; exact hdg)
    (fun vm₁ hW₁ => ⟨hf.1, hf.2, hp.2 (T.setVm vm₁) hT hW₁⟩)
  dsimp only [Pt.U, Pt.locs, Pt.cells, Pt.slots] at X' e1 e2 h1 h2 h3 st
  subst h1; subst h2; subst h3
  exact ⟨v, (T.setVm vm₁).calling g' mk As.toArray, t, U', L, hT, X', hL, e1, e2, hq, st⟩
/-- not caught here, past rows that name other classes: it goes on to the caller -/
theorem vx_outP {p : Program} {l : Launch} {e : Env} {R : Room} {s : State} {m : MethodId} {args : Array Value} {below : List Frame} {meth : Method} {c : Code} {H : Heap} {locs : List Loc} {cells slots : Nat} {free : Addr → Prop} {ls : Array Slot} {rest : List Value} {Qc : Array Value → State → Outcome → State → Prop} {XC : String → State → State → Prop}
    {pc : Nat} {own E : String} {ce : Cell} {q : Addr} {mc ms : Nat} (hown : s.vm.findClass own = some m.cls) (hlocks : meth.locks = false)
    (hpass : ∀ z ∈ c.exceptionTable.toList, covers z pc = false ∨ (z.catchType ≠ 0 ∧ ∃ nm : String, (Cond.classLink own z.catchType nm).before args s = true ∧ va_Nc E nm s)) (hcell : H[q]? = some ce) (hv : ce.vm = .none) (hcl : s.vm.findClass E = some ce.cls)
    (hx : ∀ t : State, t.heap = H → s.vm.Alike t.vm → XC E s t) (hf : ∀ z ∈ locs, free z.base) (hc : cells ≤ mc) (hs : slots ≤ ms) :
    vx_W p l e R s m args below meth c H locs cells slots (vx_MQ below Qc XC args s mc ms free) (F0 m pc ls rest) q := by
  intro T hT X
  have hpl : e.platform.magicAccessors = ({} : Platform).magicAccessors := by rw [X.admits.platform]
  obtain ⟨vm', hW', X', st⟩ := X.outThrough hlocks q (g := F0 m pc ls rest) rfl rfl rfl (cell := ce) (by rw [hT]; exact hcell) (by rw [hv]; rfl)
    (by obtain ⟨k9, h9, -⟩ := Vm.findClass_spec hcl; exact ⟨k9, h9⟩) (fun z hz => by
      rcases hpass z hz with h | ⟨hz0, nm, hl1, hn1⟩
      · exact Or.inl h
      · obtain ⟨c6, hc6, hcl6⟩ := Cond.classLink_spec hown hl1 e.platform hpl
        obtain ⟨a8, b8, h1, h2, h3⟩ := hn1
        cases Option.some.inj (h1.symm.trans hcl)
        cases Option.some.inj (h2.symm.trans hc6)
        exact Or.inr ⟨hz0, _, hcl6, h3⟩)
  obtain ⟨g₀, hfr⟩ := X'.frames_eq
  have hcell9 : ((T.setVm vm').setFrames (.throwing q :: below)).heap[q]? = some ce := by
    show T.heap[q]? = some ce
    rw [hT]; exact hcell
  have hend : Ended ((T.setVm vm').setFrames (.throwing q :: below)) below (.threw q) := State.frames_setFrames _ (State.cur_lt_of_frames hfr)
  refine ⟨(T.setVm vm').setFrames (.throwing q :: below), ?_, .threw q, X'.here.running, hend, Or.inr ⟨q, rfl, E, ce, locs, hx _ hT (X'.ends _).1.alike, hcell9, hv, hcl, (X'.ends _).1, (X'.ends _).2.mono hc hs, hf⟩⟩
  rw [X.pushThrowing_eq]
  exact st
/-- a thing of a world lies in the heap -/
theorem vx_lt {D : va_G} {cl : List vw_C} {ws : va_W} {H1 : Heap} (h : va_P D cl ws H1) {k : Nat} {q : Nat × va_E} (hk : ws[k]? = some q) : q.1 < H1.size := (h k q hk).lt
end VXS
/-! ===== END ===== -/
/-! ===== BEGIN methods with a table of their own: called by a name, returning or throwing ===== -/
section VXH
/-! vx_backW, vx_callVX, vx_callSX, vx_callVW, vx_runVW, vx_runVX, vx_runSX, vx_ofWH follow the same proofs as their sisters above (Free/Laws.lean, Shelf42/LK1.lean); vx_outP calls Shelf42/NT130.lean (outThrough). -/
section
variable {l : Launch} {R : Room} {p : Program} {e : Env} {below : List Frame} {s : State} {sargs : Array Value} {y : MethodName} {len W9 : Nat}
theorem vx_backW {ws : List Cond} {rm : Room} {Pc : Array Value → State → Prop} {Qc : Array Value → State → Outcome → State → Prop} {XC : String → State → State → Prop} {mc ms : Nat} {free : Addr → Prop} {bytes : ByteArray} {maxL : Nat} {ret : Option FieldType} {hh : List (Nat × Nat × Nat × Nat)}
    (hM : vx_Met l y ws rm Pc Qc XC mc ms free) (hblind : FrameBlind Pc) (hrc : rm.cells = mc) (hrs : rm.slots = ms)
    (hframes : rm.frames + 1 ≤ R.frames) (hlocals : W9 + (maxL + 11) + rm.locals ≤ R.locals)
    (hws : ∀ w ∈ ws, ∀ a' U, s.WarmedH U.vm → w.before a' U = true) (hcode : Cond.codeWith y bytes maxL ret hh ∈ ws) (hinit : ∀ a' U, s.WarmedH U.vm → (Cond.initialized y.cls).before a' U = true) :
    vx_Back l R p e below s sargs y len W9 (PreOf R mc ms Pc) (PostOf Qc mc ms free) (vx_Post XC mc ms free) := by
  intro m meth c A g ig mk a X hg hsize hdg hW hn hp
  have h1 : (headSpec ws rm).pre.before a A.U = true := atoms_intro fun w hw => hws w hw _ _ X.warmed
  have h2 : (Cond.codeWith y bytes maxL ret hh).before a A.U = true := hws _ hcode _ _ X.warmed
  have h3 : (Cond.initialized y.cls).before a A.U = true := hinit _ _ X.warmed
  have h4 : A.cells + (headSpec ws rm).room.cells ≤ R.cells := by rw [show (headSpec ws rm).room.cells = mc from hrc]; exact hp.1
  have h5 : A.slots + (headSpec ws rm).room.slots ≤ R.slots := by rw [show (headSpec ws rm).room.slots = ms from hrs]; exact hp.2.1
  have hPc : Pc a (A.U.calling g mk a) := hblind _ _ _ _ hp.2.2
  obtain ⟨U, Ls, c0, s0⟩ := A
  dsimp only [Pt.U, Pt.locs, Pt.cells, Pt.slots] at h1 h2 h3 h4 h5 X hn hPc ⊢
  obtain ⟨m9, methY, cY, hn9, hmY, hcY, -, hlY, -⟩ := Cond.codeWith_spec h2
  cases Option.some.inj (hn9.symm.trans hn)
  obtain ⟨kY, hkY, -⟩ := className_of_methodNamed hn
  have hinitY : kY.init = .initialized := Cond.initialized_spec (findClass_of_methodNamed hn) hkY h3
  have h : At U g.method c below := by rw [hg]; exact X.here
  have hlocals9 : W9 + (maxL + 11) + (headSpec ws rm).room.locals ≤ R.locals := hlocals
  have happ : (headSpec ws rm).appliesLoose y e.platform (U.calling g mk a) = true :=
    Spec.appliesLoose_calling (g := g) h hdg hn hkY hinitY
      (X.room_calling (g := g) (R' := (headSpec ws rm).room) hsize hmY hcY hframes (by rw [hlY]; omega) h4 h5) h1
  obtain ⟨mid, hmid⟩ := h.above
  have hfr : (U.setTop g).frames = (.java g :: mid) ++ below := by rw [State.frames_setTop' g h.top, hmid]; rfl
  obtain ⟨o, s₂, hsteps, -, hend, hq⟩ := Steps.callFree hM p X.admits X.cas X.clock (acts := []) hfr happ hPc trivial
  have hq' : vx_Q Qc XC mc ms free a (U.calling g mk a) o s₂ := hq
  rw [State.frames_setTop' g h.top] at hend
  obtain ⟨g₀, hg0⟩ := Option.isSome_iff_exists.mp h.top
  obtain ⟨r, hr⟩ := State.topJava?_eq_some.mp hg0
  have hr' : (({ U with heap := s₂.heap, slotsUsed := s₂.slotsUsed } : State).setVm s₂.vm).frames = .java g₀ :: r := hr
  rcases hq' with ⟨hqc, L, hfe, hL⟩ | ⟨q, rfl, E, ce, L, hx, hce, hcv, hcl, hW₂, hsm, hL⟩
  · obtain ⟨⟨v, rfl⟩, hW₂, e2, q2, q3, q4, q5, q6⟩ := id hfe
    have e3 : s₂ = ({ (U.calling g mk a).setFrames s₂.frames with heap := s₂.heap, slotsUsed := s₂.slotsUsed } : State).setVm s₂.vm := by
      have : s₂ = ({ s₂ with vm := (U.calling g mk a).vm } : State).setVm s₂.vm := rfl
      rw [e2] at this
      exact this
    obtain ⟨c₂, i₂, len₂, hc₂, hd₂, hf₂⟩ := hend
    have hW' : U.WarmedH s₂.vm := hW₂
    have hcc : c₂ = c := by
      have h1 : s₂.code? g.method = U.code? g.method := by
        rw [State.code?_eq, State.code?_eq, hW'.alike.method?]
      exact Option.some.inj (hc₂.symm.trans (h1.trans h.code))
    subst hcc
    have hlen : len₂ = len := by rw [hdg] at hd₂; cases hd₂; rfl
    subst hlen
    have hs₂ : s₂ = (({ U with heap := s₂.heap, slotsUsed := s₂.slotsUsed } : State).setVm s₂.vm).setTop { g with pc := g.pc + len₂, stack := v.toList ++ g.stack } := by
      refine e3.trans ?_
      rw [hf₂, State.calling_eq h.top, State.setFrames_setFrames, State.setTop_of_frames _ hr', hr]
      rfl
    have hsame : U.sameButNew ({ U with heap := s₂.heap, slotsUsed := s₂.slotsUsed } : State) L mc ms := by
      refine ⟨?_, q2, q3, q4, q5, q6⟩
      obtain ⟨t, ht, -⟩ := State.frames_cons hr
      show ({ U with heap := s₂.heap, slotsUsed := s₂.slotsUsed } : State) = { U.setFrames U.frames with heap := s₂.heap, slotsUsed := s₂.slotsUsed }
      rw [State.setFrames_self ht]
    subst hg
    refine Or.inl ⟨v, ⟨(({ U with heap := s₂.heap, slotsUsed := s₂.slotsUsed } : State).setVm s₂.vm), Ls ++ L, c0 + mc, s0 + ms⟩,
      ⟨X.admits, X.cas, X.clock, X.frames, X.room, X.hears, X.method, X.code, (X.here.setHeapUsed s₂.heap s₂.slotsUsed).setVm hW'.alike, X.tail, State.WarmedH.trans X.warmed hW', X.limits, X.bytes, X.same.trans (hsame.setVm s.vm)⟩,
      ⟨g, mk, s₂, L, rfl, rfl, hqc, rfl, hL, rfl, rfl⟩, ?_⟩
    show Steps p.tables e below _ ((({ U with heap := s₂.heap, slotsUsed := s₂.slotsUsed } : State).setVm s₂.vm).setTop { g with pc := g.pc + len₂, stack := v.toList ++ g.stack })
    rw [← hs₂]
    exact hsteps
  · obtain ⟨e2, q2, q3, q4, q5, q6⟩ := id hsm
    have e3 : s₂ = ({ (U.calling g mk a).setFrames s₂.frames with heap := s₂.heap, slotsUsed := s₂.slotsUsed } : State).setVm s₂.vm := by
      have : s₂ = ({ s₂ with vm := (U.calling g mk a).vm } : State).setVm s₂.vm := rfl
      rw [e2] at this
      exact this
    have hf₂ : s₂.frames = .throwing q :: .java g :: U.frames.tail := hend
    have hW' : U.WarmedH s₂.vm := hW₂
    have hs₂ : s₂ = ((({ U with heap := s₂.heap, slotsUsed := s₂.slotsUsed } : State).setVm s₂.vm).setTop g).pushFrame (.throwing q) := by
      refine e3.trans ?_
      rw [hf₂, State.calling_eq h.top, State.setFrames_setFrames, State.pushFrame, State.frames_setTop _ hr', State.setTop_of_frames _ hr', State.setFrames_setFrames, hr]
      rfl
    have hsame : U.sameButNew ({ U with heap := s₂.heap, slotsUsed := s₂.slotsUsed } : State) L mc ms := by
      refine ⟨?_, q2, q3, q4, q5, q6⟩
      obtain ⟨t, ht, -⟩ := State.frames_cons hr
      show ({ U with heap := s₂.heap, slotsUsed := s₂.slotsUsed } : State) = { U.setFrames U.frames with heap := s₂.heap, slotsUsed := s₂.slotsUsed }
      rw [State.setFrames_self ht]
    subst hg
    refine Or.inr ⟨q, ⟨(({ U with heap := s₂.heap, slotsUsed := s₂.slotsUsed } : State).setVm s₂.vm), Ls ++ L, c0 + mc, s0 + ms⟩,
      ⟨X.admits, X.cas, X.clock, X.frames, X.room, X.hears, X.method, X.code, (X.here.setHeapUsed s₂.heap s₂.slotsUsed).setVm hW'.alike, X.tail, State.WarmedH.trans X.warmed hW', X.limits, X.bytes, X.same.trans (hsame.setVm s.vm)⟩,
      ⟨g, mk, s₂, L, E, ce, rfl, rfl, hx, hce, hcv, hcl, rfl, hL, rfl, rfl⟩, ?_⟩
    show Steps p.tables e below _ (((({ U with heap := s₂.heap, slotsUsed := s₂.slotsUsed } : State).setVm s₂.vm).setTop g).pushFrame (.throwing q))
    rw [← hs₂]
    exact hsteps
end
variable {p : Program} {l : Launch} {e : Env} {R : Room} {s : State} {m : MethodId} {args : Array Value} {below : List Frame} {meth : Method} {c : Code} {T : State} {H : Heap} {locs : List Loc} {cells slots : Nat}
theorem vx_callVX (X : Stand p l e R s m args below meth c T locs cells slots) (hexec : p.tables.exec = Jvm.exec) {own C : String} {index : Nat} {y : MethodName} {bytes : ByteArray} {maxL : Nat} {ret : Option FieldType} {hh : List (Nat × Nat × Nat × Nat)}
    (hown : s.vm.findClass own = some m.cls) (hlink : (Cond.methodLink own index y).before args s = true) (hinst : (Cond.instanceMethod y).before args s = true) (hsel : (Cond.selects C y y).before args s = true)
    (hcode : (Cond.codeWith y bytes maxL ret hh).before args s = true) (hy : y.cls ≠ "java/lang/invoke/MethodHandle" ∧ y.cls ≠ "java/lang/invoke/VarHandle")
    {W9 : Nat} {Pre : Pt → Array Value → Prop} {Post : Pt → Array Value → Option Value → Pt → Prop} {PostX : Pt → Array Value → Addr → Pt → Prop} (hK : vx_Back l R p e below s args y 3 W9 Pre Post PostX)
    {b : Addr} {cellB : Cell} (hcell : T.heap[b]? = some cellB) (hobj : cellB.vm.isStatics = false) (hcls : s.vm.findClass C = some cellB.cls)
    {g : JFrame} (hg : g.method = m) (hsize : g.locals.size = c.maxLocals) {argsL rest : List Value} (hlen : ∀ sig, parseMethodDescriptor y.desc = some sig → argsL.length = sig.parameters.length)
    (hstack : g.stack = argsL.reverse ++ .ref b :: rest) (hW : 2 * g.monitorRoom + (rest.map fun v => v.category).sum ≤ W9) (hdg : decode c.code g.pc = .ok (.invokevirtual index, 3))
    (hpre : ∀ vm₁, s.WarmedH vm₁ → Pre ⟨T.setVm vm₁, locs, cells, slots⟩ (Value.ref b :: argsL).toArray) :
    (∃ (v : Option Value) (vm₁ : Vm) (B : Pt), s.WarmedH vm₁ ∧ Stand p l e R s m args below meth c B.U B.locs B.cells B.slots ∧ Post ⟨T.setVm vm₁, locs, cells, slots⟩ (Value.ref b :: argsL).toArray v B ∧
      ∀ target, Steps p.tables e below (B.U.setTop { g with pc := g.pc + 3, stack := v.toList ++ rest }) target → Steps p.tables e below (T.setTop g) target) ∨
    (∃ (q : Addr) (vm₁ : Vm) (B : Pt), s.WarmedH vm₁ ∧ Stand p l e R s m args below meth c B.U B.locs B.cells B.slots ∧ PostX ⟨T.setVm vm₁, locs, cells, slots⟩ (Value.ref b :: argsL).toArray q B ∧
      Steps p.tables e below (T.setTop g) ((B.U.setTop { g with stack := rest }).pushFrame (.throwing q))) := by
  obtain ⟨mk, methM, hnamed, hmethM, hstM, habM⟩ := Cond.instanceMethod_spec hinst
  obtain ⟨m8, methM', cM, hn8, hmethM', -, -, -, -, -, -, hsigM⟩ := Cond.codeWith_spec hcode
  cases Option.some.inj (hn8.symm.trans hnamed)
  cases hmethM.symm.trans hmethM'
  obtain ⟨c2, r2, m2, q1, q2, q3, q4, kP, hkP, hkPi⟩ := Cond.selects_spec hsel
  cases hcls.symm.trans q1
  cases (State.methodFound?_of_named hnamed hy).symm.trans q2
  cases hnamed.symm.trans q3
  have hselP : selectMethod e.platform s.vm cellB.cls mk = .method mk := by rw [Launch.admits_selectMethod X.admits]; exact q4
  obtain ⟨vm₁, X₁, hstep₁⟩ := X.invokevirtual hexec hown hlink hnamed hmethM hstM hkP hkPi hy (a := b) (cell := cellB) hcell
    (fun z h => by rw [h] at hobj; cases hobj) hselP hmethM habM hkP hkPi (g := g) hg (argsL := argsL) (rest := rest) (hlen _ hsigM) hstack hdg
  rcases hK m meth c ⟨T.setVm vm₁, locs, cells, slots⟩ { g with stack := rest } (.invokevirtual index) mk (Value.ref b :: argsL).toArray X₁ hg hsize hdg hW (X₁.named hnamed) (hpre vm₁ X₁.warmed) with ⟨v, B, X', hpost, hsteps⟩ | ⟨q, B, X', hpost, hsteps⟩
  · exact Or.inl ⟨v, vm₁, B, X₁.warmed, X', hpost, fun target h => hstep₁ _ fun acts => by rw [doInvoke_state]; exact hsteps.trans h⟩
  · exact Or.inr ⟨q, vm₁, B, X₁.warmed, X', hpost, hstep₁ _ fun acts => by rw [doInvoke_state]; exact hsteps⟩
theorem vx_callSX (X : Stand p l e R s m args below meth c T locs cells slots) (hexec : p.tables.exec = Jvm.exec) {own : String} {index : Nat} {y : MethodName} {bytes : ByteArray} {maxL : Nat} {ret : Option FieldType} {hh : List (Nat × Nat × Nat × Nat)}
    (hown : s.vm.findClass own = some m.cls) (hlink : (Cond.methodLink own index y).before args s = true) (hstat : (Cond.static y).before args s = true) (hinit : (Cond.initialized y.cls).before args s = true)
    (hcode : (Cond.codeWith y bytes maxL ret hh).before args s = true) (hy : y.cls ≠ "java/lang/invoke/MethodHandle" ∧ y.cls ≠ "java/lang/invoke/VarHandle")
    {W9 : Nat} {Pre : Pt → Array Value → Prop} {Post : Pt → Array Value → Option Value → Pt → Prop} {PostX : Pt → Array Value → Addr → Pt → Prop} (hK : vx_Back l R p e below s args y 3 W9 Pre Post PostX)
    {g : JFrame} (hg : g.method = m) (hsize : g.locals.size = c.maxLocals) {argsL rest : List Value} (hlen : ∀ sig, parseMethodDescriptor y.desc = some sig → argsL.length = sig.parameters.length)
    (hstack : g.stack = argsL.reverse ++ rest) (hW : 2 * g.monitorRoom + (rest.map fun v => v.category).sum ≤ W9) (hdg : decode c.code g.pc = .ok (.invokestatic index, 3))
    (hpre : ∀ vm₁, s.WarmedH vm₁ → Pre ⟨T.setVm vm₁, locs, cells, slots⟩ argsL.toArray) :
    (∃ (v : Option Value) (vm₁ : Vm) (B : Pt), s.WarmedH vm₁ ∧ Stand p l e R s m args below meth c B.U B.locs B.cells B.slots ∧ Post ⟨T.setVm vm₁, locs, cells, slots⟩ argsL.toArray v B ∧
      ∀ target, Steps p.tables e below (B.U.setTop { g with pc := g.pc + 3, stack := v.toList ++ rest }) target → Steps p.tables e below (T.setTop g) target) ∨
    (∃ (q : Addr) (vm₁ : Vm) (B : Pt), s.WarmedH vm₁ ∧ Stand p l e R s m args below meth c B.U B.locs B.cells B.slots ∧ PostX ⟨T.setVm vm₁, locs, cells, slots⟩ argsL.toArray q B ∧
      Steps p.tables e below (T.setTop g) ((B.U.setTop { g with stack := rest }).pushFrame (.throwing q))) := by
  obtain ⟨mk, methM, cM, hnamed, hmethM, -, -, -, -, -, -, hsigM⟩ := Cond.codeWith_spec hcode
  have hstatic : methM.isStatic = true := Cond.static_spec hnamed hmethM hstat
  obtain ⟨kP, hkP, -⟩ := className_of_methodNamed hnamed
  have hinitP : kP.init = .initialized := Cond.initialized_spec (findClass_of_methodNamed hnamed) hkP hinit
  obtain ⟨vm₁, X₁, hstep₁⟩ := X.invokestatic hexec hown hlink hnamed hmethM hstatic hkP hinitP hy (g := g) hg (argsL := argsL) (rest := rest) (hlen _ hsigM) hstack hdg
  rcases hK m meth c ⟨T.setVm vm₁, locs, cells, slots⟩ { g with stack := rest } (.invokestatic index) mk argsL.toArray X₁ hg hsize hdg hW (X₁.named hnamed) (hpre vm₁ X₁.warmed) with ⟨v, B, X', hpost, hsteps⟩ | ⟨q, B, X', hpost, hsteps⟩
  · exact Or.inl ⟨v, vm₁, B, X₁.warmed, X', hpost, fun target h => hstep₁ _ fun acts => by rw [doInvoke_state]; exact hsteps.trans h⟩
  · exact Or.inr ⟨q, vm₁, B, X₁.warmed, X', hpost, hstep₁ _ fun acts => by rw [doInvoke_state]; exact hsteps⟩
theorem vx_callVW (X : Stand p l e R s m args below meth c T locs cells slots) (hexec : p.tables.exec = Jvm.exec) {own C : String} {index : Nat} {y : MethodName} {bytes : ByteArray} {maxL : Nat} {ret : Option FieldType} {hh : List (Nat × Nat × Nat × Nat)}
    (hown : s.vm.findClass own = some m.cls) (hlink : (Cond.methodLink own index y).before args s = true) (hinst : (Cond.instanceMethod y).before args s = true) (hsel : (Cond.selects C y y).before args s = true)
    (hcode : (Cond.codeWith y bytes maxL ret hh).before args s = true) (hy : y.cls ≠ "java/lang/invoke/MethodHandle" ∧ y.cls ≠ "java/lang/invoke/VarHandle")
    {W9 : Nat} {Pre : Pt → Array Value → Prop} {Post : Pt → Array Value → Option Value → Pt → Prop} (hK : Back l R p e below s args y 3 W9 Pre Post)
    {b : Addr} {cellB : Cell} (hcell : T.heap[b]? = some cellB) (hobj : cellB.vm.isStatics = false) (hcls : s.vm.findClass C = some cellB.cls)
    {g : JFrame} (hg : g.method = m) (hsize : g.locals.size = c.maxLocals) {argsL rest : List Value} (hlen : ∀ sig, parseMethodDescriptor y.desc = some sig → argsL.length = sig.parameters.length)
    (hstack : g.stack = argsL.reverse ++ .ref b :: rest) (hW : 2 * g.monitorRoom + (rest.map fun v => v.category).sum ≤ W9) (hdg : decode c.code g.pc = .ok (.invokevirtual index, 3))
    (hpre : ∀ vm₁, s.WarmedH vm₁ → Pre ⟨T.setVm vm₁, locs, cells, slots⟩ (Value.ref b :: argsL).toArray) :
    ∃ (v : Option Value) (vm₁ : Vm) (B : Pt), s.WarmedH vm₁ ∧ Stand p l e R s m args below meth c B.U B.locs B.cells B.slots ∧ Post ⟨T.setVm vm₁, locs, cells, slots⟩ (Value.ref b :: argsL).toArray v B ∧
      ∀ target, Steps p.tables e below (B.U.setTop { g with pc := g.pc + 3, stack := v.toList ++ rest }) target → Steps p.tables e below (T.setTop g) target := by
  obtain ⟨mk, methM, hnamed, hmethM, hstM, habM⟩ := Cond.instanceMethod_spec hinst
  obtain ⟨m8, methM', cM, hn8, hmethM', -, -, -, -, -, -, hsigM⟩ := Cond.codeWith_spec hcode
  cases Option.some.inj (hn8.symm.trans hnamed)
  cases hmethM.symm.trans hmethM'
  obtain ⟨c2, r2, m2, q1, q2, q3, q4, kP, hkP, hkPi⟩ := Cond.selects_spec hsel
  cases hcls.symm.trans q1
  cases (State.methodFound?_of_named hnamed hy).symm.trans q2
  cases hnamed.symm.trans q3
  have hselP : selectMethod e.platform s.vm cellB.cls mk = .method mk := by rw [Launch.admits_selectMethod X.admits]; exact q4
  obtain ⟨vm₁, X₁, hstep₁⟩ := X.invokevirtual hexec hown hlink hnamed hmethM hstM hkP hkPi hy (a := b) (cell := cellB) hcell
    (fun z h => by rw [h] at hobj; cases hobj) hselP hmethM habM hkP hkPi (g := g) hg (argsL := argsL) (rest := rest) (hlen _ hsigM) hstack hdg
  obtain ⟨v, B, X', hpost, hsteps⟩ := hK m meth c ⟨T.setVm vm₁, locs, cells, slots⟩ { g with stack := rest } (.invokevirtual index) mk (Value.ref b :: argsL).toArray X₁ hg hsize hdg hW (X₁.named hnamed) (hpre vm₁ X₁.warmed)
  exact ⟨v, vm₁, B, X₁.warmed, X', hpost, fun target h => hstep₁ _ fun acts => by rw [doInvoke_state]; exact hsteps.trans h⟩
abbrev vx_CVW (R : Room) (s : State) (args : Array Value) (own C : String) (index : Nat) (y : MethodName) (bytes : ByteArray) (maxL : Nat) (ret : Option FieldType) (hh : List (Nat × Nat × Nat × Nat)) (ws : List Cond) (rm : Room) (mc ms n : Nat) : Prop :=
  (rm.cells = mc ∧ rm.slots = ms ∧ rm.frames + 1 ≤ R.frames ∧ 8 + (maxL + 11) + rm.locals ≤ R.locals ∧ (∀ w ∈ ws, ∀ (a' : Array Value) (U : State), s.WarmedH U.vm → w.before a' U = true) ∧ Cond.codeWith y bytes maxL ret hh ∈ ws) ∧
  (Cond.codeWith y bytes maxL ret hh).before args s = true ∧ (Cond.initialized y.cls).before args s = true ∧ (y.cls ≠ "java/lang/invoke/MethodHandle" ∧ y.cls ≠ "java/lang/invoke/VarHandle") ∧
  (∀ sig, parseMethodDescriptor y.desc = some sig → n = sig.parameters.length) ∧ (Cond.methodLink own index y).before args s = true ∧ (Cond.instanceMethod y).before args s = true ∧ (Cond.selects C y y).before args s = true
theorem vx_cwVW {own C : String} {index maxL mc ms : Nat} {y : MethodName} {bytes : ByteArray} {ret : Option FieldType} {hh : List (Nat × Nat × Nat × Nat)} {Ts ws ws' : List Cond} {rm : Room} (n : Nat) (ht : ∀ w ∈ Ts, w.before args s = true) (hT : GoodIn Ts (wsV own index C y ws)) (hw : ws = Cond.codeWith y bytes maxL ret hh :: ws') (hrc : rm.cells = mc) (hrs : rm.slots = ms)
    (hd : y.cls = C ∧ y.cls ≠ "java/lang/invoke/MethodHandle" ∧ y.cls ≠ "java/lang/invoke/VarHandle" ∧ (parseMethodDescriptor y.desc).map (fun d => d.parameters.length) = some n) (hR : rm.frames + 1 ≤ R.frames ∧ 8 + (maxL + 11) + rm.locals ≤ R.locals) :
    vx_CVW R s args own C index y bytes maxL ret hh ws rm mc ms n := by
  obtain ⟨hC, hd⟩ := hd
  subst hC
  have ok : ∀ w ∈ wsV own index y.cls y ws, w.before args s = true := fun w h => ht w (hT w h).1
  have hG : GoodIn Ts ws := fun w h => hT w (by unfold wsV; exact List.mem_append_right _ h)
  have hc : Cond.codeWith y bytes maxL ret hh ∈ ws := by rw [hw]; exact List.mem_cons_self
  refine ⟨⟨hrc, hrs, hR.1, hR.2, pay_in ht hG, hc⟩, ht _ (hG _ hc).1, ok _ (by simp [wsV]), ⟨hd.1, hd.2.1⟩, fun sig h => ?_, ok _ (by simp [wsV]), ok _ (by simp [wsV]), ok _ (by simp [wsV])⟩
  have h2 := hd.2.2
  rw [h] at h2
  exact (Option.some.inj h2).symm
theorem vx_runVW {y : MethodName} {bytes cc : ByteArray} {maxL nL mc ms n index : Nat} {ret : Option FieldType} {hh : List (Nat × Nat × Nat × Nat)} {ws : List Cond} {rm : Room} {Pc : Array Value → State → Prop} {Qc : Array Value → State → Outcome → State → Prop} {free : Addr → Prop} {Ts : List Cond} {own C : String} {b : Addr} {As rest : List Value} {g : JFrame}
    (S : CallFix p m c cc nL s args Ts own) (hM : Met l y ws rm Pc Qc mc ms free) (cw : vx_CVW R s args own C index y bytes maxL ret hh ws rm mc ms n) (hp : PreV s H C b Pc As)
    (hg : g.method = m) (hn : As.length = n) (hsize : g.locals.size = nL) (hstack : g.stack = As.reverse ++ .ref b :: rest) (hW : 2 * g.monitorRoom + (rest.map fun v => v.category).sum ≤ 8) (hdg : decode cc g.pc = .ok (.invokevirtual index, 3)) (hf : cells + mc ≤ R.cells ∧ slots + ms ≤ R.slots) :
    va_Run p l e R s m args below meth c H locs cells slots mc ms g rest (Qc (Value.ref b :: As).toArray) free := by
  obtain ⟨⟨hrc, hrs, hfr, hlo, hws, hcw⟩, hcode, hini, hy, hlen, hl, hin, hse⟩ := cw
  have hK : Back l R p e below s args y 3 8 (PreOf R mc ms Pc) (PostOf Qc mc ms free) := va_backW (hh := hh) (bytes := bytes) (maxL := maxL) (ret := ret) hM hp.1 hrc hrs hfr hlo hws hcw (fun a' U hW => word_at hW (Or.inl (by first | rfl | simp [Cond.onTables, Cond.keeps, Cond.steady])) hini)
  obtain ⟨hx, hb, hml, ho, -⟩ := S
  obtain ⟨-, ⟨cellB, hcB, hoB, hclB⟩, hPc⟩ := hp
  intro T hT X
  obtain ⟨v, vm₁, ⟨U', l2, c2, s2⟩, hW₁, X', ⟨g', mk, t, L, e1, e2, hq, h1, hL, h2, h3⟩, st⟩ := vx_callVW X hx (C := C) (hh := hh) (bytes := bytes) (maxL := maxL) (ret := ret) ho hl hin hse hcode hy hK (by rw [hT]; exact hcB) hoB hclB hg (hsize.trans hml.symm) (argsL := As) (rest := rest) (fun sig h => hn.trans (hlen sig h)) hstack hW (by rw [hb]; exact hdg)
    (fun vm₁ hW₁ => ⟨hf.1, hf.2, hPc (T.setVm vm₁) hT hW₁⟩)
  dsimp only [Pt.U, Pt.locs, Pt.cells, Pt.slots] at X' e1 e2 h1 h2 h3 st
  subst h1; subst h2; subst h3
  exact ⟨v, (T.setVm vm₁).calling g' mk (Value.ref b :: As).toArray, t, U', L, hT, X', hL, e1, e2, hq, st⟩
section
variable {y : MethodName} {bytes cc : ByteArray} {maxL nL mc ms n index : Nat} {ret : Option FieldType} {ws : List Cond} {rm : Room} {Pc : Array Value → State → Prop} {Qc : Array Value → State → Outcome → State → Prop} {XC : String → State → State → Prop} {free : Addr → Prop} {Ts : List Cond} {own C : String} {b : Addr} {As rest : List Value} {g : JFrame}
theorem vx_runVX {hh : List (Nat × Nat × Nat × Nat)} (S : CallFix p m c cc nL s args Ts own) (hM : vx_Met l y ws rm Pc Qc XC mc ms free) (cw : vx_CVW R s args own C index y bytes maxL ret hh ws rm mc ms n) (hp : PreV s H C b Pc As)
    (hg : g.method = m) (hn : As.length = n) (hsize : g.locals.size = nL) (hstack : g.stack = As.reverse ++ .ref b :: rest) (hW : 2 * g.monitorRoom + (rest.map fun v => v.category).sum ≤ 8) (hdg : decode cc g.pc = .ok (.invokevirtual index, 3)) (hf : cells + mc ≤ R.cells ∧ slots + ms ≤ R.slots) :
    vx_Run p l e R s m args below meth c H locs cells slots mc ms g rest (Qc (Value.ref b :: As).toArray) XC free := by
  obtain ⟨⟨hrc, hrs, hfr, hlo, hws, hcw⟩, hcode, hini, hy, hlen, hl, hin, hse⟩ := cw
  have hK : vx_Back l R p e below s args y 3 8 (PreOf R mc ms Pc) (PostOf Qc mc ms free) (vx_Post XC mc ms free) := vx_backW (hh := hh) (bytes := bytes) (maxL := maxL) (ret := ret) hM hp.1 hrc hrs hfr hlo hws hcw (fun a' U hW => word_at hW (Or.inl (by first | rfl | simp [Cond.onTables, Cond.keeps, Cond.steady])) hini)
  obtain ⟨hx, hb, hml, ho, -⟩ := S
  obtain ⟨-, ⟨cellB, hcB, hoB, hclB⟩, hPc⟩ := hp
  intro T hT X
  rcases vx_callVX X hx (C := C) (hh := hh) (bytes := bytes) (maxL := maxL) (ret := ret) ho hl hin hse hcode hy hK (by rw [hT]; exact hcB) hoB hclB hg (hsize.trans hml.symm) (argsL := As) (rest := rest) (fun sig h => hn.trans (hlen sig h)) hstack hW (by rw [hb]; exact hdg)
    (fun vm₁ hW₁ => ⟨hf.1, hf.2, hPc (T.setVm vm₁) hT hW₁⟩) with ⟨v, vm₁, ⟨U', l2, c2, s2⟩, hW₁, X', ⟨g', mk, t, L, e1, e2, hq, h1, hL, h2, h3⟩, st⟩ | ⟨q, vm₁, ⟨U', l2, c2, s2⟩, hW₁, X', ⟨g', mk, t, L, E, ce, e1, e2, hq, hce, hcv, hcl, h1, hL, h2, h3⟩, st⟩
  · dsimp only [Pt.U, Pt.locs, Pt.cells, Pt.slots] at X' e1 e2 h1 h2 h3 st
    subst h1; subst h2; subst h3
    exact Or.inl ⟨v, (T.setVm vm₁).calling g' mk (Value.ref b :: As).toArray, t, U', L, hT, X', hL, e1, e2, hq, st⟩
  · dsimp only [Pt.U, Pt.locs, Pt.cells, Pt.slots] at X' e1 e2 h1 h2 h3 st hcl
    subst h1; subst h2; subst h3
    exact Or.inr ⟨q, (T.setVm vm₁).calling g' mk (Value.ref b :: As).toArray, t, U', L, E, ce, hT, X', hL, e1, e2, hq, hce, hcv, vx_cls hW₁ hcl, st⟩
theorem vx_runSX {hh : List (Nat × Nat × Nat × Nat)} (S : CallFix p m c cc nL s args Ts own) (hM : vx_Met l y ws rm Pc Qc XC mc ms free) (cw : vx_CSW R s args own index y bytes maxL ret hh ws rm mc ms n) (hp : PreS s H Pc As)
    (hg : g.method = m) (hn : As.length = n) (hsize : g.locals.size = nL) (hstack : g.stack = As.reverse ++ rest) (hW : 2 * g.monitorRoom + (rest.map fun v => v.category).sum ≤ 8) (hdg : decode cc g.pc = .ok (.invokestatic index, 3)) (hf : cells + mc ≤ R.cells ∧ slots + ms ≤ R.slots) :
    vx_Run p l e R s m args below meth c H locs cells slots mc ms g rest (Qc As.toArray) XC free := by
  obtain ⟨⟨hrc, hrs, hfr, hlo, hws, hcw⟩, hcode, hini, hy, hlen, hl, hstt⟩ := cw
  have hK : vx_Back l R p e below s args y 3 8 (PreOf R mc ms Pc) (PostOf Qc mc ms free) (vx_Post XC mc ms free) := vx_backW (hh := hh) (bytes := bytes) (maxL := maxL) (ret := ret) hM hp.1 hrc hrs hfr hlo hws hcw (fun a' U hW => word_at hW (Or.inl (by first | rfl | simp [Cond.onTables, Cond.keeps, Cond.steady])) hini)
  obtain ⟨hx, hb, hml, ho, -⟩ := S
  intro T hT X
  rcases vx_callSX X hx (hh := hh) (bytes := bytes) (maxL := maxL) (ret := ret) ho hl hstt hini hcode hy hK hg (hsize.trans hml.symm) (argsL := As) (rest := rest) (fun sig h => hn.trans (hlen sig h)) hstack hW (by rw [hb]; exact hdg)
    (fun vm₁ hW₁ => ⟨hf.1, hf.2, hp.2 (T.setVm vm₁) hT hW₁⟩) with ⟨v, vm₁, ⟨U', l2, c2, s2⟩, hW₁, X', ⟨g', mk, t, L, e1, e2, hq, h1, hL, h2, h3⟩, st⟩ | ⟨q, vm₁, ⟨U', l2, c2, s2⟩, hW₁, X', ⟨g', mk, t, L, E, ce, e1, e2, hq, hce, hcv, hcl, h1, hL, h2, h3⟩, st⟩
  · dsimp only [Pt.U, Pt.locs, Pt.cells, Pt.slots] at X' e1 e2 h1 h2 h3 st
    subst h1; subst h2; subst h3
    exact Or.inl ⟨v, (T.setVm vm₁).calling g' mk As.toArray, t, U', L, hT, X', hL, e1, e2, hq, st⟩
  · dsimp only [Pt.U, Pt.locs, Pt.cells, Pt.slots] at X' e1 e2 h1 h2 h3 st hcl
    subst h1; subst h2; subst h3
    exact Or.inr ⟨q, (T.setVm vm₁).calling g' mk As.toArray, t, U', L, E, ce, hT, X', hL, e1, e2, hq, hce, hcv, vx_cls hW₁ hcl, st⟩
end
end VXH
theorem vx_ofWH {l : Launch} {y : MethodName} {ws ws' : List Cond} {rm : Room} {Pc : Array Value → State → Prop} {Qc : Array Value → State → Outcome → State → Prop} {XC : String → State → State → Prop} {mc ms : Nat} {free : Addr → Prop} {cc : ByteArray} {maxL : Nat} {ret : Option FieldType} {hh : List (Nat × Nat × Nat × Nat)}
    (hy : plainName y.cls = true) (hw : ws = Cond.codeWith y cc maxL ret hh :: ws')
    (body : ∀ p e s m args below meth c s₁, BodyLoose p l y (headSpec ws rm) cc maxL ret e s m args below meth c s₁ → c.maxLocals = maxL → Pc args s →
      W p l e (headSpec ws rm).room s m args below meth c s.heap [] 0 0 (vx_MQ below Qc XC args s mc ms free) (entryFrame m args maxL)) : vx_Met l y ws rm Pc Qc XC mc ms free := by
  refine MetFree.of_bodyS (code := cc) (maxLocals := maxL) (ret := ret) hy ?_ ?_
  · intro args s m h hn
    obtain ⟨m9, meth, c, hn9, h1, h2, h3, h4, -, h5, h6, -⟩ := Cond.codeWith_spec (atoms_spec (ws := ws) h _ (by rw [hw]; exact List.mem_cons_self))
    cases hn.symm.trans hn9
    exact ⟨meth, c, h1, h2, h3, h4, h5, h6⟩
  · intro p e s m args below meth c s₁ B hml hP _
    have hh0 : s₁.heap = s.heap := by rw [B.state]; rfl
    obtain ⟨t, a1, o, b1, b2, b3⟩ := body p e s m args below meth c s₁ B hml hP s₁ hh0 (Stand.of_body B)
    exact ⟨t, o, a1, b1, b2, b3⟩
/-! ===== END ===== -/
end
section
/-! ===== BEGIN printed: names, fields, word lists, decode rows ===== -/
def RX0 : String := "NumberCircuits"
/-! ===== ours: the words of a throw whose first constructor names any pool entry ===== -/
def nc_b13 : ByteArray := ⟨#[0x2a, 0x2b, 0xb7, 0x00, 0x0d, 0xb1]⟩
theorem nc_b13_0 : decode nc_b13 0 = .ok (.aload_n 0, 1) := by decide +kernel
theorem nc_b13_1 : decode nc_b13 1 = .ok (.aload_n 1, 1) := by decide +kernel
theorem nc_b13_2 : decode nc_b13 2 = .ok (.invokespecial 13, 3) := by decide +kernel
theorem nc_b13_5 : decode nc_b13 5 = .ok (.return_, 1) := by decide +kernel
/-- the words of the tables that a throw of a new X leans on; idx, bytes: X's own constructor, which hands its message to Y's -/
def nc_thrW (own : String) (ic : Nat) (X Y : String) (idx : Nat) (bytes : ByteArray) (names : List String) : List Cond :=
  Bundle.throwableAtoms ++ Bundle.throwableSAtoms ++ Bundle.passSAtoms X Y idx bytes ++ Bundle.chainSAtoms Y names ++
  [.methodLink own ic (Bundle.initS X), .instantiable X 6, .selects X Bundle.tFill0 Bundle.tFill0, .selects X Bundle.tFill Bundle.tFill,
   .lays X Bundle.tN "cause" "Ljava/lang/Throwable;", .lays X Bundle.tN "stackTrace" Bundle.steD, .lays X Bundle.tN "suppressedExceptions" Bundle.listD, .lays X Bundle.tN "detailMessage" "Ljava/lang/String;",
   .fieldLink Bundle.tN 198 Bundle.tN "backtrace" "Ljava/lang/Object;", .lays Bundle.tN Bundle.tN "backtrace" "Ljava/lang/Object;", .lays X Bundle.tN "backtrace" "Ljava/lang/Object;"]
abbrev nc_thrG : List Cond := ((nc_thrW RX0 49 "java/util/NoSuchElementException" "java/lang/RuntimeException" 13 nc_b13 ["java/lang/Exception"]).filter vx_no).filter goodWord
def TX0 : u_T := fun k => match k with
  | 0 => ("NumberCircuits", "numbers", "[S", true)
  | _ => ("NumberCircuits", "truths", "[I", true)
def tyX0 : Nat → FieldType := fun k => match k with
  | 0 => .array .short
  | _ => .array .int
abbrev wsX00 : List Cond := u_ws RX0 TX0 2
theorem nmX0 : ∀ a, a < 2 → ∀ b, b < 2 → a ≠ b → (TX0 a).2.1 ≠ (TX0 b).2.1 := by decide +kernel
theorem tyX0_ok : ∀ k, k < 2 → parseFieldDescriptor (TX0 k).2.2.1 = some (tyX0 k) := by decide +kernel
abbrev cX0_init : ByteArray := prog_1_method_1_code
def yX0_init : MethodName := ⟨RX0, "<init>", "()V"⟩
abbrev cX0_constant : ByteArray := prog_1_method_2_code
def yX0_constant : MethodName := ⟨RX0, "constant", "(II)V"⟩
abbrev cX0_unknown : ByteArray := prog_1_method_3_code
def yX0_unknown : MethodName := ⟨RX0, "unknown", "(IIII)V"⟩
abbrev cX0_reckon : ByteArray := prog_1_method_4_code
def yX0_reckon : MethodName := ⟨RX0, "reckon", "(IIII)V"⟩
abbrev cX0_compare : ByteArray := prog_1_method_5_code
def yX0_compare : MethodName := ⟨RX0, "compare", "(IIII)I"⟩
abbrev cX0_choose : ByteArray := prog_1_method_6_code
def yX0_choose : MethodName := ⟨RX0, "choose", "(IIII)V"⟩
abbrev cX0_join : ByteArray := prog_1_method_7_code
def yX0_join : MethodName := ⟨RX0, "join", "(IIII)I"⟩
abbrev cX0_value : ByteArray := prog_1_method_8_code
def yX0_value : MethodName := ⟨RX0, "value", "(II)I"⟩
abbrev cX0_way : ByteArray := prog_1_method_9_code
def yX0_way : MethodName := ⟨RX0, "way", "(I)I"⟩
abbrev cX0_same : ByteArray := prog_1_method_10_code
def yX0_same : MethodName := ⟨RX0, "same", "(II)Z"⟩
abbrev cX0_tidy : ByteArray := prog_1_method_11_code
def yX0_tidy : MethodName := ⟨RX0, "tidy", "(I)I"⟩
abbrev cX0_needUpTo : ByteArray := prog_1_method_12_code
def yX0_needUpTo : MethodName := ⟨RX0, "needUpTo", "(II)V"⟩
abbrev cX0_place : ByteArray := prog_1_method_13_code
def yX0_place : MethodName := ⟨RX0, "place", "(II)I"⟩
abbrev cX0_isYes : ByteArray := prog_1_method_14_code
def yX0_isYes : MethodName := ⟨RX0, "isYes", "(II)Z"⟩
abbrev cX0_setTruth : ByteArray := prog_1_method_15_code
def yX0_setTruth : MethodName := ⟨RX0, "setTruth", "(IIZ)V"⟩
abbrev cX0_isZeroEverywhere : ByteArray := prog_1_method_16_code
def yX0_isZeroEverywhere : MethodName := ⟨RX0, "isZeroEverywhere", "(I)Z"⟩
abbrev cX0_reckoned : ByteArray := prog_1_method_17_code
def yX0_reckoned : MethodName := ⟨RX0, "reckoned", "(III)I"⟩
abbrev cX0_compared : ByteArray := prog_1_method_18_code
def yX0_compared : MethodName := ⟨RX0, "compared", "(III)Z"⟩
abbrev cX0_joined : ByteArray := prog_1_method_19_code
def yX0_joined : MethodName := ⟨RX0, "joined", "(IZZ)Z"⟩
def RX1 : String := "NumberCircuitsModel"
def TX1 : u_T := fun k => match k with
  | 0 => ("NumberCircuitsModel", "failed", "I", false)
  | 1 => ("NumberCircuitsModel", "numbers", "[I", true)
  | 2 => ("NumberCircuitsModel", "truths", "[Z", true)
  | _ => ("NumberCircuitsModel", "made", "[I", true)
def tyX1 : Nat → FieldType := fun k => match k with
  | 0 => .int
  | 1 => .array .int
  | 2 => .array .boolean
  | _ => .array .int
abbrev wsX10 : List Cond := u_ws RX1 TX1 4
theorem nmX1 : ∀ a, a < 4 → ∀ b, b < 4 → a ≠ b → (TX1 a).2.1 ≠ (TX1 b).2.1 := by decide +kernel
theorem tyX1_ok : ∀ k, k < 4 → parseFieldDescriptor (TX1 k).2.2.1 = some (tyX1 k) := by decide +kernel
abbrev cX1_init : ByteArray := prog_3_method_1_code
def yX1_init : MethodName := ⟨RX1, "<init>", "()V"⟩
abbrev cX1_thrown : ByteArray := prog_3_method_2_code
def yX1_thrown : MethodName := ⟨RX1, "thrown", "()I"⟩
abbrev cX1_out : ByteArray := prog_3_method_4_code
def yX1_out : MethodName := ⟨RX1, "out", "(II)Z"⟩
abbrev cX1_constant : ByteArray := prog_3_method_5_code
def yX1_constant : MethodName := ⟨RX1, "constant", "(II)V"⟩
def RJ0 : String := "java/lang/String"
def TJ0 : u_T := fun k => match k with
  | _ => ("", "", "", false)
def tyJ0 : Nat → FieldType := fun k => match k with
  | _ => .int
abbrev wsJ00 : List Cond := u_ws RJ0 TJ0 0
theorem nmJ0 : ∀ a, a < 0 → ∀ b, b < 0 → a ≠ b → (TJ0 a).2.1 ≠ (TJ0 b).2.1 := by decide +kernel
theorem tyJ0_ok : ∀ k, k < 0 → parseFieldDescriptor (TJ0 k).2.2.1 = some (tyJ0 k) := by decide +kernel
def RL : String := "NumberCircuitsLaw"
abbrev cL_constant : ByteArray := method_3_code
def yL_constant : MethodName := ⟨RL, "constant", "(LNumberCircuits;II)I"⟩
abbrev cL_unknown : ByteArray := method_4_code
def yL_unknown : MethodName := ⟨RL, "unknown", "(LNumberCircuits;IIII)I"⟩
abbrev cL_reckon : ByteArray := method_5_code
def yL_reckon : MethodName := ⟨RL, "reckon", "(LNumberCircuits;IIII)I"⟩
abbrev cL_compare : ByteArray := method_6_code
def yL_compare : MethodName := ⟨RL, "compare", "(LNumberCircuits;IIII[J)I"⟩
abbrev cL_choose : ByteArray := method_7_code
def yL_choose : MethodName := ⟨RL, "choose", "(LNumberCircuits;IIII)I"⟩
abbrev cL_join : ByteArray := method_8_code
def yL_join : MethodName := ⟨RL, "join", "(LNumberCircuits;IIII[J)I"⟩
abbrev cL_value : ByteArray := method_9_code
def yL_value : MethodName := ⟨RL, "value", "(LNumberCircuits;II[J)I"⟩
abbrev cL_way : ByteArray := method_10_code
def yL_way : MethodName := ⟨RL, "way", "(LNumberCircuits;I[J)I"⟩
abbrev cL_same : ByteArray := method_11_code
def yL_same : MethodName := ⟨RL, "same", "(LNumberCircuits;II[J)I"⟩
abbrev cL_tidy : ByteArray := method_12_code
def yL_tidy : MethodName := ⟨RL, "tidy", "(LNumberCircuits;I[J)I"⟩
abbrev cL_law : ByteArray := code
def yL_law : MethodName := ⟨RL, "law", "([I)Z"⟩
def wsX0_init : List Cond := .code yX0_init cX0_init 1 none :: ([.methodLink RX0 1 objectInit, .instanceMethod objectInit, .code objectInit ⟨#[0xb1]⟩ 1 none, .arrayClass .short, .fieldLink RX0 9 "NumberCircuits" "numbers" "[S", .arrayClass .int, .fieldLink RX0 13 "NumberCircuits" "truths" "[I"] ++ wsX00)
def wsX0_needUpTo : List Cond := .code yX0_needUpTo cX0_needUpTo 2 none :: ([.classLink RX0 56 "java/lang/IllegalArgumentException", .initialized "java/lang/IllegalArgumentException"] ++ (vx_atS RX0 60 "java/lang/IllegalArgumentException" ["java/lang/RuntimeException", "java/lang/Exception"]).filter goodWord)
def wsX0_place : List Cond := .code yX0_place cX0_place 2 (some .int) :: ([])
def wsX0_constant : List Cond := .code yX0_constant cX0_constant 4 none :: ([.fieldLink RX0 9 "NumberCircuits" "numbers" "[S", .methodLink RX0 17 yX0_needUpTo, .static yX0_needUpTo, .initialized RX0, .code yX0_needUpTo cX0_needUpTo 2 none, .classLink RX0 56 "java/lang/IllegalArgumentException", .initialized "java/lang/IllegalArgumentException", .methodLink RX0 21 yX0_place, .static yX0_place, .code yX0_place cX0_place 2 (some .int)] ++ wsX00 ++ (vx_atS RX0 60 "java/lang/IllegalArgumentException" ["java/lang/RuntimeException", "java/lang/Exception"]).filter goodWord)
def wsX0_unknown : List Cond := .code yX0_unknown cX0_unknown 7 none :: ([.fieldLink RX0 9 "NumberCircuits" "numbers" "[S", .methodLink RX0 17 yX0_needUpTo, .static yX0_needUpTo, .initialized RX0, .code yX0_needUpTo cX0_needUpTo 2 none, .classLink RX0 56 "java/lang/IllegalArgumentException", .initialized "java/lang/IllegalArgumentException", .methodLink RX0 21 yX0_place, .static yX0_place, .code yX0_place cX0_place 2 (some .int)] ++ wsX00 ++ (vx_atS RX0 60 "java/lang/IllegalArgumentException" ["java/lang/RuntimeException", "java/lang/Exception"]).filter goodWord)
def wsX0_reckoned : List Cond := .code yX0_reckoned cX0_reckoned 3 (some .int) :: ([])
def wsX0_reckon : List Cond := .code yX0_reckon cX0_reckon 7 none :: ([.fieldLink RX0 9 "NumberCircuits" "numbers" "[S", .methodLink RX0 17 yX0_needUpTo, .static yX0_needUpTo, .initialized RX0, .code yX0_needUpTo cX0_needUpTo 2 none, .classLink RX0 56 "java/lang/IllegalArgumentException", .initialized "java/lang/IllegalArgumentException", .methodLink RX0 21 yX0_place, .static yX0_place, .code yX0_place cX0_place 2 (some .int), .methodLink RX0 25 yX0_reckoned, .static yX0_reckoned, .code yX0_reckoned cX0_reckoned 3 (some .int)] ++ wsX00 ++ (vx_atS RX0 60 "java/lang/IllegalArgumentException" ["java/lang/RuntimeException", "java/lang/Exception"]).filter goodWord)
def wsX0_compared : List Cond := .code yX0_compared cX0_compared 3 (some .boolean) :: ([])
def wsX0_setTruth : List Cond := .code yX0_setTruth cX0_setTruth 5 none :: ([.fieldLink RX0 13 "NumberCircuits" "truths" "[I"] ++ wsX00)
def wsX0_compare : List Cond := .code yX0_compare cX0_compare 8 (some .int) :: ([.fieldLink RX0 9 "NumberCircuits" "numbers" "[S", .methodLink RX0 17 yX0_needUpTo, .static yX0_needUpTo, .initialized RX0, .code yX0_needUpTo cX0_needUpTo 2 none, .classLink RX0 56 "java/lang/IllegalArgumentException", .initialized "java/lang/IllegalArgumentException", .methodLink RX0 21 yX0_place, .static yX0_place, .code yX0_place cX0_place 2 (some .int), .methodLink RX0 29 yX0_compared, .static yX0_compared, .code yX0_compared cX0_compared 3 (some .boolean), .methodLink RX0 33 yX0_setTruth, .instanceMethod yX0_setTruth, .selects RX0 yX0_setTruth yX0_setTruth, .code yX0_setTruth cX0_setTruth 5 none, .fieldLink RX0 13 "NumberCircuits" "truths" "[I"] ++ wsX00 ++ (vx_atS RX0 60 "java/lang/IllegalArgumentException" ["java/lang/RuntimeException", "java/lang/Exception"]).filter goodWord)
def wsX0_isYes : List Cond := .code yX0_isYes cX0_isYes 3 (some .boolean) :: ([.fieldLink RX0 13 "NumberCircuits" "truths" "[I"] ++ wsX00)
def wsX0_choose : List Cond := .code yX0_choose cX0_choose 7 none :: ([.fieldLink RX0 9 "NumberCircuits" "numbers" "[S", .methodLink RX0 17 yX0_needUpTo, .static yX0_needUpTo, .initialized RX0, .code yX0_needUpTo cX0_needUpTo 2 none, .classLink RX0 56 "java/lang/IllegalArgumentException", .initialized "java/lang/IllegalArgumentException", .methodLink RX0 37 yX0_isYes, .instanceMethod yX0_isYes, .selects RX0 yX0_isYes yX0_isYes, .code yX0_isYes cX0_isYes 3 (some .boolean), .fieldLink RX0 13 "NumberCircuits" "truths" "[I", .methodLink RX0 21 yX0_place, .static yX0_place, .code yX0_place cX0_place 2 (some .int)] ++ wsX00 ++ (vx_atS RX0 60 "java/lang/IllegalArgumentException" ["java/lang/RuntimeException", "java/lang/Exception"]).filter goodWord)
def wsX0_joined : List Cond := .code yX0_joined cX0_joined 3 (some .boolean) :: ([])
def wsX0_join : List Cond := .code yX0_join cX0_join 8 (some .int) :: ([.methodLink RX0 17 yX0_needUpTo, .static yX0_needUpTo, .initialized RX0, .code yX0_needUpTo cX0_needUpTo 2 none, .classLink RX0 56 "java/lang/IllegalArgumentException", .initialized "java/lang/IllegalArgumentException", .methodLink RX0 37 yX0_isYes, .instanceMethod yX0_isYes, .selects RX0 yX0_isYes yX0_isYes, .code yX0_isYes cX0_isYes 3 (some .boolean), .fieldLink RX0 13 "NumberCircuits" "truths" "[I", .methodLink RX0 41 yX0_joined, .static yX0_joined, .code yX0_joined cX0_joined 3 (some .boolean), .methodLink RX0 33 yX0_setTruth, .instanceMethod yX0_setTruth, .selects RX0 yX0_setTruth yX0_setTruth, .code yX0_setTruth cX0_setTruth 5 none] ++ wsX00 ++ (vx_atS RX0 60 "java/lang/IllegalArgumentException" ["java/lang/RuntimeException", "java/lang/Exception"]).filter goodWord)
def wsX0_value : List Cond := .code yX0_value cX0_value 3 (some .int) :: ([.fieldLink RX0 9 "NumberCircuits" "numbers" "[S", .methodLink RX0 17 yX0_needUpTo, .static yX0_needUpTo, .initialized RX0, .code yX0_needUpTo cX0_needUpTo 2 none, .classLink RX0 56 "java/lang/IllegalArgumentException", .initialized "java/lang/IllegalArgumentException", .methodLink RX0 21 yX0_place, .static yX0_place, .code yX0_place cX0_place 2 (some .int)] ++ wsX00 ++ (vx_atS RX0 60 "java/lang/IllegalArgumentException" ["java/lang/RuntimeException", "java/lang/Exception"]).filter goodWord)
def wsX0_way : List Cond := .code yX0_way cX0_way 3 (some .int) :: ([.classLink RX0 45 "java/util/NoSuchElementException", .initialized "java/util/NoSuchElementException", .methodLink RX0 17 yX0_needUpTo, .static yX0_needUpTo, .initialized RX0, .code yX0_needUpTo cX0_needUpTo 2 none, .classLink RX0 56 "java/lang/IllegalArgumentException", .initialized "java/lang/IllegalArgumentException", .methodLink RX0 37 yX0_isYes, .instanceMethod yX0_isYes, .selects RX0 yX0_isYes yX0_isYes, .code yX0_isYes cX0_isYes 3 (some .boolean), .fieldLink RX0 13 "NumberCircuits" "truths" "[I"] ++ wsX00 ++ nc_thrG ++ (vx_atS RX0 60 "java/lang/IllegalArgumentException" ["java/lang/RuntimeException", "java/lang/Exception"]).filter goodWord)
def wsX0_same : List Cond := .code yX0_same cX0_same 4 (some .boolean) :: ([.fieldLink RX0 9 "NumberCircuits" "numbers" "[S", .methodLink RX0 17 yX0_needUpTo, .static yX0_needUpTo, .initialized RX0, .code yX0_needUpTo cX0_needUpTo 2 none, .classLink RX0 56 "java/lang/IllegalArgumentException", .initialized "java/lang/IllegalArgumentException", .methodLink RX0 21 yX0_place, .static yX0_place, .code yX0_place cX0_place 2 (some .int)] ++ wsX00 ++ (vx_atS RX0 60 "java/lang/IllegalArgumentException" ["java/lang/RuntimeException", "java/lang/Exception"]).filter goodWord)
def wsX0_isZeroEverywhere : List Cond := .code yX0_isZeroEverywhere cX0_isZeroEverywhere 3 (some .boolean) :: ([.fieldLink RX0 9 "NumberCircuits" "numbers" "[S", .methodLink RX0 21 yX0_place, .static yX0_place, .initialized RX0, .code yX0_place cX0_place 2 (some .int)] ++ wsX00)
def wsX0_tidy : List Cond := .code yX0_tidy cX0_tidy 4 (some .int) :: ([.methodLink RX0 17 yX0_needUpTo, .static yX0_needUpTo, .initialized RX0, .code yX0_needUpTo cX0_needUpTo 2 none, .classLink RX0 56 "java/lang/IllegalArgumentException", .initialized "java/lang/IllegalArgumentException", .methodLink RX0 52 yX0_isZeroEverywhere, .instanceMethod yX0_isZeroEverywhere, .selects RX0 yX0_isZeroEverywhere yX0_isZeroEverywhere, .code yX0_isZeroEverywhere cX0_isZeroEverywhere 3 (some .boolean), .fieldLink RX0 9 "NumberCircuits" "numbers" "[S", .methodLink RX0 21 yX0_place, .static yX0_place, .code yX0_place cX0_place 2 (some .int)] ++ wsX00 ++ (vx_atS RX0 60 "java/lang/IllegalArgumentException" ["java/lang/RuntimeException", "java/lang/Exception"]).filter goodWord)
def wsX1_init : List Cond := .code yX1_init cX1_init 1 none :: ([.methodLink RX1 1 objectInit, .instanceMethod objectInit, .code objectInit ⟨#[0xb1]⟩ 1 none, .arrayClass .int, .fieldLink RX1 7 "NumberCircuitsModel" "numbers" "[I", .arrayClass .boolean, .fieldLink RX1 13 "NumberCircuitsModel" "truths" "[Z", .fieldLink RX1 17 "NumberCircuitsModel" "made" "[I"] ++ wsX10)
def wsX1_thrown : List Cond := .code yX1_thrown cX1_thrown 1 (some .int) :: ([.fieldLink RX1 20 "NumberCircuitsModel" "failed" "I"] ++ wsX10)
def wsX1_out : List Cond := .code yX1_out cX1_out 3 (some .boolean) :: ([])
def wsX1_constant : List Cond := .code yX1_constant cX1_constant 4 none :: ([.fieldLink RX1 20 "NumberCircuitsModel" "failed" "I", .fieldLink RX1 7 "NumberCircuitsModel" "numbers" "[I", .methodLink RX1 24 yX1_out, .instanceMethod yX1_out, .selects RX1 yX1_out yX1_out, .initialized RX1, .code yX1_out cX1_out 3 (some .boolean)] ++ wsX10)
def wsL_constant : List Cond := .codeWith yL_constant cL_constant 4 (some .int) [(0, 6, 9, 13)] :: ([.classLink RL 13 "java/lang/IllegalArgumentException", .methodLink RL 7 yX0_constant, .instanceMethod yX0_constant, .selects RX0 yX0_constant yX0_constant, .initialized RX0, .code yX0_constant cX0_constant 4 none, .fieldLink RX0 9 "NumberCircuits" "numbers" "[S", .methodLink RX0 17 yX0_needUpTo, .static yX0_needUpTo, .code yX0_needUpTo cX0_needUpTo 2 none, .classLink RX0 56 "java/lang/IllegalArgumentException", .initialized "java/lang/IllegalArgumentException", .methodLink RX0 21 yX0_place, .static yX0_place, .code yX0_place cX0_place 2 (some .int)] ++ wsX00 ++ (vx_atS RX0 60 "java/lang/IllegalArgumentException" ["java/lang/RuntimeException", "java/lang/Exception"]).filter goodWord)
def wsL_unknown : List Cond := .codeWith yL_unknown cL_unknown 6 (some .int) [(0, 9, 12, 13)] :: ([.classLink RL 13 "java/lang/IllegalArgumentException", .methodLink RL 15 yX0_unknown, .instanceMethod yX0_unknown, .selects RX0 yX0_unknown yX0_unknown, .initialized RX0, .code yX0_unknown cX0_unknown 7 none, .fieldLink RX0 9 "NumberCircuits" "numbers" "[S", .methodLink RX0 17 yX0_needUpTo, .static yX0_needUpTo, .code yX0_needUpTo cX0_needUpTo 2 none, .classLink RX0 56 "java/lang/IllegalArgumentException", .initialized "java/lang/IllegalArgumentException", .methodLink RX0 21 yX0_place, .static yX0_place, .code yX0_place cX0_place 2 (some .int)] ++ wsX00 ++ (vx_atS RX0 60 "java/lang/IllegalArgumentException" ["java/lang/RuntimeException", "java/lang/Exception"]).filter goodWord)
def wsL_reckon : List Cond := .codeWith yL_reckon cL_reckon 6 (some .int) [(0, 9, 12, 13)] :: ([.classLink RL 13 "java/lang/IllegalArgumentException", .methodLink RL 19 yX0_reckon, .instanceMethod yX0_reckon, .selects RX0 yX0_reckon yX0_reckon, .initialized RX0, .code yX0_reckon cX0_reckon 7 none, .fieldLink RX0 9 "NumberCircuits" "numbers" "[S", .methodLink RX0 17 yX0_needUpTo, .static yX0_needUpTo, .code yX0_needUpTo cX0_needUpTo 2 none, .classLink RX0 56 "java/lang/IllegalArgumentException", .initialized "java/lang/IllegalArgumentException", .methodLink RX0 21 yX0_place, .static yX0_place, .code yX0_place cX0_place 2 (some .int), .methodLink RX0 25 yX0_reckoned, .static yX0_reckoned, .code yX0_reckoned cX0_reckoned 3 (some .int)] ++ wsX00 ++ (vx_atS RX0 60 "java/lang/IllegalArgumentException" ["java/lang/RuntimeException", "java/lang/Exception"]).filter goodWord)
def wsL_compare : List Cond := .codeWith yL_compare cL_compare 7 (some .int) [(0, 14, 17, 13)] :: ([.classLink RL 13 "java/lang/IllegalArgumentException", .methodLink RL 22 yX0_compare, .instanceMethod yX0_compare, .selects RX0 yX0_compare yX0_compare, .initialized RX0, .code yX0_compare cX0_compare 8 (some .int), .fieldLink RX0 9 "NumberCircuits" "numbers" "[S", .methodLink RX0 17 yX0_needUpTo, .static yX0_needUpTo, .code yX0_needUpTo cX0_needUpTo 2 none, .classLink RX0 56 "java/lang/IllegalArgumentException", .initialized "java/lang/IllegalArgumentException", .methodLink RX0 21 yX0_place, .static yX0_place, .code yX0_place cX0_place 2 (some .int), .methodLink RX0 29 yX0_compared, .static yX0_compared, .code yX0_compared cX0_compared 3 (some .boolean), .methodLink RX0 33 yX0_setTruth, .instanceMethod yX0_setTruth, .selects RX0 yX0_setTruth yX0_setTruth, .code yX0_setTruth cX0_setTruth 5 none, .fieldLink RX0 13 "NumberCircuits" "truths" "[I"] ++ wsX00 ++ (vx_atS RX0 60 "java/lang/IllegalArgumentException" ["java/lang/RuntimeException", "java/lang/Exception"]).filter goodWord)
def wsL_choose : List Cond := .codeWith yL_choose cL_choose 6 (some .int) [(0, 9, 12, 13)] :: ([.classLink RL 13 "java/lang/IllegalArgumentException", .methodLink RL 26 yX0_choose, .instanceMethod yX0_choose, .selects RX0 yX0_choose yX0_choose, .initialized RX0, .code yX0_choose cX0_choose 7 none, .fieldLink RX0 9 "NumberCircuits" "numbers" "[S", .methodLink RX0 17 yX0_needUpTo, .static yX0_needUpTo, .code yX0_needUpTo cX0_needUpTo 2 none, .classLink RX0 56 "java/lang/IllegalArgumentException", .initialized "java/lang/IllegalArgumentException", .methodLink RX0 37 yX0_isYes, .instanceMethod yX0_isYes, .selects RX0 yX0_isYes yX0_isYes, .code yX0_isYes cX0_isYes 3 (some .boolean), .fieldLink RX0 13 "NumberCircuits" "truths" "[I", .methodLink RX0 21 yX0_place, .static yX0_place, .code yX0_place cX0_place 2 (some .int)] ++ wsX00 ++ (vx_atS RX0 60 "java/lang/IllegalArgumentException" ["java/lang/RuntimeException", "java/lang/Exception"]).filter goodWord)
def wsL_join : List Cond := .codeWith yL_join cL_join 7 (some .int) [(0, 14, 17, 13)] :: ([.classLink RL 13 "java/lang/IllegalArgumentException", .methodLink RL 29 yX0_join, .instanceMethod yX0_join, .selects RX0 yX0_join yX0_join, .initialized RX0, .code yX0_join cX0_join 8 (some .int), .methodLink RX0 17 yX0_needUpTo, .static yX0_needUpTo, .code yX0_needUpTo cX0_needUpTo 2 none, .classLink RX0 56 "java/lang/IllegalArgumentException", .initialized "java/lang/IllegalArgumentException", .methodLink RX0 37 yX0_isYes, .instanceMethod yX0_isYes, .selects RX0 yX0_isYes yX0_isYes, .code yX0_isYes cX0_isYes 3 (some .boolean), .fieldLink RX0 13 "NumberCircuits" "truths" "[I", .methodLink RX0 41 yX0_joined, .static yX0_joined, .code yX0_joined cX0_joined 3 (some .boolean), .methodLink RX0 33 yX0_setTruth, .instanceMethod yX0_setTruth, .selects RX0 yX0_setTruth yX0_setTruth, .code yX0_setTruth cX0_setTruth 5 none] ++ wsX00 ++ (vx_atS RX0 60 "java/lang/IllegalArgumentException" ["java/lang/RuntimeException", "java/lang/Exception"]).filter goodWord)
def wsL_value : List Cond := .codeWith yL_value cL_value 5 (some .int) [(0, 10, 13, 13)] :: ([.classLink RL 13 "java/lang/IllegalArgumentException", .methodLink RL 32 yX0_value, .instanceMethod yX0_value, .selects RX0 yX0_value yX0_value, .initialized RX0, .code yX0_value cX0_value 3 (some .int), .fieldLink RX0 9 "NumberCircuits" "numbers" "[S", .methodLink RX0 17 yX0_needUpTo, .static yX0_needUpTo, .code yX0_needUpTo cX0_needUpTo 2 none, .classLink RX0 56 "java/lang/IllegalArgumentException", .initialized "java/lang/IllegalArgumentException", .methodLink RX0 21 yX0_place, .static yX0_place, .code yX0_place cX0_place 2 (some .int)] ++ wsX00 ++ (vx_atS RX0 60 "java/lang/IllegalArgumentException" ["java/lang/RuntimeException", "java/lang/Exception"]).filter goodWord)
def wsL_way : List Cond := .codeWith yL_way cL_way 4 (some .int) [(0, 9, 12, 13), (0, 9, 15, 40)] :: ([.classLink RL 13 "java/lang/IllegalArgumentException", .classLink RL 40 "java/util/NoSuchElementException", .methodLink RL 36 yX0_way, .instanceMethod yX0_way, .selects RX0 yX0_way yX0_way, .initialized RX0, .code yX0_way cX0_way 3 (some .int), .classLink RX0 45 "java/util/NoSuchElementException", .initialized "java/util/NoSuchElementException", .methodLink RX0 17 yX0_needUpTo, .static yX0_needUpTo, .code yX0_needUpTo cX0_needUpTo 2 none, .classLink RX0 56 "java/lang/IllegalArgumentException", .initialized "java/lang/IllegalArgumentException", .methodLink RX0 37 yX0_isYes, .instanceMethod yX0_isYes, .selects RX0 yX0_isYes yX0_isYes, .code yX0_isYes cX0_isYes 3 (some .boolean), .fieldLink RX0 13 "NumberCircuits" "truths" "[I"] ++ wsX00 ++ nc_thrG ++ (vx_atS RX0 60 "java/lang/IllegalArgumentException" ["java/lang/RuntimeException", "java/lang/Exception"]).filter goodWord)
def wsL_same : List Cond := .codeWith yL_same cL_same 5 (some .int) [(0, 17, 20, 13)] :: ([.classLink RL 13 "java/lang/IllegalArgumentException", .methodLink RL 42 yX0_same, .instanceMethod yX0_same, .selects RX0 yX0_same yX0_same, .initialized RX0, .code yX0_same cX0_same 4 (some .boolean), .fieldLink RX0 9 "NumberCircuits" "numbers" "[S", .methodLink RX0 17 yX0_needUpTo, .static yX0_needUpTo, .code yX0_needUpTo cX0_needUpTo 2 none, .classLink RX0 56 "java/lang/IllegalArgumentException", .initialized "java/lang/IllegalArgumentException", .methodLink RX0 21 yX0_place, .static yX0_place, .code yX0_place cX0_place 2 (some .int)] ++ wsX00 ++ (vx_atS RX0 60 "java/lang/IllegalArgumentException" ["java/lang/RuntimeException", "java/lang/Exception"]).filter goodWord)
def wsL_tidy : List Cond := .codeWith yL_tidy cL_tidy 4 (some .int) [(0, 9, 12, 13)] :: ([.classLink RL 13 "java/lang/IllegalArgumentException", .methodLink RL 46 yX0_tidy, .instanceMethod yX0_tidy, .selects RX0 yX0_tidy yX0_tidy, .initialized RX0, .code yX0_tidy cX0_tidy 4 (some .int), .methodLink RX0 17 yX0_needUpTo, .static yX0_needUpTo, .code yX0_needUpTo cX0_needUpTo 2 none, .classLink RX0 56 "java/lang/IllegalArgumentException", .initialized "java/lang/IllegalArgumentException", .methodLink RX0 52 yX0_isZeroEverywhere, .instanceMethod yX0_isZeroEverywhere, .selects RX0 yX0_isZeroEverywhere yX0_isZeroEverywhere, .code yX0_isZeroEverywhere cX0_isZeroEverywhere 3 (some .boolean), .fieldLink RX0 9 "NumberCircuits" "numbers" "[S", .methodLink RX0 21 yX0_place, .static yX0_place, .code yX0_place cX0_place 2 (some .int)] ++ wsX00 ++ (vx_atS RX0 60 "java/lang/IllegalArgumentException" ["java/lang/RuntimeException", "java/lang/Exception"]).filter goodWord)
def wsL_law0_r1 : List Cond := [Cond.classLink RL 8 RX0, Cond.instantiable RX0 2, Cond.initialized RX0, Cond.classLink RL 50 RX1, Cond.instantiable RX1 4, Cond.initialized RX1, Cond.methodLink RL 49 yX0_init, Cond.instanceMethod yX0_init, Cond.code yX0_init cX0_init 1 none, Cond.methodLink RX0 1 objectInit, Cond.instanceMethod objectInit, Cond.code objectInit ⟨#[0xb1]⟩ 1 none, Cond.arrayClass .short, Cond.fieldLink RX0 9 "NumberCircuits" "numbers" "[S", Cond.arrayClass .int, Cond.fieldLink RX0 13 "NumberCircuits" "truths" "[I", Cond.methodLink RL 52 yX1_init, Cond.instanceMethod yX1_init, Cond.code yX1_init cX1_init 1 none, Cond.methodLink RX1 1 objectInit, Cond.fieldLink RX1 7 "NumberCircuitsModel" "numbers" "[I", Cond.arrayClass .boolean, Cond.fieldLink RX1 13 "NumberCircuitsModel" "truths" "[Z", Cond.fieldLink RX1 17 "NumberCircuitsModel" "made" "[I"]
def wsL_law0_r2 : List Cond := [Cond.methodLink RL 53 yL_constant, Cond.static yL_constant, Cond.initialized RL, Cond.codeWith yL_constant cL_constant 4 (some .int) [(0, 6, 9, 13)], Cond.classLink RL 13 "java/lang/IllegalArgumentException", Cond.methodLink RL 7 yX0_constant, Cond.instanceMethod yX0_constant, Cond.selects RX0 yX0_constant yX0_constant, Cond.code yX0_constant cX0_constant 4 none, Cond.methodLink RX0 17 yX0_needUpTo, Cond.static yX0_needUpTo, Cond.code yX0_needUpTo cX0_needUpTo 2 none, Cond.classLink RX0 56 "java/lang/IllegalArgumentException", Cond.initialized "java/lang/IllegalArgumentException", Cond.methodLink RX0 21 yX0_place, Cond.static yX0_place, Cond.code yX0_place cX0_place 2 (some .int), Cond.methodLink RL 58 yX1_constant, Cond.instanceMethod yX1_constant, Cond.selects RX1 yX1_constant yX1_constant, Cond.code yX1_constant cX1_constant 4 none, Cond.fieldLink RX1 20 "NumberCircuitsModel" "failed" "I", Cond.methodLink RX1 24 yX1_out, Cond.instanceMethod yX1_out]
def wsL_law0_r3 : List Cond := [Cond.selects RX1 yX1_out yX1_out, Cond.code yX1_out cX1_out 3 (some .boolean), Cond.methodLink RL 59 yX1_thrown, Cond.instanceMethod yX1_thrown, Cond.selects RX1 yX1_thrown yX1_thrown, Cond.code yX1_thrown cX1_thrown 1 (some .int), Cond.methodLink RL 63 yL_unknown, Cond.static yL_unknown, Cond.codeWith yL_unknown cL_unknown 6 (some .int) [(0, 9, 12, 13)], Cond.methodLink RL 15 yX0_unknown, Cond.instanceMethod yX0_unknown, Cond.selects RX0 yX0_unknown yX0_unknown, Cond.code yX0_unknown cX0_unknown 7 none, Cond.methodLink RL 67 yL_reckon, Cond.static yL_reckon, Cond.codeWith yL_reckon cL_reckon 6 (some .int) [(0, 9, 12, 13)], Cond.methodLink RL 19 yX0_reckon, Cond.instanceMethod yX0_reckon, Cond.selects RX0 yX0_reckon yX0_reckon, Cond.code yX0_reckon cX0_reckon 7 none, Cond.methodLink RX0 25 yX0_reckoned, Cond.static yX0_reckoned, Cond.code yX0_reckoned cX0_reckoned 3 (some .int), Cond.methodLink RL 70 yL_compare]
def wsL_law0_r4 : List Cond := [Cond.static yL_compare, Cond.codeWith yL_compare cL_compare 7 (some .int) [(0, 14, 17, 13)], Cond.methodLink RL 22 yX0_compare, Cond.instanceMethod yX0_compare, Cond.selects RX0 yX0_compare yX0_compare, Cond.code yX0_compare cX0_compare 8 (some .int), Cond.methodLink RX0 29 yX0_compared, Cond.static yX0_compared, Cond.code yX0_compared cX0_compared 3 (some .boolean), Cond.methodLink RX0 33 yX0_setTruth, Cond.instanceMethod yX0_setTruth, Cond.selects RX0 yX0_setTruth yX0_setTruth, Cond.code yX0_setTruth cX0_setTruth 5 none, Cond.methodLink RL 74 yL_choose, Cond.static yL_choose, Cond.codeWith yL_choose cL_choose 6 (some .int) [(0, 9, 12, 13)], Cond.methodLink RL 26 yX0_choose, Cond.instanceMethod yX0_choose, Cond.selects RX0 yX0_choose yX0_choose, Cond.code yX0_choose cX0_choose 7 none, Cond.methodLink RX0 37 yX0_isYes, Cond.instanceMethod yX0_isYes, Cond.selects RX0 yX0_isYes yX0_isYes, Cond.code yX0_isYes cX0_isYes 3 (some .boolean)]
def wsL_law0_r5 : List Cond := [Cond.methodLink RL 77 yL_join, Cond.static yL_join, Cond.codeWith yL_join cL_join 7 (some .int) [(0, 14, 17, 13)], Cond.methodLink RL 29 yX0_join, Cond.instanceMethod yX0_join, Cond.selects RX0 yX0_join yX0_join, Cond.code yX0_join cX0_join 8 (some .int), Cond.methodLink RX0 41 yX0_joined, Cond.static yX0_joined, Cond.code yX0_joined cX0_joined 3 (some .boolean), Cond.methodLink RL 80 yL_value, Cond.static yL_value, Cond.codeWith yL_value cL_value 5 (some .int) [(0, 10, 13, 13)], Cond.methodLink RL 32 yX0_value, Cond.instanceMethod yX0_value, Cond.selects RX0 yX0_value yX0_value, Cond.code yX0_value cX0_value 3 (some .int), Cond.methodLink RL 84 yL_way, Cond.static yL_way, Cond.codeWith yL_way cL_way 4 (some .int) [(0, 9, 12, 13), (0, 9, 15, 40)], Cond.classLink RL 40 "java/util/NoSuchElementException", Cond.methodLink RL 36 yX0_way, Cond.instanceMethod yX0_way, Cond.selects RX0 yX0_way yX0_way]
def wsL_law0_r6 : List Cond := [Cond.code yX0_way cX0_way 3 (some .int), Cond.classLink RX0 45 "java/util/NoSuchElementException", Cond.initialized "java/util/NoSuchElementException", Cond.methodLink RL 88 yL_same, Cond.static yL_same, Cond.codeWith yL_same cL_same 5 (some .int) [(0, 17, 20, 13)], Cond.methodLink RL 42 yX0_same, Cond.instanceMethod yX0_same, Cond.selects RX0 yX0_same yX0_same, Cond.code yX0_same cX0_same 4 (some .boolean), Cond.methodLink RL 91 yL_tidy, Cond.static yL_tidy, Cond.codeWith yL_tidy cL_tidy 4 (some .int) [(0, 9, 12, 13)], Cond.methodLink RL 46 yX0_tidy, Cond.instanceMethod yX0_tidy, Cond.selects RX0 yX0_tidy yX0_tidy, Cond.code yX0_tidy cX0_tidy 4 (some .int), Cond.methodLink RX0 52 yX0_isZeroEverywhere, Cond.instanceMethod yX0_isZeroEverywhere, Cond.selects RX0 yX0_isZeroEverywhere yX0_isZeroEverywhere, Cond.code yX0_isZeroEverywhere cX0_isZeroEverywhere 3 (some .boolean)]
def wsL_law0 : List Cond := (wsL_law0_r1 ++ (wsL_law0_r2 ++ (wsL_law0_r3 ++ (wsL_law0_r4 ++ (wsL_law0_r5 ++ wsL_law0_r6))))) ++ wsX00 ++ wsX10 ++ ([] : List Cond)
def wsL_law : List Cond := wsL_law0 ++ (vx_atS RX0 60 "java/lang/IllegalArgumentException" ["java/lang/RuntimeException", "java/lang/Exception"]).filter goodWord ++ nc_thrG
set_option maxRecDepth 20000 in
theorem wsL_law_in0 : ∀ w ∈ wsL_law0, w ∈ lw_tbl := by decide +kernel
theorem wsL_law_x0 : ∀ w ∈ (vx_atS RX0 60 "java/lang/IllegalArgumentException" ["java/lang/RuntimeException", "java/lang/Exception"]).filter goodWord, w ∈ lw_tbl := by decide +kernel
theorem wsL_law_x1 : ∀ w ∈ nc_thrG, w ∈ lw_tbl := by decide +kernel
theorem wsL_law_in : ∀ w ∈ wsL_law, w ∈ lw_tbl := fun w h => (List.mem_append.mp h).elim (fun h => (List.mem_append.mp h).elim (fun h => wsL_law_in0 w h) (fun h => wsL_law_x0 w h)) (fun h => wsL_law_x1 w h)
theorem inlX0 : ∀ w ∈ wsX00, w ∈ wsL_law := fun _ h => List.mem_append_left _ (List.mem_append_left _ (List.mem_append_left _ (List.mem_append_left _ (List.mem_append_right _ h))))
theorem inX0 : ∀ w ∈ wsX00, w ∈ lw_tbl := fun w h => wsL_law_in w (inlX0 w h)
theorem inlX1 : ∀ w ∈ wsX10, w ∈ wsL_law := fun _ h => List.mem_append_left _ (List.mem_append_left _ (List.mem_append_left _ (List.mem_append_right _ h)))
theorem inX1 : ∀ w ∈ wsX10, w ∈ lw_tbl := fun w h => wsL_law_in w (inlX1 w h)
theorem inJ0 : ∀ w ∈ wsJ00, w ∈ lw_tbl := by decide +kernel
theorem dX0_init_0 : decode cX0_init 0 = .ok (.aload_n 0, 1) := by decide +kernel
theorem dX0_init_1 : decode cX0_init 1 = .ok (.invokespecial 1, 3) := by decide +kernel
theorem dX0_init_4 : decode cX0_init 4 = .ok (.aload_n 0, 1) := by decide +kernel
theorem dX0_init_5 : decode cX0_init 5 = .ok (.sipush 8192, 3) := by decide +kernel
theorem dX0_init_8 : decode cX0_init 8 = .ok (.newarray .short, 2) := by decide +kernel
theorem dX0_init_10 : decode cX0_init 10 = .ok (.putfield 9, 3) := by decide +kernel
theorem dX0_init_13 : decode cX0_init 13 = .ok (.aload_n 0, 1) := by decide +kernel
theorem dX0_init_14 : decode cX0_init 14 = .ok (.sipush 1024, 3) := by decide +kernel
theorem dX0_init_17 : decode cX0_init 17 = .ok (.newarray .int, 2) := by decide +kernel
theorem dX0_init_19 : decode cX0_init 19 = .ok (.putfield 13, 3) := by decide +kernel
theorem dX0_init_22 : decode cX0_init 22 = .ok (.return_, 1) := by decide +kernel
set_option maxRecDepth 20000 in
theorem ggX0_constant_X0_needUpTo : GoodIn wsX0_constant wsX0_needUpTo := goodIn_ca (goodIn_r _ [5, 6, 7] (by decide +kernel) (by decide +kernel)) (goodIn_sub (fun _ h => List.mem_cons_of_mem _ (List.mem_append_right _ h)) (by decide +kernel))
set_option maxRecDepth 20000 in
theorem gX0_constant_X0_needUpTo : GoodIn wsX0_constant (va_wsS RX0 17 yX0_needUpTo wsX0_needUpTo) := goodIn_app (goodIn_of _ (by decide +kernel)) ggX0_constant_X0_needUpTo
set_option maxRecDepth 20000 in
theorem ggX0_constant_X0_place : GoodIn wsX0_constant wsX0_place := goodIn_r _ [10] (by decide +kernel) (by decide +kernel)
set_option maxRecDepth 20000 in
theorem gX0_constant_X0_place : GoodIn wsX0_constant (va_wsS RX0 21 yX0_place wsX0_place) := goodIn_app (goodIn_of _ (by decide +kernel)) ggX0_constant_X0_place
theorem dX0_constant_0 : decode cX0_constant 0 = .ok (.iload_n 1, 1) := by decide +kernel
theorem dX0_constant_1 : decode cX0_constant 1 = .ok (.bipush 7, 2) := by decide +kernel
theorem dX0_constant_3 : decode cX0_constant 3 = .ok (.invokestatic 17, 3) := by decide +kernel
theorem dX0_constant_6 : decode cX0_constant 6 = .ok (.iconst 0, 1) := by decide +kernel
theorem dX0_constant_7 : decode cX0_constant 7 = .ok (.istore_n 3, 1) := by decide +kernel
theorem dX0_constant_8 : decode cX0_constant 8 = .ok (.iload_n 3, 1) := by decide +kernel
theorem dX0_constant_9 : decode cX0_constant 9 = .ok (.sipush 1024, 3) := by decide +kernel
theorem dX0_constant_12 : decode cX0_constant 12 = .ok (.if_icmp .ge 21, 3) := by decide +kernel
theorem dX0_constant_15 : decode cX0_constant 15 = .ok (.aload_n 0, 1) := by decide +kernel
theorem dX0_constant_16 : decode cX0_constant 16 = .ok (.getfield 9, 3) := by decide +kernel
theorem dX0_constant_19 : decode cX0_constant 19 = .ok (.iload_n 1, 1) := by decide +kernel
theorem dX0_constant_20 : decode cX0_constant 20 = .ok (.iload_n 3, 1) := by decide +kernel
theorem dX0_constant_21 : decode cX0_constant 21 = .ok (.invokestatic 21, 3) := by decide +kernel
theorem dX0_constant_24 : decode cX0_constant 24 = .ok (.iload_n 2, 1) := by decide +kernel
theorem dX0_constant_25 : decode cX0_constant 25 = .ok (.i2s, 1) := by decide +kernel
theorem dX0_constant_26 : decode cX0_constant 26 = .ok (.sastore, 1) := by decide +kernel
theorem dX0_constant_27 : decode cX0_constant 27 = .ok (.iinc 3 1, 3) := by decide +kernel
theorem dX0_constant_30 : decode cX0_constant 30 = .ok (.goto (-22), 3) := by decide +kernel
theorem dX0_constant_33 : decode cX0_constant 33 = .ok (.return_, 1) := by decide +kernel
set_option maxRecDepth 20000 in
theorem ggX0_unknown_X0_needUpTo : GoodIn wsX0_unknown wsX0_needUpTo := goodIn_ca (goodIn_r _ [5, 6, 7] (by decide +kernel) (by decide +kernel)) (goodIn_sub (fun _ h => List.mem_cons_of_mem _ (List.mem_append_right _ h)) (by decide +kernel))
set_option maxRecDepth 20000 in
theorem gX0_unknown_X0_needUpTo : GoodIn wsX0_unknown (va_wsS RX0 17 yX0_needUpTo wsX0_needUpTo) := goodIn_app (goodIn_of _ (by decide +kernel)) ggX0_unknown_X0_needUpTo
set_option maxRecDepth 20000 in
theorem ggX0_unknown_X0_place : GoodIn wsX0_unknown wsX0_place := goodIn_r _ [10] (by decide +kernel) (by decide +kernel)
set_option maxRecDepth 20000 in
theorem gX0_unknown_X0_place : GoodIn wsX0_unknown (va_wsS RX0 21 yX0_place wsX0_place) := goodIn_app (goodIn_of _ (by decide +kernel)) ggX0_unknown_X0_place
theorem dX0_unknown_0 : decode cX0_unknown 0 = .ok (.iload_n 1, 1) := by decide +kernel
theorem dX0_unknown_1 : decode cX0_unknown 1 = .ok (.bipush 7, 2) := by decide +kernel
theorem dX0_unknown_3 : decode cX0_unknown 3 = .ok (.invokestatic 17, 3) := by decide +kernel
theorem dX0_unknown_6 : decode cX0_unknown 6 = .ok (.iload_n 2, 1) := by decide +kernel
theorem dX0_unknown_7 : decode cX0_unknown 7 = .ok (.bipush 10, 2) := by decide +kernel
theorem dX0_unknown_9 : decode cX0_unknown 9 = .ok (.invokestatic 17, 3) := by decide +kernel
theorem dX0_unknown_12 : decode cX0_unknown 12 = .ok (.iload_n 3, 1) := by decide +kernel
theorem dX0_unknown_13 : decode cX0_unknown 13 = .ok (.bipush 10, 2) := by decide +kernel
theorem dX0_unknown_15 : decode cX0_unknown 15 = .ok (.iload_n 2, 1) := by decide +kernel
theorem dX0_unknown_16 : decode cX0_unknown 16 = .ok (.isub, 1) := by decide +kernel
theorem dX0_unknown_17 : decode cX0_unknown 17 = .ok (.invokestatic 17, 3) := by decide +kernel
theorem dX0_unknown_20 : decode cX0_unknown 20 = .ok (.iconst 1, 1) := by decide +kernel
theorem dX0_unknown_21 : decode cX0_unknown 21 = .ok (.iload_n 3, 1) := by decide +kernel
theorem dX0_unknown_22 : decode cX0_unknown 22 = .ok (.ishl, 1) := by decide +kernel
theorem dX0_unknown_23 : decode cX0_unknown 23 = .ok (.iconst 1, 1) := by decide +kernel
theorem dX0_unknown_24 : decode cX0_unknown 24 = .ok (.isub, 1) := by decide +kernel
theorem dX0_unknown_25 : decode cX0_unknown 25 = .ok (.istore 5, 2) := by decide +kernel
theorem dX0_unknown_27 : decode cX0_unknown 27 = .ok (.iconst 0, 1) := by decide +kernel
theorem dX0_unknown_28 : decode cX0_unknown 28 = .ok (.istore 6, 2) := by decide +kernel
theorem dX0_unknown_30 : decode cX0_unknown 30 = .ok (.iload 6, 2) := by decide +kernel
theorem dX0_unknown_32 : decode cX0_unknown 32 = .ok (.sipush 1024, 3) := by decide +kernel
theorem dX0_unknown_35 : decode cX0_unknown 35 = .ok (.if_icmp .ge 31, 3) := by decide +kernel
theorem dX0_unknown_38 : decode cX0_unknown 38 = .ok (.aload_n 0, 1) := by decide +kernel
theorem dX0_unknown_39 : decode cX0_unknown 39 = .ok (.getfield 9, 3) := by decide +kernel
theorem dX0_unknown_42 : decode cX0_unknown 42 = .ok (.iload_n 1, 1) := by decide +kernel
theorem dX0_unknown_43 : decode cX0_unknown 43 = .ok (.iload 6, 2) := by decide +kernel
theorem dX0_unknown_45 : decode cX0_unknown 45 = .ok (.invokestatic 21, 3) := by decide +kernel
theorem dX0_unknown_48 : decode cX0_unknown 48 = .ok (.iload 6, 2) := by decide +kernel
theorem dX0_unknown_50 : decode cX0_unknown 50 = .ok (.iload_n 2, 1) := by decide +kernel
theorem dX0_unknown_51 : decode cX0_unknown 51 = .ok (.ishr, 1) := by decide +kernel
theorem dX0_unknown_52 : decode cX0_unknown 52 = .ok (.iload 5, 2) := by decide +kernel
theorem dX0_unknown_54 : decode cX0_unknown 54 = .ok (.iand, 1) := by decide +kernel
theorem dX0_unknown_55 : decode cX0_unknown 55 = .ok (.iload 4, 2) := by decide +kernel
theorem dX0_unknown_57 : decode cX0_unknown 57 = .ok (.iadd, 1) := by decide +kernel
theorem dX0_unknown_58 : decode cX0_unknown 58 = .ok (.i2s, 1) := by decide +kernel
theorem dX0_unknown_59 : decode cX0_unknown 59 = .ok (.sastore, 1) := by decide +kernel
theorem dX0_unknown_60 : decode cX0_unknown 60 = .ok (.iinc 6 1, 3) := by decide +kernel
theorem dX0_unknown_63 : decode cX0_unknown 63 = .ok (.goto (-33), 3) := by decide +kernel
theorem dX0_unknown_66 : decode cX0_unknown 66 = .ok (.return_, 1) := by decide +kernel
set_option maxRecDepth 20000 in
theorem ggX0_reckon_X0_needUpTo : GoodIn wsX0_reckon wsX0_needUpTo := goodIn_ca (goodIn_r _ [5, 6, 7] (by decide +kernel) (by decide +kernel)) (goodIn_sub (fun _ h => List.mem_cons_of_mem _ (List.mem_append_right _ h)) (by decide +kernel))
set_option maxRecDepth 20000 in
theorem gX0_reckon_X0_needUpTo : GoodIn wsX0_reckon (va_wsS RX0 17 yX0_needUpTo wsX0_needUpTo) := goodIn_app (goodIn_of _ (by decide +kernel)) ggX0_reckon_X0_needUpTo
set_option maxRecDepth 20000 in
theorem ggX0_reckon_X0_place : GoodIn wsX0_reckon wsX0_place := goodIn_r _ [10] (by decide +kernel) (by decide +kernel)
set_option maxRecDepth 20000 in
theorem gX0_reckon_X0_place : GoodIn wsX0_reckon (va_wsS RX0 21 yX0_place wsX0_place) := goodIn_app (goodIn_of _ (by decide +kernel)) ggX0_reckon_X0_place
set_option maxRecDepth 20000 in
theorem ggX0_reckon_X0_reckoned : GoodIn wsX0_reckon wsX0_reckoned := goodIn_r _ [13] (by decide +kernel) (by decide +kernel)
set_option maxRecDepth 20000 in
theorem gX0_reckon_X0_reckoned : GoodIn wsX0_reckon (va_wsS RX0 25 yX0_reckoned wsX0_reckoned) := goodIn_app (goodIn_of _ (by decide +kernel)) ggX0_reckon_X0_reckoned
theorem dX0_reckon_0 : decode cX0_reckon 0 = .ok (.iload_n 1, 1) := by decide +kernel
theorem dX0_reckon_1 : decode cX0_reckon 1 = .ok (.bipush 7, 2) := by decide +kernel
theorem dX0_reckon_3 : decode cX0_reckon 3 = .ok (.invokestatic 17, 3) := by decide +kernel
theorem dX0_reckon_6 : decode cX0_reckon 6 = .ok (.iload_n 2, 1) := by decide +kernel
theorem dX0_reckon_7 : decode cX0_reckon 7 = .ok (.iconst 5, 1) := by decide +kernel
theorem dX0_reckon_8 : decode cX0_reckon 8 = .ok (.invokestatic 17, 3) := by decide +kernel
theorem dX0_reckon_11 : decode cX0_reckon 11 = .ok (.iload_n 3, 1) := by decide +kernel
theorem dX0_reckon_12 : decode cX0_reckon 12 = .ok (.bipush 7, 2) := by decide +kernel
theorem dX0_reckon_14 : decode cX0_reckon 14 = .ok (.invokestatic 17, 3) := by decide +kernel
theorem dX0_reckon_17 : decode cX0_reckon 17 = .ok (.iload 4, 2) := by decide +kernel
theorem dX0_reckon_19 : decode cX0_reckon 19 = .ok (.bipush 7, 2) := by decide +kernel
theorem dX0_reckon_21 : decode cX0_reckon 21 = .ok (.invokestatic 17, 3) := by decide +kernel
theorem dX0_reckon_24 : decode cX0_reckon 24 = .ok (.iconst 0, 1) := by decide +kernel
theorem dX0_reckon_25 : decode cX0_reckon 25 = .ok (.istore 5, 2) := by decide +kernel
theorem dX0_reckon_27 : decode cX0_reckon 27 = .ok (.iload 5, 2) := by decide +kernel
theorem dX0_reckon_29 : decode cX0_reckon 29 = .ok (.sipush 1024, 3) := by decide +kernel
theorem dX0_reckon_32 : decode cX0_reckon 32 = .ok (.if_icmp .ge 52, 3) := by decide +kernel
theorem dX0_reckon_35 : decode cX0_reckon 35 = .ok (.iload_n 2, 1) := by decide +kernel
theorem dX0_reckon_36 : decode cX0_reckon 36 = .ok (.aload_n 0, 1) := by decide +kernel
theorem dX0_reckon_37 : decode cX0_reckon 37 = .ok (.getfield 9, 3) := by decide +kernel
theorem dX0_reckon_40 : decode cX0_reckon 40 = .ok (.iload_n 3, 1) := by decide +kernel
theorem dX0_reckon_41 : decode cX0_reckon 41 = .ok (.iload 5, 2) := by decide +kernel
theorem dX0_reckon_43 : decode cX0_reckon 43 = .ok (.invokestatic 21, 3) := by decide +kernel
theorem dX0_reckon_46 : decode cX0_reckon 46 = .ok (.saload, 1) := by decide +kernel
theorem dX0_reckon_47 : decode cX0_reckon 47 = .ok (.aload_n 0, 1) := by decide +kernel
theorem dX0_reckon_48 : decode cX0_reckon 48 = .ok (.getfield 9, 3) := by decide +kernel
theorem dX0_reckon_51 : decode cX0_reckon 51 = .ok (.iload 4, 2) := by decide +kernel
theorem dX0_reckon_53 : decode cX0_reckon 53 = .ok (.iload 5, 2) := by decide +kernel
theorem dX0_reckon_55 : decode cX0_reckon 55 = .ok (.invokestatic 21, 3) := by decide +kernel
theorem dX0_reckon_58 : decode cX0_reckon 58 = .ok (.saload, 1) := by decide +kernel
theorem dX0_reckon_59 : decode cX0_reckon 59 = .ok (.invokestatic 25, 3) := by decide +kernel
theorem dX0_reckon_62 : decode cX0_reckon 62 = .ok (.istore 6, 2) := by decide +kernel
theorem dX0_reckon_64 : decode cX0_reckon 64 = .ok (.aload_n 0, 1) := by decide +kernel
theorem dX0_reckon_65 : decode cX0_reckon 65 = .ok (.getfield 9, 3) := by decide +kernel
theorem dX0_reckon_68 : decode cX0_reckon 68 = .ok (.iload_n 1, 1) := by decide +kernel
theorem dX0_reckon_69 : decode cX0_reckon 69 = .ok (.iload 5, 2) := by decide +kernel
theorem dX0_reckon_71 : decode cX0_reckon 71 = .ok (.invokestatic 21, 3) := by decide +kernel
theorem dX0_reckon_74 : decode cX0_reckon 74 = .ok (.iload 6, 2) := by decide +kernel
theorem dX0_reckon_76 : decode cX0_reckon 76 = .ok (.i2s, 1) := by decide +kernel
theorem dX0_reckon_77 : decode cX0_reckon 77 = .ok (.sastore, 1) := by decide +kernel
theorem dX0_reckon_78 : decode cX0_reckon 78 = .ok (.iinc 5 1, 3) := by decide +kernel
theorem dX0_reckon_81 : decode cX0_reckon 81 = .ok (.goto (-54), 3) := by decide +kernel
theorem dX0_reckon_84 : decode cX0_reckon 84 = .ok (.return_, 1) := by decide +kernel
set_option maxRecDepth 20000 in
theorem ggX0_compare_X0_needUpTo : GoodIn wsX0_compare wsX0_needUpTo := goodIn_ca (goodIn_r _ [5, 6, 7] (by decide +kernel) (by decide +kernel)) (goodIn_sub (fun _ h => List.mem_cons_of_mem _ (List.mem_append_right _ h)) (by decide +kernel))
set_option maxRecDepth 20000 in
theorem gX0_compare_X0_needUpTo : GoodIn wsX0_compare (va_wsS RX0 17 yX0_needUpTo wsX0_needUpTo) := goodIn_app (goodIn_of _ (by decide +kernel)) ggX0_compare_X0_needUpTo
set_option maxRecDepth 20000 in
theorem ggX0_compare_X0_place : GoodIn wsX0_compare wsX0_place := goodIn_r _ [10] (by decide +kernel) (by decide +kernel)
set_option maxRecDepth 20000 in
theorem gX0_compare_X0_place : GoodIn wsX0_compare (va_wsS RX0 21 yX0_place wsX0_place) := goodIn_app (goodIn_of _ (by decide +kernel)) ggX0_compare_X0_place
set_option maxRecDepth 20000 in
theorem ggX0_compare_X0_compared : GoodIn wsX0_compare wsX0_compared := goodIn_r _ [13] (by decide +kernel) (by decide +kernel)
set_option maxRecDepth 20000 in
theorem gX0_compare_X0_compared : GoodIn wsX0_compare (va_wsS RX0 29 yX0_compared wsX0_compared) := goodIn_app (goodIn_of _ (by decide +kernel)) ggX0_compare_X0_compared
set_option maxRecDepth 20000 in
theorem ggX0_compare_X0_setTruth : GoodIn wsX0_compare wsX0_setTruth := goodIn_r _ [17, 18, 19, 20] (by decide +kernel) (by decide +kernel)
set_option maxRecDepth 20000 in
theorem gX0_compare_X0_setTruth : GoodIn wsX0_compare (wsV RX0 33 RX0 yX0_setTruth wsX0_setTruth) := goodIn_app (goodIn_of _ (by decide +kernel)) ggX0_compare_X0_setTruth
theorem dX0_compare_0 : decode cX0_compare 0 = .ok (.iload_n 1, 1) := by decide +kernel
theorem dX0_compare_1 : decode cX0_compare 1 = .ok (.bipush 7, 2) := by decide +kernel
theorem dX0_compare_3 : decode cX0_compare 3 = .ok (.invokestatic 17, 3) := by decide +kernel
theorem dX0_compare_6 : decode cX0_compare 6 = .ok (.iload_n 2, 1) := by decide +kernel
theorem dX0_compare_7 : decode cX0_compare 7 = .ok (.iconst 3, 1) := by decide +kernel
theorem dX0_compare_8 : decode cX0_compare 8 = .ok (.invokestatic 17, 3) := by decide +kernel
theorem dX0_compare_11 : decode cX0_compare 11 = .ok (.iload_n 3, 1) := by decide +kernel
theorem dX0_compare_12 : decode cX0_compare 12 = .ok (.bipush 7, 2) := by decide +kernel
theorem dX0_compare_14 : decode cX0_compare 14 = .ok (.invokestatic 17, 3) := by decide +kernel
theorem dX0_compare_17 : decode cX0_compare 17 = .ok (.iload 4, 2) := by decide +kernel
theorem dX0_compare_19 : decode cX0_compare 19 = .ok (.bipush 7, 2) := by decide +kernel
theorem dX0_compare_21 : decode cX0_compare 21 = .ok (.invokestatic 17, 3) := by decide +kernel
theorem dX0_compare_24 : decode cX0_compare 24 = .ok (.iconst 0, 1) := by decide +kernel
theorem dX0_compare_25 : decode cX0_compare 25 = .ok (.istore 5, 2) := by decide +kernel
theorem dX0_compare_27 : decode cX0_compare 27 = .ok (.iconst 0, 1) := by decide +kernel
theorem dX0_compare_28 : decode cX0_compare 28 = .ok (.istore 6, 2) := by decide +kernel
theorem dX0_compare_30 : decode cX0_compare 30 = .ok (.iload 6, 2) := by decide +kernel
theorem dX0_compare_32 : decode cX0_compare 32 = .ok (.sipush 1024, 3) := by decide +kernel
theorem dX0_compare_35 : decode cX0_compare 35 = .ok (.if_icmp .ge 62, 3) := by decide +kernel
theorem dX0_compare_38 : decode cX0_compare 38 = .ok (.iload_n 2, 1) := by decide +kernel
theorem dX0_compare_39 : decode cX0_compare 39 = .ok (.aload_n 0, 1) := by decide +kernel
theorem dX0_compare_40 : decode cX0_compare 40 = .ok (.getfield 9, 3) := by decide +kernel
theorem dX0_compare_43 : decode cX0_compare 43 = .ok (.iload_n 3, 1) := by decide +kernel
theorem dX0_compare_44 : decode cX0_compare 44 = .ok (.iload 6, 2) := by decide +kernel
theorem dX0_compare_46 : decode cX0_compare 46 = .ok (.invokestatic 21, 3) := by decide +kernel
theorem dX0_compare_49 : decode cX0_compare 49 = .ok (.saload, 1) := by decide +kernel
theorem dX0_compare_50 : decode cX0_compare 50 = .ok (.aload_n 0, 1) := by decide +kernel
theorem dX0_compare_51 : decode cX0_compare 51 = .ok (.getfield 9, 3) := by decide +kernel
theorem dX0_compare_54 : decode cX0_compare 54 = .ok (.iload 4, 2) := by decide +kernel
theorem dX0_compare_56 : decode cX0_compare 56 = .ok (.iload 6, 2) := by decide +kernel
theorem dX0_compare_58 : decode cX0_compare 58 = .ok (.invokestatic 21, 3) := by decide +kernel
theorem dX0_compare_61 : decode cX0_compare 61 = .ok (.saload, 1) := by decide +kernel
theorem dX0_compare_62 : decode cX0_compare 62 = .ok (.invokestatic 29, 3) := by decide +kernel
theorem dX0_compare_65 : decode cX0_compare 65 = .ok (.istore 7, 2) := by decide +kernel
theorem dX0_compare_67 : decode cX0_compare 67 = .ok (.aload_n 0, 1) := by decide +kernel
theorem dX0_compare_68 : decode cX0_compare 68 = .ok (.iload_n 1, 1) := by decide +kernel
theorem dX0_compare_69 : decode cX0_compare 69 = .ok (.iload 6, 2) := by decide +kernel
theorem dX0_compare_71 : decode cX0_compare 71 = .ok (.iload 7, 2) := by decide +kernel
theorem dX0_compare_73 : decode cX0_compare 73 = .ok (.invokevirtual 33, 3) := by decide +kernel
theorem dX0_compare_76 : decode cX0_compare 76 = .ok (.iload 5, 2) := by decide +kernel
theorem dX0_compare_78 : decode cX0_compare 78 = .ok (.iload 7, 2) := by decide +kernel
theorem dX0_compare_80 : decode cX0_compare 80 = .ok (.ifCond .eq 7, 3) := by decide +kernel
theorem dX0_compare_83 : decode cX0_compare 83 = .ok (.iconst 1, 1) := by decide +kernel
theorem dX0_compare_84 : decode cX0_compare 84 = .ok (.goto 4, 3) := by decide +kernel
theorem dX0_compare_87 : decode cX0_compare 87 = .ok (.iconst 0, 1) := by decide +kernel
theorem dX0_compare_88 : decode cX0_compare 88 = .ok (.iadd, 1) := by decide +kernel
theorem dX0_compare_89 : decode cX0_compare 89 = .ok (.istore 5, 2) := by decide +kernel
theorem dX0_compare_91 : decode cX0_compare 91 = .ok (.iinc 6 1, 3) := by decide +kernel
theorem dX0_compare_94 : decode cX0_compare 94 = .ok (.goto (-64), 3) := by decide +kernel
theorem dX0_compare_97 : decode cX0_compare 97 = .ok (.iload 5, 2) := by decide +kernel
theorem dX0_compare_99 : decode cX0_compare 99 = .ok (.ireturn, 1) := by decide +kernel
set_option maxRecDepth 20000 in
theorem ggX0_choose_X0_needUpTo : GoodIn wsX0_choose wsX0_needUpTo := goodIn_ca (goodIn_r _ [5, 6, 7] (by decide +kernel) (by decide +kernel)) (goodIn_sub (fun _ h => List.mem_cons_of_mem _ (List.mem_append_right _ h)) (by decide +kernel))
set_option maxRecDepth 20000 in
theorem gX0_choose_X0_needUpTo : GoodIn wsX0_choose (va_wsS RX0 17 yX0_needUpTo wsX0_needUpTo) := goodIn_app (goodIn_of _ (by decide +kernel)) ggX0_choose_X0_needUpTo
set_option maxRecDepth 20000 in
theorem ggX0_choose_X0_isYes : GoodIn wsX0_choose wsX0_isYes := goodIn_r _ [11, 12, 16, 17] (by decide +kernel) (by decide +kernel)
set_option maxRecDepth 20000 in
theorem gX0_choose_X0_isYes : GoodIn wsX0_choose (wsV RX0 37 RX0 yX0_isYes wsX0_isYes) := goodIn_app (goodIn_of _ (by decide +kernel)) ggX0_choose_X0_isYes
set_option maxRecDepth 20000 in
theorem ggX0_choose_X0_place : GoodIn wsX0_choose wsX0_place := goodIn_r _ [15] (by decide +kernel) (by decide +kernel)
set_option maxRecDepth 20000 in
theorem gX0_choose_X0_place : GoodIn wsX0_choose (va_wsS RX0 21 yX0_place wsX0_place) := goodIn_app (goodIn_of _ (by decide +kernel)) ggX0_choose_X0_place
theorem dX0_choose_0 : decode cX0_choose 0 = .ok (.iload_n 1, 1) := by decide +kernel
theorem dX0_choose_1 : decode cX0_choose 1 = .ok (.bipush 7, 2) := by decide +kernel
theorem dX0_choose_3 : decode cX0_choose 3 = .ok (.invokestatic 17, 3) := by decide +kernel
theorem dX0_choose_6 : decode cX0_choose 6 = .ok (.iload_n 2, 1) := by decide +kernel
theorem dX0_choose_7 : decode cX0_choose 7 = .ok (.bipush 7, 2) := by decide +kernel
theorem dX0_choose_9 : decode cX0_choose 9 = .ok (.invokestatic 17, 3) := by decide +kernel
theorem dX0_choose_12 : decode cX0_choose 12 = .ok (.iload_n 3, 1) := by decide +kernel
theorem dX0_choose_13 : decode cX0_choose 13 = .ok (.bipush 7, 2) := by decide +kernel
theorem dX0_choose_15 : decode cX0_choose 15 = .ok (.invokestatic 17, 3) := by decide +kernel
theorem dX0_choose_18 : decode cX0_choose 18 = .ok (.iload 4, 2) := by decide +kernel
theorem dX0_choose_20 : decode cX0_choose 20 = .ok (.bipush 7, 2) := by decide +kernel
theorem dX0_choose_22 : decode cX0_choose 22 = .ok (.invokestatic 17, 3) := by decide +kernel
theorem dX0_choose_25 : decode cX0_choose 25 = .ok (.iconst 0, 1) := by decide +kernel
theorem dX0_choose_26 : decode cX0_choose 26 = .ok (.istore 5, 2) := by decide +kernel
theorem dX0_choose_28 : decode cX0_choose 28 = .ok (.iload 5, 2) := by decide +kernel
theorem dX0_choose_30 : decode cX0_choose 30 = .ok (.sipush 1024, 3) := by decide +kernel
theorem dX0_choose_33 : decode cX0_choose 33 = .ok (.if_icmp .ge 50, 3) := by decide +kernel
theorem dX0_choose_36 : decode cX0_choose 36 = .ok (.aload_n 0, 1) := by decide +kernel
theorem dX0_choose_37 : decode cX0_choose 37 = .ok (.iload_n 2, 1) := by decide +kernel
theorem dX0_choose_38 : decode cX0_choose 38 = .ok (.iload 5, 2) := by decide +kernel
theorem dX0_choose_40 : decode cX0_choose 40 = .ok (.invokevirtual 37, 3) := by decide +kernel
theorem dX0_choose_43 : decode cX0_choose 43 = .ok (.ifCond .eq 7, 3) := by decide +kernel
theorem dX0_choose_46 : decode cX0_choose 46 = .ok (.iload_n 3, 1) := by decide +kernel
theorem dX0_choose_47 : decode cX0_choose 47 = .ok (.goto 5, 3) := by decide +kernel
theorem dX0_choose_50 : decode cX0_choose 50 = .ok (.iload 4, 2) := by decide +kernel
theorem dX0_choose_52 : decode cX0_choose 52 = .ok (.istore 6, 2) := by decide +kernel
theorem dX0_choose_54 : decode cX0_choose 54 = .ok (.aload_n 0, 1) := by decide +kernel
theorem dX0_choose_55 : decode cX0_choose 55 = .ok (.getfield 9, 3) := by decide +kernel
theorem dX0_choose_58 : decode cX0_choose 58 = .ok (.iload_n 1, 1) := by decide +kernel
theorem dX0_choose_59 : decode cX0_choose 59 = .ok (.iload 5, 2) := by decide +kernel
theorem dX0_choose_61 : decode cX0_choose 61 = .ok (.invokestatic 21, 3) := by decide +kernel
theorem dX0_choose_64 : decode cX0_choose 64 = .ok (.aload_n 0, 1) := by decide +kernel
theorem dX0_choose_65 : decode cX0_choose 65 = .ok (.getfield 9, 3) := by decide +kernel
theorem dX0_choose_68 : decode cX0_choose 68 = .ok (.iload 6, 2) := by decide +kernel
theorem dX0_choose_70 : decode cX0_choose 70 = .ok (.iload 5, 2) := by decide +kernel
theorem dX0_choose_72 : decode cX0_choose 72 = .ok (.invokestatic 21, 3) := by decide +kernel
theorem dX0_choose_75 : decode cX0_choose 75 = .ok (.saload, 1) := by decide +kernel
theorem dX0_choose_76 : decode cX0_choose 76 = .ok (.sastore, 1) := by decide +kernel
theorem dX0_choose_77 : decode cX0_choose 77 = .ok (.iinc 5 1, 3) := by decide +kernel
theorem dX0_choose_80 : decode cX0_choose 80 = .ok (.goto (-52), 3) := by decide +kernel
theorem dX0_choose_83 : decode cX0_choose 83 = .ok (.return_, 1) := by decide +kernel
set_option maxRecDepth 20000 in
theorem ggX0_join_X0_needUpTo : GoodIn wsX0_join wsX0_needUpTo := goodIn_ca (goodIn_r _ [4, 5, 6] (by decide +kernel) (by decide +kernel)) (goodIn_sub (fun _ h => List.mem_cons_of_mem _ (List.mem_append_right _ h)) (by decide +kernel))
set_option maxRecDepth 20000 in
theorem gX0_join_X0_needUpTo : GoodIn wsX0_join (va_wsS RX0 17 yX0_needUpTo wsX0_needUpTo) := goodIn_app (goodIn_of _ (by decide +kernel)) ggX0_join_X0_needUpTo
set_option maxRecDepth 20000 in
theorem ggX0_join_X0_isYes : GoodIn wsX0_join wsX0_isYes := goodIn_r _ [10, 11, 19, 20] (by decide +kernel) (by decide +kernel)
set_option maxRecDepth 20000 in
theorem gX0_join_X0_isYes : GoodIn wsX0_join (wsV RX0 37 RX0 yX0_isYes wsX0_isYes) := goodIn_app (goodIn_of _ (by decide +kernel)) ggX0_join_X0_isYes
set_option maxRecDepth 20000 in
theorem ggX0_join_X0_joined : GoodIn wsX0_join wsX0_joined := goodIn_r _ [14] (by decide +kernel) (by decide +kernel)
set_option maxRecDepth 20000 in
theorem gX0_join_X0_joined : GoodIn wsX0_join (va_wsS RX0 41 yX0_joined wsX0_joined) := goodIn_app (goodIn_of _ (by decide +kernel)) ggX0_join_X0_joined
set_option maxRecDepth 20000 in
theorem ggX0_join_X0_setTruth : GoodIn wsX0_join wsX0_setTruth := goodIn_r _ [18, 11, 19, 20] (by decide +kernel) (by decide +kernel)
set_option maxRecDepth 20000 in
theorem gX0_join_X0_setTruth : GoodIn wsX0_join (wsV RX0 33 RX0 yX0_setTruth wsX0_setTruth) := goodIn_app (goodIn_of _ (by decide +kernel)) ggX0_join_X0_setTruth
theorem dX0_join_0 : decode cX0_join 0 = .ok (.iload_n 1, 1) := by decide +kernel
theorem dX0_join_1 : decode cX0_join 1 = .ok (.bipush 7, 2) := by decide +kernel
theorem dX0_join_3 : decode cX0_join 3 = .ok (.invokestatic 17, 3) := by decide +kernel
theorem dX0_join_6 : decode cX0_join 6 = .ok (.iload_n 2, 1) := by decide +kernel
theorem dX0_join_7 : decode cX0_join 7 = .ok (.iconst 3, 1) := by decide +kernel
theorem dX0_join_8 : decode cX0_join 8 = .ok (.invokestatic 17, 3) := by decide +kernel
theorem dX0_join_11 : decode cX0_join 11 = .ok (.iload_n 3, 1) := by decide +kernel
theorem dX0_join_12 : decode cX0_join 12 = .ok (.bipush 7, 2) := by decide +kernel
theorem dX0_join_14 : decode cX0_join 14 = .ok (.invokestatic 17, 3) := by decide +kernel
theorem dX0_join_17 : decode cX0_join 17 = .ok (.iload 4, 2) := by decide +kernel
theorem dX0_join_19 : decode cX0_join 19 = .ok (.bipush 7, 2) := by decide +kernel
theorem dX0_join_21 : decode cX0_join 21 = .ok (.invokestatic 17, 3) := by decide +kernel
theorem dX0_join_24 : decode cX0_join 24 = .ok (.iconst 0, 1) := by decide +kernel
theorem dX0_join_25 : decode cX0_join 25 = .ok (.istore 5, 2) := by decide +kernel
theorem dX0_join_27 : decode cX0_join 27 = .ok (.iconst 0, 1) := by decide +kernel
theorem dX0_join_28 : decode cX0_join 28 = .ok (.istore 6, 2) := by decide +kernel
theorem dX0_join_30 : decode cX0_join 30 = .ok (.iload 6, 2) := by decide +kernel
theorem dX0_join_32 : decode cX0_join 32 = .ok (.sipush 1024, 3) := by decide +kernel
theorem dX0_join_35 : decode cX0_join 35 = .ok (.if_icmp .ge 54, 3) := by decide +kernel
theorem dX0_join_38 : decode cX0_join 38 = .ok (.iload_n 2, 1) := by decide +kernel
theorem dX0_join_39 : decode cX0_join 39 = .ok (.aload_n 0, 1) := by decide +kernel
theorem dX0_join_40 : decode cX0_join 40 = .ok (.iload_n 3, 1) := by decide +kernel
theorem dX0_join_41 : decode cX0_join 41 = .ok (.iload 6, 2) := by decide +kernel
theorem dX0_join_43 : decode cX0_join 43 = .ok (.invokevirtual 37, 3) := by decide +kernel
theorem dX0_join_46 : decode cX0_join 46 = .ok (.aload_n 0, 1) := by decide +kernel
theorem dX0_join_47 : decode cX0_join 47 = .ok (.iload 4, 2) := by decide +kernel
theorem dX0_join_49 : decode cX0_join 49 = .ok (.iload 6, 2) := by decide +kernel
theorem dX0_join_51 : decode cX0_join 51 = .ok (.invokevirtual 37, 3) := by decide +kernel
theorem dX0_join_54 : decode cX0_join 54 = .ok (.invokestatic 41, 3) := by decide +kernel
theorem dX0_join_57 : decode cX0_join 57 = .ok (.istore 7, 2) := by decide +kernel
theorem dX0_join_59 : decode cX0_join 59 = .ok (.aload_n 0, 1) := by decide +kernel
theorem dX0_join_60 : decode cX0_join 60 = .ok (.iload_n 1, 1) := by decide +kernel
theorem dX0_join_61 : decode cX0_join 61 = .ok (.iload 6, 2) := by decide +kernel
theorem dX0_join_63 : decode cX0_join 63 = .ok (.iload 7, 2) := by decide +kernel
theorem dX0_join_65 : decode cX0_join 65 = .ok (.invokevirtual 33, 3) := by decide +kernel
theorem dX0_join_68 : decode cX0_join 68 = .ok (.iload 5, 2) := by decide +kernel
theorem dX0_join_70 : decode cX0_join 70 = .ok (.iload 7, 2) := by decide +kernel
theorem dX0_join_72 : decode cX0_join 72 = .ok (.ifCond .eq 7, 3) := by decide +kernel
theorem dX0_join_75 : decode cX0_join 75 = .ok (.iconst 1, 1) := by decide +kernel
theorem dX0_join_76 : decode cX0_join 76 = .ok (.goto 4, 3) := by decide +kernel
theorem dX0_join_79 : decode cX0_join 79 = .ok (.iconst 0, 1) := by decide +kernel
theorem dX0_join_80 : decode cX0_join 80 = .ok (.iadd, 1) := by decide +kernel
theorem dX0_join_81 : decode cX0_join 81 = .ok (.istore 5, 2) := by decide +kernel
theorem dX0_join_83 : decode cX0_join 83 = .ok (.iinc 6 1, 3) := by decide +kernel
theorem dX0_join_86 : decode cX0_join 86 = .ok (.goto (-56), 3) := by decide +kernel
theorem dX0_join_89 : decode cX0_join 89 = .ok (.iload 5, 2) := by decide +kernel
theorem dX0_join_91 : decode cX0_join 91 = .ok (.ireturn, 1) := by decide +kernel
set_option maxRecDepth 20000 in
theorem ggX0_value_X0_needUpTo : GoodIn wsX0_value wsX0_needUpTo := goodIn_ca (goodIn_r _ [5, 6, 7] (by decide +kernel) (by decide +kernel)) (goodIn_sub (fun _ h => List.mem_cons_of_mem _ (List.mem_append_right _ h)) (by decide +kernel))
set_option maxRecDepth 20000 in
theorem gX0_value_X0_needUpTo : GoodIn wsX0_value (va_wsS RX0 17 yX0_needUpTo wsX0_needUpTo) := goodIn_app (goodIn_of _ (by decide +kernel)) ggX0_value_X0_needUpTo
set_option maxRecDepth 20000 in
theorem ggX0_value_X0_place : GoodIn wsX0_value wsX0_place := goodIn_r _ [10] (by decide +kernel) (by decide +kernel)
set_option maxRecDepth 20000 in
theorem gX0_value_X0_place : GoodIn wsX0_value (va_wsS RX0 21 yX0_place wsX0_place) := goodIn_app (goodIn_of _ (by decide +kernel)) ggX0_value_X0_place
theorem dX0_value_0 : decode cX0_value 0 = .ok (.iload_n 1, 1) := by decide +kernel
theorem dX0_value_1 : decode cX0_value 1 = .ok (.bipush 7, 2) := by decide +kernel
theorem dX0_value_3 : decode cX0_value 3 = .ok (.invokestatic 17, 3) := by decide +kernel
theorem dX0_value_6 : decode cX0_value 6 = .ok (.iload_n 2, 1) := by decide +kernel
theorem dX0_value_7 : decode cX0_value 7 = .ok (.sipush 1023, 3) := by decide +kernel
theorem dX0_value_10 : decode cX0_value 10 = .ok (.invokestatic 17, 3) := by decide +kernel
theorem dX0_value_13 : decode cX0_value 13 = .ok (.aload_n 0, 1) := by decide +kernel
theorem dX0_value_14 : decode cX0_value 14 = .ok (.getfield 9, 3) := by decide +kernel
theorem dX0_value_17 : decode cX0_value 17 = .ok (.iload_n 1, 1) := by decide +kernel
theorem dX0_value_18 : decode cX0_value 18 = .ok (.iload_n 2, 1) := by decide +kernel
theorem dX0_value_19 : decode cX0_value 19 = .ok (.invokestatic 21, 3) := by decide +kernel
theorem dX0_value_22 : decode cX0_value 22 = .ok (.saload, 1) := by decide +kernel
theorem dX0_value_23 : decode cX0_value 23 = .ok (.ireturn, 1) := by decide +kernel
set_option maxRecDepth 20000 in
theorem ggX0_way_X0_needUpTo : GoodIn wsX0_way wsX0_needUpTo := goodIn_ca (goodIn_r _ [6, 7, 8] (by decide +kernel) (by decide +kernel)) (goodIn_sub (fun _ h => List.mem_cons_of_mem _ (List.mem_append_right _ h)) (by decide +kernel))
set_option maxRecDepth 20000 in
theorem gX0_way_X0_needUpTo : GoodIn wsX0_way (va_wsS RX0 17 yX0_needUpTo wsX0_needUpTo) := goodIn_app (goodIn_of _ (by decide +kernel)) ggX0_way_X0_needUpTo
set_option maxRecDepth 20000 in
theorem ggX0_way_X0_isYes : GoodIn wsX0_way wsX0_isYes := goodIn_r _ [12, 13, 14, 15] (by decide +kernel) (by decide +kernel)
set_option maxRecDepth 20000 in
theorem gX0_way_X0_isYes : GoodIn wsX0_way (wsV RX0 37 RX0 yX0_isYes wsX0_isYes) := goodIn_app (goodIn_of _ (by decide +kernel)) ggX0_way_X0_isYes
theorem dX0_way_0 : decode cX0_way 0 = .ok (.iload_n 1, 1) := by decide +kernel
theorem dX0_way_1 : decode cX0_way 1 = .ok (.bipush 7, 2) := by decide +kernel
theorem dX0_way_3 : decode cX0_way 3 = .ok (.invokestatic 17, 3) := by decide +kernel
theorem dX0_way_6 : decode cX0_way 6 = .ok (.iconst 0, 1) := by decide +kernel
theorem dX0_way_7 : decode cX0_way 7 = .ok (.istore_n 2, 1) := by decide +kernel
theorem dX0_way_8 : decode cX0_way 8 = .ok (.iload_n 2, 1) := by decide +kernel
theorem dX0_way_9 : decode cX0_way 9 = .ok (.sipush 1024, 3) := by decide +kernel
theorem dX0_way_12 : decode cX0_way 12 = .ok (.if_icmp .ge 20, 3) := by decide +kernel
theorem dX0_way_15 : decode cX0_way 15 = .ok (.aload_n 0, 1) := by decide +kernel
theorem dX0_way_16 : decode cX0_way 16 = .ok (.iload_n 1, 1) := by decide +kernel
theorem dX0_way_17 : decode cX0_way 17 = .ok (.iload_n 2, 1) := by decide +kernel
theorem dX0_way_18 : decode cX0_way 18 = .ok (.invokevirtual 37, 3) := by decide +kernel
theorem dX0_way_21 : decode cX0_way 21 = .ok (.ifCond .eq 5, 3) := by decide +kernel
theorem dX0_way_24 : decode cX0_way 24 = .ok (.iload_n 2, 1) := by decide +kernel
theorem dX0_way_25 : decode cX0_way 25 = .ok (.ireturn, 1) := by decide +kernel
theorem dX0_way_26 : decode cX0_way 26 = .ok (.iinc 2 1, 3) := by decide +kernel
theorem dX0_way_29 : decode cX0_way 29 = .ok (.goto (-21), 3) := by decide +kernel
theorem dX0_way_32 : decode cX0_way 32 = .ok (.new 45, 3) := by decide +kernel
theorem dX0_way_35 : decode cX0_way 35 = .ok (.dup, 1) := by decide +kernel
theorem dX0_way_36 : decode cX0_way 36 = .ok (.ldc 47, 2) := by decide +kernel
theorem dX0_way_38 : decode cX0_way 38 = .ok (.invokespecial 49, 3) := by decide +kernel
theorem dX0_way_41 : decode cX0_way 41 = .ok (.athrow, 1) := by decide +kernel
set_option maxRecDepth 20000 in
theorem ggX0_same_X0_needUpTo : GoodIn wsX0_same wsX0_needUpTo := goodIn_ca (goodIn_r _ [5, 6, 7] (by decide +kernel) (by decide +kernel)) (goodIn_sub (fun _ h => List.mem_cons_of_mem _ (List.mem_append_right _ h)) (by decide +kernel))
set_option maxRecDepth 20000 in
theorem gX0_same_X0_needUpTo : GoodIn wsX0_same (va_wsS RX0 17 yX0_needUpTo wsX0_needUpTo) := goodIn_app (goodIn_of _ (by decide +kernel)) ggX0_same_X0_needUpTo
set_option maxRecDepth 20000 in
theorem ggX0_same_X0_place : GoodIn wsX0_same wsX0_place := goodIn_r _ [10] (by decide +kernel) (by decide +kernel)
set_option maxRecDepth 20000 in
theorem gX0_same_X0_place : GoodIn wsX0_same (va_wsS RX0 21 yX0_place wsX0_place) := goodIn_app (goodIn_of _ (by decide +kernel)) ggX0_same_X0_place
theorem dX0_same_0 : decode cX0_same 0 = .ok (.iload_n 1, 1) := by decide +kernel
theorem dX0_same_1 : decode cX0_same 1 = .ok (.bipush 7, 2) := by decide +kernel
theorem dX0_same_3 : decode cX0_same 3 = .ok (.invokestatic 17, 3) := by decide +kernel
theorem dX0_same_6 : decode cX0_same 6 = .ok (.iload_n 2, 1) := by decide +kernel
theorem dX0_same_7 : decode cX0_same 7 = .ok (.bipush 7, 2) := by decide +kernel
theorem dX0_same_9 : decode cX0_same 9 = .ok (.invokestatic 17, 3) := by decide +kernel
theorem dX0_same_12 : decode cX0_same 12 = .ok (.iconst 0, 1) := by decide +kernel
theorem dX0_same_13 : decode cX0_same 13 = .ok (.istore_n 3, 1) := by decide +kernel
theorem dX0_same_14 : decode cX0_same 14 = .ok (.iload_n 3, 1) := by decide +kernel
theorem dX0_same_15 : decode cX0_same 15 = .ok (.sipush 1024, 3) := by decide +kernel
theorem dX0_same_18 : decode cX0_same 18 = .ok (.if_icmp .ge 34, 3) := by decide +kernel
theorem dX0_same_21 : decode cX0_same 21 = .ok (.aload_n 0, 1) := by decide +kernel
theorem dX0_same_22 : decode cX0_same 22 = .ok (.getfield 9, 3) := by decide +kernel
theorem dX0_same_25 : decode cX0_same 25 = .ok (.iload_n 1, 1) := by decide +kernel
theorem dX0_same_26 : decode cX0_same 26 = .ok (.iload_n 3, 1) := by decide +kernel
theorem dX0_same_27 : decode cX0_same 27 = .ok (.invokestatic 21, 3) := by decide +kernel
theorem dX0_same_30 : decode cX0_same 30 = .ok (.saload, 1) := by decide +kernel
theorem dX0_same_31 : decode cX0_same 31 = .ok (.aload_n 0, 1) := by decide +kernel
theorem dX0_same_32 : decode cX0_same 32 = .ok (.getfield 9, 3) := by decide +kernel
theorem dX0_same_35 : decode cX0_same 35 = .ok (.iload_n 2, 1) := by decide +kernel
theorem dX0_same_36 : decode cX0_same 36 = .ok (.iload_n 3, 1) := by decide +kernel
theorem dX0_same_37 : decode cX0_same 37 = .ok (.invokestatic 21, 3) := by decide +kernel
theorem dX0_same_40 : decode cX0_same 40 = .ok (.saload, 1) := by decide +kernel
theorem dX0_same_41 : decode cX0_same 41 = .ok (.if_icmp .eq 5, 3) := by decide +kernel
theorem dX0_same_44 : decode cX0_same 44 = .ok (.iconst 0, 1) := by decide +kernel
theorem dX0_same_45 : decode cX0_same 45 = .ok (.ireturn, 1) := by decide +kernel
theorem dX0_same_46 : decode cX0_same 46 = .ok (.iinc 3 1, 3) := by decide +kernel
theorem dX0_same_49 : decode cX0_same 49 = .ok (.goto (-35), 3) := by decide +kernel
theorem dX0_same_52 : decode cX0_same 52 = .ok (.iconst 1, 1) := by decide +kernel
theorem dX0_same_53 : decode cX0_same 53 = .ok (.ireturn, 1) := by decide +kernel
set_option maxRecDepth 20000 in
theorem ggX0_tidy_X0_needUpTo : GoodIn wsX0_tidy wsX0_needUpTo := goodIn_ca (goodIn_r _ [4, 5, 6] (by decide +kernel) (by decide +kernel)) (goodIn_sub (fun _ h => List.mem_cons_of_mem _ (List.mem_append_right _ h)) (by decide +kernel))
set_option maxRecDepth 20000 in
theorem gX0_tidy_X0_needUpTo : GoodIn wsX0_tidy (va_wsS RX0 17 yX0_needUpTo wsX0_needUpTo) := goodIn_app (goodIn_of _ (by decide +kernel)) ggX0_tidy_X0_needUpTo
set_option maxRecDepth 20000 in
theorem ggX0_tidy_X0_isZeroEverywhere : GoodIn wsX0_tidy wsX0_isZeroEverywhere := goodIn_r _ [10, 11, 12, 13, 3, 14, 15, 16] (by decide +kernel) (by decide +kernel)
set_option maxRecDepth 20000 in
theorem gX0_tidy_X0_isZeroEverywhere : GoodIn wsX0_tidy (wsV RX0 52 RX0 yX0_isZeroEverywhere wsX0_isZeroEverywhere) := goodIn_app (goodIn_of _ (by decide +kernel)) ggX0_tidy_X0_isZeroEverywhere
theorem dX0_tidy_0 : decode cX0_tidy 0 = .ok (.iload_n 1, 1) := by decide +kernel
theorem dX0_tidy_1 : decode cX0_tidy 1 = .ok (.iconst 2, 1) := by decide +kernel
theorem dX0_tidy_2 : decode cX0_tidy 2 = .ok (.invokestatic 17, 3) := by decide +kernel
theorem dX0_tidy_5 : decode cX0_tidy 5 = .ok (.iconst 0, 1) := by decide +kernel
theorem dX0_tidy_6 : decode cX0_tidy 6 = .ok (.istore_n 2, 1) := by decide +kernel
theorem dX0_tidy_7 : decode cX0_tidy 7 = .ok (.iconst 0, 1) := by decide +kernel
theorem dX0_tidy_8 : decode cX0_tidy 8 = .ok (.istore_n 3, 1) := by decide +kernel
theorem dX0_tidy_9 : decode cX0_tidy 9 = .ok (.iload_n 3, 1) := by decide +kernel
theorem dX0_tidy_10 : decode cX0_tidy 10 = .ok (.bipush 8, 2) := by decide +kernel
theorem dX0_tidy_12 : decode cX0_tidy 12 = .ok (.if_icmp .ge 25, 3) := by decide +kernel
theorem dX0_tidy_15 : decode cX0_tidy 15 = .ok (.iload_n 2, 1) := by decide +kernel
theorem dX0_tidy_16 : decode cX0_tidy 16 = .ok (.aload_n 0, 1) := by decide +kernel
theorem dX0_tidy_17 : decode cX0_tidy 17 = .ok (.iload_n 3, 1) := by decide +kernel
theorem dX0_tidy_18 : decode cX0_tidy 18 = .ok (.invokevirtual 52, 3) := by decide +kernel
theorem dX0_tidy_21 : decode cX0_tidy 21 = .ok (.ifCond .eq 7, 3) := by decide +kernel
theorem dX0_tidy_24 : decode cX0_tidy 24 = .ok (.iconst 0, 1) := by decide +kernel
theorem dX0_tidy_25 : decode cX0_tidy 25 = .ok (.goto 4, 3) := by decide +kernel
theorem dX0_tidy_28 : decode cX0_tidy 28 = .ok (.iconst 1, 1) := by decide +kernel
theorem dX0_tidy_29 : decode cX0_tidy 29 = .ok (.iadd, 1) := by decide +kernel
theorem dX0_tidy_30 : decode cX0_tidy 30 = .ok (.istore_n 2, 1) := by decide +kernel
theorem dX0_tidy_31 : decode cX0_tidy 31 = .ok (.iinc 3 1, 3) := by decide +kernel
theorem dX0_tidy_34 : decode cX0_tidy 34 = .ok (.goto (-25), 3) := by decide +kernel
theorem dX0_tidy_37 : decode cX0_tidy 37 = .ok (.iload_n 2, 1) := by decide +kernel
theorem dX0_tidy_38 : decode cX0_tidy 38 = .ok (.ireturn, 1) := by decide +kernel
theorem dX0_needUpTo_0 : decode cX0_needUpTo 0 = .ok (.iload_n 0, 1) := by decide +kernel
theorem dX0_needUpTo_1 : decode cX0_needUpTo 1 = .ok (.ifCond .lt 8, 3) := by decide +kernel
theorem dX0_needUpTo_4 : decode cX0_needUpTo 4 = .ok (.iload_n 0, 1) := by decide +kernel
theorem dX0_needUpTo_5 : decode cX0_needUpTo 5 = .ok (.iload_n 1, 1) := by decide +kernel
theorem dX0_needUpTo_6 : decode cX0_needUpTo 6 = .ok (.if_icmp .le 13, 3) := by decide +kernel
theorem dX0_needUpTo_9 : decode cX0_needUpTo 9 = .ok (.new 56, 3) := by decide +kernel
theorem dX0_needUpTo_12 : decode cX0_needUpTo 12 = .ok (.dup, 1) := by decide +kernel
theorem dX0_needUpTo_13 : decode cX0_needUpTo 13 = .ok (.ldc 58, 2) := by decide +kernel
theorem dX0_needUpTo_15 : decode cX0_needUpTo 15 = .ok (.invokespecial 60, 3) := by decide +kernel
theorem dX0_needUpTo_18 : decode cX0_needUpTo 18 = .ok (.athrow, 1) := by decide +kernel
theorem dX0_needUpTo_19 : decode cX0_needUpTo 19 = .ok (.return_, 1) := by decide +kernel
theorem dX0_place_0 : decode cX0_place 0 = .ok (.iload_n 0, 1) := by decide +kernel
theorem dX0_place_1 : decode cX0_place 1 = .ok (.sipush 1024, 3) := by decide +kernel
theorem dX0_place_4 : decode cX0_place 4 = .ok (.imul, 1) := by decide +kernel
theorem dX0_place_5 : decode cX0_place 5 = .ok (.iload_n 1, 1) := by decide +kernel
theorem dX0_place_6 : decode cX0_place 6 = .ok (.iadd, 1) := by decide +kernel
theorem dX0_place_7 : decode cX0_place 7 = .ok (.ireturn, 1) := by decide +kernel
theorem dX0_isYes_0 : decode cX0_isYes 0 = .ok (.aload_n 0, 1) := by decide +kernel
theorem dX0_isYes_1 : decode cX0_isYes 1 = .ok (.getfield 13, 3) := by decide +kernel
theorem dX0_isYes_4 : decode cX0_isYes 4 = .ok (.iload_n 2, 1) := by decide +kernel
theorem dX0_isYes_5 : decode cX0_isYes 5 = .ok (.iaload, 1) := by decide +kernel
theorem dX0_isYes_6 : decode cX0_isYes 6 = .ok (.iload_n 1, 1) := by decide +kernel
theorem dX0_isYes_7 : decode cX0_isYes 7 = .ok (.ishr, 1) := by decide +kernel
theorem dX0_isYes_8 : decode cX0_isYes 8 = .ok (.iconst 1, 1) := by decide +kernel
theorem dX0_isYes_9 : decode cX0_isYes 9 = .ok (.iand, 1) := by decide +kernel
theorem dX0_isYes_10 : decode cX0_isYes 10 = .ok (.ifCond .eq 7, 3) := by decide +kernel
theorem dX0_isYes_13 : decode cX0_isYes 13 = .ok (.iconst 1, 1) := by decide +kernel
theorem dX0_isYes_14 : decode cX0_isYes 14 = .ok (.goto 4, 3) := by decide +kernel
theorem dX0_isYes_17 : decode cX0_isYes 17 = .ok (.iconst 0, 1) := by decide +kernel
theorem dX0_isYes_18 : decode cX0_isYes 18 = .ok (.ireturn, 1) := by decide +kernel
theorem dX0_setTruth_0 : decode cX0_setTruth 0 = .ok (.iconst 1, 1) := by decide +kernel
theorem dX0_setTruth_1 : decode cX0_setTruth 1 = .ok (.iload_n 1, 1) := by decide +kernel
theorem dX0_setTruth_2 : decode cX0_setTruth 2 = .ok (.ishl, 1) := by decide +kernel
theorem dX0_setTruth_3 : decode cX0_setTruth 3 = .ok (.istore 4, 2) := by decide +kernel
theorem dX0_setTruth_5 : decode cX0_setTruth 5 = .ok (.aload_n 0, 1) := by decide +kernel
theorem dX0_setTruth_6 : decode cX0_setTruth 6 = .ok (.getfield 13, 3) := by decide +kernel
theorem dX0_setTruth_9 : decode cX0_setTruth 9 = .ok (.iload_n 2, 1) := by decide +kernel
theorem dX0_setTruth_10 : decode cX0_setTruth 10 = .ok (.iload_n 3, 1) := by decide +kernel
theorem dX0_setTruth_11 : decode cX0_setTruth 11 = .ok (.ifCond .eq 15, 3) := by decide +kernel
theorem dX0_setTruth_14 : decode cX0_setTruth 14 = .ok (.aload_n 0, 1) := by decide +kernel
theorem dX0_setTruth_15 : decode cX0_setTruth 15 = .ok (.getfield 13, 3) := by decide +kernel
theorem dX0_setTruth_18 : decode cX0_setTruth 18 = .ok (.iload_n 2, 1) := by decide +kernel
theorem dX0_setTruth_19 : decode cX0_setTruth 19 = .ok (.iaload, 1) := by decide +kernel
theorem dX0_setTruth_20 : decode cX0_setTruth 20 = .ok (.iload 4, 2) := by decide +kernel
theorem dX0_setTruth_22 : decode cX0_setTruth 22 = .ok (.ior, 1) := by decide +kernel
theorem dX0_setTruth_23 : decode cX0_setTruth 23 = .ok (.goto 14, 3) := by decide +kernel
theorem dX0_setTruth_26 : decode cX0_setTruth 26 = .ok (.aload_n 0, 1) := by decide +kernel
theorem dX0_setTruth_27 : decode cX0_setTruth 27 = .ok (.getfield 13, 3) := by decide +kernel
theorem dX0_setTruth_30 : decode cX0_setTruth 30 = .ok (.iload_n 2, 1) := by decide +kernel
theorem dX0_setTruth_31 : decode cX0_setTruth 31 = .ok (.iaload, 1) := by decide +kernel
theorem dX0_setTruth_32 : decode cX0_setTruth 32 = .ok (.iload 4, 2) := by decide +kernel
theorem dX0_setTruth_34 : decode cX0_setTruth 34 = .ok (.iconst (-1), 1) := by decide +kernel
theorem dX0_setTruth_35 : decode cX0_setTruth 35 = .ok (.ixor, 1) := by decide +kernel
theorem dX0_setTruth_36 : decode cX0_setTruth 36 = .ok (.iand, 1) := by decide +kernel
theorem dX0_setTruth_37 : decode cX0_setTruth 37 = .ok (.iastore, 1) := by decide +kernel
theorem dX0_setTruth_38 : decode cX0_setTruth 38 = .ok (.return_, 1) := by decide +kernel
set_option maxRecDepth 20000 in
theorem ggX0_isZeroEverywhere_X0_place : GoodIn wsX0_isZeroEverywhere wsX0_place := goodIn_r _ [5] (by decide +kernel) (by decide +kernel)
set_option maxRecDepth 20000 in
theorem gX0_isZeroEverywhere_X0_place : GoodIn wsX0_isZeroEverywhere (va_wsS RX0 21 yX0_place wsX0_place) := goodIn_app (goodIn_of _ (by decide +kernel)) ggX0_isZeroEverywhere_X0_place
theorem dX0_isZeroEverywhere_0 : decode cX0_isZeroEverywhere 0 = .ok (.iconst 0, 1) := by decide +kernel
theorem dX0_isZeroEverywhere_1 : decode cX0_isZeroEverywhere 1 = .ok (.istore_n 2, 1) := by decide +kernel
theorem dX0_isZeroEverywhere_2 : decode cX0_isZeroEverywhere 2 = .ok (.iload_n 2, 1) := by decide +kernel
theorem dX0_isZeroEverywhere_3 : decode cX0_isZeroEverywhere 3 = .ok (.sipush 1024, 3) := by decide +kernel
theorem dX0_isZeroEverywhere_6 : decode cX0_isZeroEverywhere 6 = .ok (.if_icmp .ge 24, 3) := by decide +kernel
theorem dX0_isZeroEverywhere_9 : decode cX0_isZeroEverywhere 9 = .ok (.aload_n 0, 1) := by decide +kernel
theorem dX0_isZeroEverywhere_10 : decode cX0_isZeroEverywhere 10 = .ok (.getfield 9, 3) := by decide +kernel
theorem dX0_isZeroEverywhere_13 : decode cX0_isZeroEverywhere 13 = .ok (.iload_n 1, 1) := by decide +kernel
theorem dX0_isZeroEverywhere_14 : decode cX0_isZeroEverywhere 14 = .ok (.iload_n 2, 1) := by decide +kernel
theorem dX0_isZeroEverywhere_15 : decode cX0_isZeroEverywhere 15 = .ok (.invokestatic 21, 3) := by decide +kernel
theorem dX0_isZeroEverywhere_18 : decode cX0_isZeroEverywhere 18 = .ok (.saload, 1) := by decide +kernel
theorem dX0_isZeroEverywhere_19 : decode cX0_isZeroEverywhere 19 = .ok (.ifCond .eq 5, 3) := by decide +kernel
theorem dX0_isZeroEverywhere_22 : decode cX0_isZeroEverywhere 22 = .ok (.iconst 0, 1) := by decide +kernel
theorem dX0_isZeroEverywhere_23 : decode cX0_isZeroEverywhere 23 = .ok (.ireturn, 1) := by decide +kernel
theorem dX0_isZeroEverywhere_24 : decode cX0_isZeroEverywhere 24 = .ok (.iinc 2 1, 3) := by decide +kernel
theorem dX0_isZeroEverywhere_27 : decode cX0_isZeroEverywhere 27 = .ok (.goto (-25), 3) := by decide +kernel
theorem dX0_isZeroEverywhere_30 : decode cX0_isZeroEverywhere 30 = .ok (.iconst 1, 1) := by decide +kernel
theorem dX0_isZeroEverywhere_31 : decode cX0_isZeroEverywhere 31 = .ok (.ireturn, 1) := by decide +kernel
theorem dX0_reckoned_0 : decode cX0_reckoned 0 = .ok (.iload_n 0, 1) := by decide +kernel
theorem dX0_reckoned_1 : decode cX0_reckoned 1 = .ok (.tableswitch 71 0 4 #[35, 39, 43, 47, 59], 35) := by decide +kernel
theorem dX0_reckoned_36 : decode cX0_reckoned 36 = .ok (.iload_n 1, 1) := by decide +kernel
theorem dX0_reckoned_37 : decode cX0_reckoned 37 = .ok (.iload_n 2, 1) := by decide +kernel
theorem dX0_reckoned_38 : decode cX0_reckoned 38 = .ok (.iadd, 1) := by decide +kernel
theorem dX0_reckoned_39 : decode cX0_reckoned 39 = .ok (.ireturn, 1) := by decide +kernel
theorem dX0_reckoned_40 : decode cX0_reckoned 40 = .ok (.iload_n 1, 1) := by decide +kernel
theorem dX0_reckoned_41 : decode cX0_reckoned 41 = .ok (.iload_n 2, 1) := by decide +kernel
theorem dX0_reckoned_42 : decode cX0_reckoned 42 = .ok (.isub, 1) := by decide +kernel
theorem dX0_reckoned_43 : decode cX0_reckoned 43 = .ok (.ireturn, 1) := by decide +kernel
theorem dX0_reckoned_44 : decode cX0_reckoned 44 = .ok (.iload_n 1, 1) := by decide +kernel
theorem dX0_reckoned_45 : decode cX0_reckoned 45 = .ok (.iload_n 2, 1) := by decide +kernel
theorem dX0_reckoned_46 : decode cX0_reckoned 46 = .ok (.imul, 1) := by decide +kernel
theorem dX0_reckoned_47 : decode cX0_reckoned 47 = .ok (.ireturn, 1) := by decide +kernel
theorem dX0_reckoned_48 : decode cX0_reckoned 48 = .ok (.iload_n 2, 1) := by decide +kernel
theorem dX0_reckoned_49 : decode cX0_reckoned 49 = .ok (.ifCond .ne 7, 3) := by decide +kernel
theorem dX0_reckoned_52 : decode cX0_reckoned 52 = .ok (.iconst 0, 1) := by decide +kernel
theorem dX0_reckoned_53 : decode cX0_reckoned 53 = .ok (.goto 6, 3) := by decide +kernel
theorem dX0_reckoned_56 : decode cX0_reckoned 56 = .ok (.iload_n 1, 1) := by decide +kernel
theorem dX0_reckoned_57 : decode cX0_reckoned 57 = .ok (.iload_n 2, 1) := by decide +kernel
theorem dX0_reckoned_58 : decode cX0_reckoned 58 = .ok (.idiv, 1) := by decide +kernel
theorem dX0_reckoned_59 : decode cX0_reckoned 59 = .ok (.ireturn, 1) := by decide +kernel
theorem dX0_reckoned_60 : decode cX0_reckoned 60 = .ok (.iload_n 2, 1) := by decide +kernel
theorem dX0_reckoned_61 : decode cX0_reckoned 61 = .ok (.ifCond .ne 7, 3) := by decide +kernel
theorem dX0_reckoned_64 : decode cX0_reckoned 64 = .ok (.iconst 0, 1) := by decide +kernel
theorem dX0_reckoned_65 : decode cX0_reckoned 65 = .ok (.goto 6, 3) := by decide +kernel
theorem dX0_reckoned_68 : decode cX0_reckoned 68 = .ok (.iload_n 1, 1) := by decide +kernel
theorem dX0_reckoned_69 : decode cX0_reckoned 69 = .ok (.iload_n 2, 1) := by decide +kernel
theorem dX0_reckoned_70 : decode cX0_reckoned 70 = .ok (.irem, 1) := by decide +kernel
theorem dX0_reckoned_71 : decode cX0_reckoned 71 = .ok (.ireturn, 1) := by decide +kernel
theorem dX0_reckoned_72 : decode cX0_reckoned 72 = .ok (.iload_n 2, 1) := by decide +kernel
theorem dX0_reckoned_73 : decode cX0_reckoned 73 = .ok (.ineg, 1) := by decide +kernel
theorem dX0_reckoned_74 : decode cX0_reckoned 74 = .ok (.ireturn, 1) := by decide +kernel
theorem dX0_compared_0 : decode cX0_compared 0 = .ok (.iload_n 0, 1) := by decide +kernel
theorem dX0_compared_1 : decode cX0_compared 1 = .ok (.tableswitch 60 0 2 #[27, 38, 49], 27) := by decide +kernel
theorem dX0_compared_28 : decode cX0_compared 28 = .ok (.iload_n 1, 1) := by decide +kernel
theorem dX0_compared_29 : decode cX0_compared 29 = .ok (.iload_n 2, 1) := by decide +kernel
theorem dX0_compared_30 : decode cX0_compared 30 = .ok (.if_icmp .ne 7, 3) := by decide +kernel
theorem dX0_compared_33 : decode cX0_compared 33 = .ok (.iconst 1, 1) := by decide +kernel
theorem dX0_compared_34 : decode cX0_compared 34 = .ok (.goto 4, 3) := by decide +kernel
theorem dX0_compared_37 : decode cX0_compared 37 = .ok (.iconst 0, 1) := by decide +kernel
theorem dX0_compared_38 : decode cX0_compared 38 = .ok (.ireturn, 1) := by decide +kernel
theorem dX0_compared_39 : decode cX0_compared 39 = .ok (.iload_n 1, 1) := by decide +kernel
theorem dX0_compared_40 : decode cX0_compared 40 = .ok (.iload_n 2, 1) := by decide +kernel
theorem dX0_compared_41 : decode cX0_compared 41 = .ok (.if_icmp .eq 7, 3) := by decide +kernel
theorem dX0_compared_44 : decode cX0_compared 44 = .ok (.iconst 1, 1) := by decide +kernel
theorem dX0_compared_45 : decode cX0_compared 45 = .ok (.goto 4, 3) := by decide +kernel
theorem dX0_compared_48 : decode cX0_compared 48 = .ok (.iconst 0, 1) := by decide +kernel
theorem dX0_compared_49 : decode cX0_compared 49 = .ok (.ireturn, 1) := by decide +kernel
theorem dX0_compared_50 : decode cX0_compared 50 = .ok (.iload_n 1, 1) := by decide +kernel
theorem dX0_compared_51 : decode cX0_compared 51 = .ok (.iload_n 2, 1) := by decide +kernel
theorem dX0_compared_52 : decode cX0_compared 52 = .ok (.if_icmp .ge 7, 3) := by decide +kernel
theorem dX0_compared_55 : decode cX0_compared 55 = .ok (.iconst 1, 1) := by decide +kernel
theorem dX0_compared_56 : decode cX0_compared 56 = .ok (.goto 4, 3) := by decide +kernel
theorem dX0_compared_59 : decode cX0_compared 59 = .ok (.iconst 0, 1) := by decide +kernel
theorem dX0_compared_60 : decode cX0_compared 60 = .ok (.ireturn, 1) := by decide +kernel
theorem dX0_compared_61 : decode cX0_compared 61 = .ok (.iload_n 1, 1) := by decide +kernel
theorem dX0_compared_62 : decode cX0_compared 62 = .ok (.iload_n 2, 1) := by decide +kernel
theorem dX0_compared_63 : decode cX0_compared 63 = .ok (.if_icmp .gt 7, 3) := by decide +kernel
theorem dX0_compared_66 : decode cX0_compared 66 = .ok (.iconst 1, 1) := by decide +kernel
theorem dX0_compared_67 : decode cX0_compared 67 = .ok (.goto 4, 3) := by decide +kernel
theorem dX0_compared_70 : decode cX0_compared 70 = .ok (.iconst 0, 1) := by decide +kernel
theorem dX0_compared_71 : decode cX0_compared 71 = .ok (.ireturn, 1) := by decide +kernel
theorem dX0_joined_0 : decode cX0_joined 0 = .ok (.iload_n 0, 1) := by decide +kernel
theorem dX0_joined_1 : decode cX0_joined 1 = .ok (.tableswitch 66 0 2 #[27, 41, 55], 27) := by decide +kernel
theorem dX0_joined_28 : decode cX0_joined 28 = .ok (.iload_n 1, 1) := by decide +kernel
theorem dX0_joined_29 : decode cX0_joined 29 = .ok (.ifCond .eq 11, 3) := by decide +kernel
theorem dX0_joined_32 : decode cX0_joined 32 = .ok (.iload_n 2, 1) := by decide +kernel
theorem dX0_joined_33 : decode cX0_joined 33 = .ok (.ifCond .eq 7, 3) := by decide +kernel
theorem dX0_joined_36 : decode cX0_joined 36 = .ok (.iconst 1, 1) := by decide +kernel
theorem dX0_joined_37 : decode cX0_joined 37 = .ok (.goto 4, 3) := by decide +kernel
theorem dX0_joined_40 : decode cX0_joined 40 = .ok (.iconst 0, 1) := by decide +kernel
theorem dX0_joined_41 : decode cX0_joined 41 = .ok (.ireturn, 1) := by decide +kernel
theorem dX0_joined_42 : decode cX0_joined 42 = .ok (.iload_n 1, 1) := by decide +kernel
theorem dX0_joined_43 : decode cX0_joined 43 = .ok (.ifCond .ne 7, 3) := by decide +kernel
theorem dX0_joined_46 : decode cX0_joined 46 = .ok (.iload_n 2, 1) := by decide +kernel
theorem dX0_joined_47 : decode cX0_joined 47 = .ok (.ifCond .eq 7, 3) := by decide +kernel
theorem dX0_joined_50 : decode cX0_joined 50 = .ok (.iconst 1, 1) := by decide +kernel
theorem dX0_joined_51 : decode cX0_joined 51 = .ok (.goto 4, 3) := by decide +kernel
theorem dX0_joined_54 : decode cX0_joined 54 = .ok (.iconst 0, 1) := by decide +kernel
theorem dX0_joined_55 : decode cX0_joined 55 = .ok (.ireturn, 1) := by decide +kernel
theorem dX0_joined_56 : decode cX0_joined 56 = .ok (.iload_n 1, 1) := by decide +kernel
theorem dX0_joined_57 : decode cX0_joined 57 = .ok (.iload_n 2, 1) := by decide +kernel
theorem dX0_joined_58 : decode cX0_joined 58 = .ok (.if_icmp .eq 7, 3) := by decide +kernel
theorem dX0_joined_61 : decode cX0_joined 61 = .ok (.iconst 1, 1) := by decide +kernel
theorem dX0_joined_62 : decode cX0_joined 62 = .ok (.goto 4, 3) := by decide +kernel
theorem dX0_joined_65 : decode cX0_joined 65 = .ok (.iconst 0, 1) := by decide +kernel
theorem dX0_joined_66 : decode cX0_joined 66 = .ok (.ireturn, 1) := by decide +kernel
theorem dX0_joined_67 : decode cX0_joined 67 = .ok (.iload_n 1, 1) := by decide +kernel
theorem dX0_joined_68 : decode cX0_joined 68 = .ok (.ifCond .ne 7, 3) := by decide +kernel
theorem dX0_joined_71 : decode cX0_joined 71 = .ok (.iconst 1, 1) := by decide +kernel
theorem dX0_joined_72 : decode cX0_joined 72 = .ok (.goto 4, 3) := by decide +kernel
theorem dX0_joined_75 : decode cX0_joined 75 = .ok (.iconst 0, 1) := by decide +kernel
theorem dX0_joined_76 : decode cX0_joined 76 = .ok (.ireturn, 1) := by decide +kernel
theorem dX1_init_0 : decode cX1_init 0 = .ok (.aload_n 0, 1) := by decide +kernel
theorem dX1_init_1 : decode cX1_init 1 = .ok (.invokespecial 1, 3) := by decide +kernel
theorem dX1_init_4 : decode cX1_init 4 = .ok (.aload_n 0, 1) := by decide +kernel
theorem dX1_init_5 : decode cX1_init 5 = .ok (.sipush 8192, 3) := by decide +kernel
theorem dX1_init_8 : decode cX1_init 8 = .ok (.newarray .int, 2) := by decide +kernel
theorem dX1_init_10 : decode cX1_init 10 = .ok (.putfield 7, 3) := by decide +kernel
theorem dX1_init_13 : decode cX1_init 13 = .ok (.aload_n 0, 1) := by decide +kernel
theorem dX1_init_14 : decode cX1_init 14 = .ok (.sipush 8192, 3) := by decide +kernel
theorem dX1_init_17 : decode cX1_init 17 = .ok (.newarray .boolean, 2) := by decide +kernel
theorem dX1_init_19 : decode cX1_init 19 = .ok (.putfield 13, 3) := by decide +kernel
theorem dX1_init_22 : decode cX1_init 22 = .ok (.aload_n 0, 1) := by decide +kernel
theorem dX1_init_23 : decode cX1_init 23 = .ok (.sipush 1024, 3) := by decide +kernel
theorem dX1_init_26 : decode cX1_init 26 = .ok (.newarray .int, 2) := by decide +kernel
theorem dX1_init_28 : decode cX1_init 28 = .ok (.putfield 17, 3) := by decide +kernel
theorem dX1_init_31 : decode cX1_init 31 = .ok (.return_, 1) := by decide +kernel
theorem dX1_thrown_0 : decode cX1_thrown 0 = .ok (.aload_n 0, 1) := by decide +kernel
theorem dX1_thrown_1 : decode cX1_thrown 1 = .ok (.getfield 20, 3) := by decide +kernel
theorem dX1_thrown_4 : decode cX1_thrown 4 = .ok (.ireturn, 1) := by decide +kernel
theorem dX1_out_0 : decode cX1_out 0 = .ok (.iload_n 1, 1) := by decide +kernel
theorem dX1_out_1 : decode cX1_out 1 = .ok (.ifCond .lt 8, 3) := by decide +kernel
theorem dX1_out_4 : decode cX1_out 4 = .ok (.iload_n 1, 1) := by decide +kernel
theorem dX1_out_5 : decode cX1_out 5 = .ok (.iload_n 2, 1) := by decide +kernel
theorem dX1_out_6 : decode cX1_out 6 = .ok (.if_icmp .lt 7, 3) := by decide +kernel
theorem dX1_out_9 : decode cX1_out 9 = .ok (.iconst 1, 1) := by decide +kernel
theorem dX1_out_10 : decode cX1_out 10 = .ok (.goto 4, 3) := by decide +kernel
theorem dX1_out_13 : decode cX1_out 13 = .ok (.iconst 0, 1) := by decide +kernel
theorem dX1_out_14 : decode cX1_out 14 = .ok (.ireturn, 1) := by decide +kernel
set_option maxRecDepth 20000 in
theorem ggX1_constant_X1_out : GoodIn wsX1_constant wsX1_out := goodIn_r _ [7] (by decide +kernel) (by decide +kernel)
set_option maxRecDepth 20000 in
theorem gX1_constant_X1_out : GoodIn wsX1_constant (wsV RX1 24 RX1 yX1_out wsX1_out) := goodIn_app (goodIn_of _ (by decide +kernel)) ggX1_constant_X1_out
theorem dX1_constant_0 : decode cX1_constant 0 = .ok (.aload_n 0, 1) := by decide +kernel
theorem dX1_constant_1 : decode cX1_constant 1 = .ok (.iconst 0, 1) := by decide +kernel
theorem dX1_constant_2 : decode cX1_constant 2 = .ok (.putfield 20, 3) := by decide +kernel
theorem dX1_constant_5 : decode cX1_constant 5 = .ok (.aload_n 0, 1) := by decide +kernel
theorem dX1_constant_6 : decode cX1_constant 6 = .ok (.iload_n 1, 1) := by decide +kernel
theorem dX1_constant_7 : decode cX1_constant 7 = .ok (.bipush 8, 2) := by decide +kernel
theorem dX1_constant_9 : decode cX1_constant 9 = .ok (.invokevirtual 24, 3) := by decide +kernel
theorem dX1_constant_12 : decode cX1_constant 12 = .ok (.ifCond .eq 11, 3) := by decide +kernel
theorem dX1_constant_15 : decode cX1_constant 15 = .ok (.aload_n 0, 1) := by decide +kernel
theorem dX1_constant_16 : decode cX1_constant 16 = .ok (.iconst 1, 1) := by decide +kernel
theorem dX1_constant_17 : decode cX1_constant 17 = .ok (.putfield 20, 3) := by decide +kernel
theorem dX1_constant_20 : decode cX1_constant 20 = .ok (.goto 32, 3) := by decide +kernel
theorem dX1_constant_23 : decode cX1_constant 23 = .ok (.iconst 0, 1) := by decide +kernel
theorem dX1_constant_24 : decode cX1_constant 24 = .ok (.istore_n 3, 1) := by decide +kernel
theorem dX1_constant_25 : decode cX1_constant 25 = .ok (.iload_n 3, 1) := by decide +kernel
theorem dX1_constant_26 : decode cX1_constant 26 = .ok (.sipush 1024, 3) := by decide +kernel
theorem dX1_constant_29 : decode cX1_constant 29 = .ok (.if_icmp .ge 23, 3) := by decide +kernel
theorem dX1_constant_32 : decode cX1_constant 32 = .ok (.aload_n 0, 1) := by decide +kernel
theorem dX1_constant_33 : decode cX1_constant 33 = .ok (.getfield 7, 3) := by decide +kernel
theorem dX1_constant_36 : decode cX1_constant 36 = .ok (.sipush 1024, 3) := by decide +kernel
theorem dX1_constant_39 : decode cX1_constant 39 = .ok (.iload_n 1, 1) := by decide +kernel
theorem dX1_constant_40 : decode cX1_constant 40 = .ok (.imul, 1) := by decide +kernel
theorem dX1_constant_41 : decode cX1_constant 41 = .ok (.iload_n 3, 1) := by decide +kernel
theorem dX1_constant_42 : decode cX1_constant 42 = .ok (.iadd, 1) := by decide +kernel
theorem dX1_constant_43 : decode cX1_constant 43 = .ok (.iload_n 2, 1) := by decide +kernel
theorem dX1_constant_44 : decode cX1_constant 44 = .ok (.i2s, 1) := by decide +kernel
theorem dX1_constant_45 : decode cX1_constant 45 = .ok (.iastore, 1) := by decide +kernel
theorem dX1_constant_46 : decode cX1_constant 46 = .ok (.iinc 3 1, 3) := by decide +kernel
theorem dX1_constant_49 : decode cX1_constant 49 = .ok (.goto (-24), 3) := by decide +kernel
theorem dX1_constant_52 : decode cX1_constant 52 = .ok (.return_, 1) := by decide +kernel
set_option maxRecDepth 20000 in
theorem ggL_constant_X0_constant : GoodIn wsL_constant wsX0_constant := goodIn_ca (goodIn_r _ [6, 7, 8, 9, 5, 10, 11, 12, 13, 14, 15, 16, 17] (by decide +kernel) (by decide +kernel)) (goodIn_sub (fun _ h => List.mem_cons_of_mem _ (List.mem_append_right _ h)) (by decide +kernel))
set_option maxRecDepth 20000 in
theorem gL_constant_X0_constant : GoodIn wsL_constant (wsV RL 7 RX0 yX0_constant wsX0_constant) := goodIn_app (goodIn_of _ (by decide +kernel)) ggL_constant_X0_constant
theorem dL_constant_0 : decode cL_constant 0 = .ok (.aload_n 0, 1) := by decide +kernel
theorem dL_constant_1 : decode cL_constant 1 = .ok (.iload_n 1, 1) := by decide +kernel
theorem dL_constant_2 : decode cL_constant 2 = .ok (.iload_n 2, 1) := by decide +kernel
theorem dL_constant_3 : decode cL_constant 3 = .ok (.invokevirtual 7, 3) := by decide +kernel
theorem dL_constant_6 : decode cL_constant 6 = .ok (.goto 6, 3) := by decide +kernel
theorem dL_constant_9 : decode cL_constant 9 = .ok (.astore_n 3, 1) := by decide +kernel
theorem dL_constant_10 : decode cL_constant 10 = .ok (.iconst 1, 1) := by decide +kernel
theorem dL_constant_11 : decode cL_constant 11 = .ok (.ireturn, 1) := by decide +kernel
theorem dL_constant_12 : decode cL_constant 12 = .ok (.iconst 0, 1) := by decide +kernel
theorem dL_constant_13 : decode cL_constant 13 = .ok (.ireturn, 1) := by decide +kernel
set_option maxRecDepth 20000 in
theorem ggL_unknown_X0_unknown : GoodIn wsL_unknown wsX0_unknown := goodIn_ca (goodIn_r _ [6, 7, 8, 9, 5, 10, 11, 12, 13, 14, 15, 16, 17] (by decide +kernel) (by decide +kernel)) (goodIn_sub (fun _ h => List.mem_cons_of_mem _ (List.mem_append_right _ h)) (by decide +kernel))
set_option maxRecDepth 20000 in
theorem gL_unknown_X0_unknown : GoodIn wsL_unknown (wsV RL 15 RX0 yX0_unknown wsX0_unknown) := goodIn_app (goodIn_of _ (by decide +kernel)) ggL_unknown_X0_unknown
theorem dL_unknown_0 : decode cL_unknown 0 = .ok (.aload_n 0, 1) := by decide +kernel
theorem dL_unknown_1 : decode cL_unknown 1 = .ok (.iload_n 1, 1) := by decide +kernel
theorem dL_unknown_2 : decode cL_unknown 2 = .ok (.iload_n 2, 1) := by decide +kernel
theorem dL_unknown_3 : decode cL_unknown 3 = .ok (.iload_n 3, 1) := by decide +kernel
theorem dL_unknown_4 : decode cL_unknown 4 = .ok (.iload 4, 2) := by decide +kernel
theorem dL_unknown_6 : decode cL_unknown 6 = .ok (.invokevirtual 15, 3) := by decide +kernel
theorem dL_unknown_9 : decode cL_unknown 9 = .ok (.goto 7, 3) := by decide +kernel
theorem dL_unknown_12 : decode cL_unknown 12 = .ok (.astore 5, 2) := by decide +kernel
theorem dL_unknown_14 : decode cL_unknown 14 = .ok (.iconst 1, 1) := by decide +kernel
theorem dL_unknown_15 : decode cL_unknown 15 = .ok (.ireturn, 1) := by decide +kernel
theorem dL_unknown_16 : decode cL_unknown 16 = .ok (.iconst 0, 1) := by decide +kernel
theorem dL_unknown_17 : decode cL_unknown 17 = .ok (.ireturn, 1) := by decide +kernel
set_option maxRecDepth 20000 in
theorem ggL_reckon_X0_reckon : GoodIn wsL_reckon wsX0_reckon := goodIn_ca (goodIn_r _ [6, 7, 8, 9, 5, 10, 11, 12, 13, 14, 15, 16, 17, 18, 19, 20] (by decide +kernel) (by decide +kernel)) (goodIn_sub (fun _ h => List.mem_cons_of_mem _ (List.mem_append_right _ h)) (by decide +kernel))
set_option maxRecDepth 20000 in
theorem gL_reckon_X0_reckon : GoodIn wsL_reckon (wsV RL 19 RX0 yX0_reckon wsX0_reckon) := goodIn_app (goodIn_of _ (by decide +kernel)) ggL_reckon_X0_reckon
theorem dL_reckon_0 : decode cL_reckon 0 = .ok (.aload_n 0, 1) := by decide +kernel
theorem dL_reckon_1 : decode cL_reckon 1 = .ok (.iload_n 1, 1) := by decide +kernel
theorem dL_reckon_2 : decode cL_reckon 2 = .ok (.iload_n 2, 1) := by decide +kernel
theorem dL_reckon_3 : decode cL_reckon 3 = .ok (.iload_n 3, 1) := by decide +kernel
theorem dL_reckon_4 : decode cL_reckon 4 = .ok (.iload 4, 2) := by decide +kernel
theorem dL_reckon_6 : decode cL_reckon 6 = .ok (.invokevirtual 19, 3) := by decide +kernel
theorem dL_reckon_9 : decode cL_reckon 9 = .ok (.goto 7, 3) := by decide +kernel
theorem dL_reckon_12 : decode cL_reckon 12 = .ok (.astore 5, 2) := by decide +kernel
theorem dL_reckon_14 : decode cL_reckon 14 = .ok (.iconst 1, 1) := by decide +kernel
theorem dL_reckon_15 : decode cL_reckon 15 = .ok (.ireturn, 1) := by decide +kernel
theorem dL_reckon_16 : decode cL_reckon 16 = .ok (.iconst 0, 1) := by decide +kernel
theorem dL_reckon_17 : decode cL_reckon 17 = .ok (.ireturn, 1) := by decide +kernel
set_option maxRecDepth 20000 in
theorem ggL_compare_X0_compare : GoodIn wsL_compare wsX0_compare := goodIn_ca (goodIn_r _ [6, 7, 8, 9, 5, 10, 11, 12, 13, 14, 15, 16, 17, 18, 19, 20, 21, 22, 23, 24, 25] (by decide +kernel) (by decide +kernel)) (goodIn_sub (fun _ h => List.mem_cons_of_mem _ (List.mem_append_right _ h)) (by decide +kernel))
set_option maxRecDepth 20000 in
theorem gL_compare_X0_compare : GoodIn wsL_compare (wsV RL 22 RX0 yX0_compare wsX0_compare) := goodIn_app (goodIn_of _ (by decide +kernel)) ggL_compare_X0_compare
theorem dL_compare_0 : decode cL_compare 0 = .ok (.aload 5, 2) := by decide +kernel
theorem dL_compare_2 : decode cL_compare 2 = .ok (.iconst 0, 1) := by decide +kernel
theorem dL_compare_3 : decode cL_compare 3 = .ok (.aload_n 0, 1) := by decide +kernel
theorem dL_compare_4 : decode cL_compare 4 = .ok (.iload_n 1, 1) := by decide +kernel
theorem dL_compare_5 : decode cL_compare 5 = .ok (.iload_n 2, 1) := by decide +kernel
theorem dL_compare_6 : decode cL_compare 6 = .ok (.iload_n 3, 1) := by decide +kernel
theorem dL_compare_7 : decode cL_compare 7 = .ok (.iload 4, 2) := by decide +kernel
theorem dL_compare_9 : decode cL_compare 9 = .ok (.invokevirtual 22, 3) := by decide +kernel
theorem dL_compare_12 : decode cL_compare 12 = .ok (.i2l, 1) := by decide +kernel
theorem dL_compare_13 : decode cL_compare 13 = .ok (.lastore, 1) := by decide +kernel
theorem dL_compare_14 : decode cL_compare 14 = .ok (.goto 7, 3) := by decide +kernel
theorem dL_compare_17 : decode cL_compare 17 = .ok (.astore 6, 2) := by decide +kernel
theorem dL_compare_19 : decode cL_compare 19 = .ok (.iconst 1, 1) := by decide +kernel
theorem dL_compare_20 : decode cL_compare 20 = .ok (.ireturn, 1) := by decide +kernel
theorem dL_compare_21 : decode cL_compare 21 = .ok (.iconst 0, 1) := by decide +kernel
theorem dL_compare_22 : decode cL_compare 22 = .ok (.ireturn, 1) := by decide +kernel
set_option maxRecDepth 20000 in
theorem ggL_choose_X0_choose : GoodIn wsL_choose wsX0_choose := goodIn_ca (goodIn_r _ [6, 7, 8, 9, 5, 10, 11, 12, 13, 14, 15, 16, 17, 18, 19, 20, 21, 22] (by decide +kernel) (by decide +kernel)) (goodIn_sub (fun _ h => List.mem_cons_of_mem _ (List.mem_append_right _ h)) (by decide +kernel))
set_option maxRecDepth 20000 in
theorem gL_choose_X0_choose : GoodIn wsL_choose (wsV RL 26 RX0 yX0_choose wsX0_choose) := goodIn_app (goodIn_of _ (by decide +kernel)) ggL_choose_X0_choose
theorem dL_choose_0 : decode cL_choose 0 = .ok (.aload_n 0, 1) := by decide +kernel
theorem dL_choose_1 : decode cL_choose 1 = .ok (.iload_n 1, 1) := by decide +kernel
theorem dL_choose_2 : decode cL_choose 2 = .ok (.iload_n 2, 1) := by decide +kernel
theorem dL_choose_3 : decode cL_choose 3 = .ok (.iload_n 3, 1) := by decide +kernel
theorem dL_choose_4 : decode cL_choose 4 = .ok (.iload 4, 2) := by decide +kernel
theorem dL_choose_6 : decode cL_choose 6 = .ok (.invokevirtual 26, 3) := by decide +kernel
theorem dL_choose_9 : decode cL_choose 9 = .ok (.goto 7, 3) := by decide +kernel
theorem dL_choose_12 : decode cL_choose 12 = .ok (.astore 5, 2) := by decide +kernel
theorem dL_choose_14 : decode cL_choose 14 = .ok (.iconst 1, 1) := by decide +kernel
theorem dL_choose_15 : decode cL_choose 15 = .ok (.ireturn, 1) := by decide +kernel
theorem dL_choose_16 : decode cL_choose 16 = .ok (.iconst 0, 1) := by decide +kernel
theorem dL_choose_17 : decode cL_choose 17 = .ok (.ireturn, 1) := by decide +kernel
set_option maxRecDepth 20000 in
theorem ggL_join_X0_join : GoodIn wsL_join wsX0_join := goodIn_ca (goodIn_r _ [6, 7, 8, 5, 9, 10, 11, 12, 13, 14, 15, 16, 17, 18, 19, 20, 21, 22, 23, 24, 25] (by decide +kernel) (by decide +kernel)) (goodIn_sub (fun _ h => List.mem_cons_of_mem _ (List.mem_append_right _ h)) (by decide +kernel))
set_option maxRecDepth 20000 in
theorem gL_join_X0_join : GoodIn wsL_join (wsV RL 29 RX0 yX0_join wsX0_join) := goodIn_app (goodIn_of _ (by decide +kernel)) ggL_join_X0_join
theorem dL_join_0 : decode cL_join 0 = .ok (.aload 5, 2) := by decide +kernel
theorem dL_join_2 : decode cL_join 2 = .ok (.iconst 0, 1) := by decide +kernel
theorem dL_join_3 : decode cL_join 3 = .ok (.aload_n 0, 1) := by decide +kernel
theorem dL_join_4 : decode cL_join 4 = .ok (.iload_n 1, 1) := by decide +kernel
theorem dL_join_5 : decode cL_join 5 = .ok (.iload_n 2, 1) := by decide +kernel
theorem dL_join_6 : decode cL_join 6 = .ok (.iload_n 3, 1) := by decide +kernel
theorem dL_join_7 : decode cL_join 7 = .ok (.iload 4, 2) := by decide +kernel
theorem dL_join_9 : decode cL_join 9 = .ok (.invokevirtual 29, 3) := by decide +kernel
theorem dL_join_12 : decode cL_join 12 = .ok (.i2l, 1) := by decide +kernel
theorem dL_join_13 : decode cL_join 13 = .ok (.lastore, 1) := by decide +kernel
theorem dL_join_14 : decode cL_join 14 = .ok (.goto 7, 3) := by decide +kernel
theorem dL_join_17 : decode cL_join 17 = .ok (.astore 6, 2) := by decide +kernel
theorem dL_join_19 : decode cL_join 19 = .ok (.iconst 1, 1) := by decide +kernel
theorem dL_join_20 : decode cL_join 20 = .ok (.ireturn, 1) := by decide +kernel
theorem dL_join_21 : decode cL_join 21 = .ok (.iconst 0, 1) := by decide +kernel
theorem dL_join_22 : decode cL_join 22 = .ok (.ireturn, 1) := by decide +kernel
set_option maxRecDepth 20000 in
theorem ggL_value_X0_value : GoodIn wsL_value wsX0_value := goodIn_ca (goodIn_r _ [6, 7, 8, 9, 5, 10, 11, 12, 13, 14, 15, 16, 17] (by decide +kernel) (by decide +kernel)) (goodIn_sub (fun _ h => List.mem_cons_of_mem _ (List.mem_append_right _ h)) (by decide +kernel))
set_option maxRecDepth 20000 in
theorem gL_value_X0_value : GoodIn wsL_value (wsV RL 32 RX0 yX0_value wsX0_value) := goodIn_app (goodIn_of _ (by decide +kernel)) ggL_value_X0_value
theorem dL_value_0 : decode cL_value 0 = .ok (.aload_n 3, 1) := by decide +kernel
theorem dL_value_1 : decode cL_value 1 = .ok (.iconst 0, 1) := by decide +kernel
theorem dL_value_2 : decode cL_value 2 = .ok (.aload_n 0, 1) := by decide +kernel
theorem dL_value_3 : decode cL_value 3 = .ok (.iload_n 1, 1) := by decide +kernel
theorem dL_value_4 : decode cL_value 4 = .ok (.iload_n 2, 1) := by decide +kernel
theorem dL_value_5 : decode cL_value 5 = .ok (.invokevirtual 32, 3) := by decide +kernel
theorem dL_value_8 : decode cL_value 8 = .ok (.i2l, 1) := by decide +kernel
theorem dL_value_9 : decode cL_value 9 = .ok (.lastore, 1) := by decide +kernel
theorem dL_value_10 : decode cL_value 10 = .ok (.goto 7, 3) := by decide +kernel
theorem dL_value_13 : decode cL_value 13 = .ok (.astore 4, 2) := by decide +kernel
theorem dL_value_15 : decode cL_value 15 = .ok (.iconst 1, 1) := by decide +kernel
theorem dL_value_16 : decode cL_value 16 = .ok (.ireturn, 1) := by decide +kernel
theorem dL_value_17 : decode cL_value 17 = .ok (.iconst 0, 1) := by decide +kernel
theorem dL_value_18 : decode cL_value 18 = .ok (.ireturn, 1) := by decide +kernel
set_option maxRecDepth 20000 in
theorem ggL_way_X0_way : GoodIn wsL_way wsX0_way := goodIn_ca (goodIn_ca (goodIn_r _ [7, 8, 9, 10, 11, 6, 12, 13, 14, 15, 16, 17, 18, 19, 20, 21] (by decide +kernel) (by decide +kernel)) (goodIn_sub (fun _ h => List.mem_cons_of_mem _ (List.mem_append_left _ (List.mem_append_right _ h))) (by decide +kernel))) (goodIn_sub (fun _ h => List.mem_cons_of_mem _ (List.mem_append_right _ h)) (by decide +kernel))
set_option maxRecDepth 20000 in
theorem gL_way_X0_way : GoodIn wsL_way (wsV RL 36 RX0 yX0_way wsX0_way) := goodIn_app (goodIn_of _ (by decide +kernel)) ggL_way_X0_way
theorem dL_way_0 : decode cL_way 0 = .ok (.aload_n 2, 1) := by decide +kernel
theorem dL_way_1 : decode cL_way 1 = .ok (.iconst 0, 1) := by decide +kernel
theorem dL_way_2 : decode cL_way 2 = .ok (.aload_n 0, 1) := by decide +kernel
theorem dL_way_3 : decode cL_way 3 = .ok (.iload_n 1, 1) := by decide +kernel
theorem dL_way_4 : decode cL_way 4 = .ok (.invokevirtual 36, 3) := by decide +kernel
theorem dL_way_7 : decode cL_way 7 = .ok (.i2l, 1) := by decide +kernel
theorem dL_way_8 : decode cL_way 8 = .ok (.lastore, 1) := by decide +kernel
theorem dL_way_9 : decode cL_way 9 = .ok (.goto 9, 3) := by decide +kernel
theorem dL_way_12 : decode cL_way 12 = .ok (.astore_n 3, 1) := by decide +kernel
theorem dL_way_13 : decode cL_way 13 = .ok (.iconst 1, 1) := by decide +kernel
theorem dL_way_14 : decode cL_way 14 = .ok (.ireturn, 1) := by decide +kernel
theorem dL_way_15 : decode cL_way 15 = .ok (.astore_n 3, 1) := by decide +kernel
theorem dL_way_16 : decode cL_way 16 = .ok (.iconst 2, 1) := by decide +kernel
theorem dL_way_17 : decode cL_way 17 = .ok (.ireturn, 1) := by decide +kernel
theorem dL_way_18 : decode cL_way 18 = .ok (.iconst 0, 1) := by decide +kernel
theorem dL_way_19 : decode cL_way 19 = .ok (.ireturn, 1) := by decide +kernel
set_option maxRecDepth 20000 in
theorem ggL_same_X0_same : GoodIn wsL_same wsX0_same := goodIn_ca (goodIn_r _ [6, 7, 8, 9, 5, 10, 11, 12, 13, 14, 15, 16, 17] (by decide +kernel) (by decide +kernel)) (goodIn_sub (fun _ h => List.mem_cons_of_mem _ (List.mem_append_right _ h)) (by decide +kernel))
set_option maxRecDepth 20000 in
theorem gL_same_X0_same : GoodIn wsL_same (wsV RL 42 RX0 yX0_same wsX0_same) := goodIn_app (goodIn_of _ (by decide +kernel)) ggL_same_X0_same
theorem dL_same_0 : decode cL_same 0 = .ok (.aload_n 3, 1) := by decide +kernel
theorem dL_same_1 : decode cL_same 1 = .ok (.iconst 0, 1) := by decide +kernel
theorem dL_same_2 : decode cL_same 2 = .ok (.aload_n 0, 1) := by decide +kernel
theorem dL_same_3 : decode cL_same 3 = .ok (.iload_n 1, 1) := by decide +kernel
theorem dL_same_4 : decode cL_same 4 = .ok (.iload_n 2, 1) := by decide +kernel
theorem dL_same_5 : decode cL_same 5 = .ok (.invokevirtual 42, 3) := by decide +kernel
theorem dL_same_8 : decode cL_same 8 = .ok (.ifCond .eq 7, 3) := by decide +kernel
theorem dL_same_11 : decode cL_same 11 = .ok (.lconst 1, 1) := by decide +kernel
theorem dL_same_12 : decode cL_same 12 = .ok (.goto 4, 3) := by decide +kernel
theorem dL_same_15 : decode cL_same 15 = .ok (.lconst 0, 1) := by decide +kernel
theorem dL_same_16 : decode cL_same 16 = .ok (.lastore, 1) := by decide +kernel
theorem dL_same_17 : decode cL_same 17 = .ok (.goto 7, 3) := by decide +kernel
theorem dL_same_20 : decode cL_same 20 = .ok (.astore 4, 2) := by decide +kernel
theorem dL_same_22 : decode cL_same 22 = .ok (.iconst 1, 1) := by decide +kernel
theorem dL_same_23 : decode cL_same 23 = .ok (.ireturn, 1) := by decide +kernel
theorem dL_same_24 : decode cL_same 24 = .ok (.iconst 0, 1) := by decide +kernel
theorem dL_same_25 : decode cL_same 25 = .ok (.ireturn, 1) := by decide +kernel
set_option maxRecDepth 20000 in
theorem ggL_tidy_X0_tidy : GoodIn wsL_tidy wsX0_tidy := goodIn_ca (goodIn_r _ [6, 7, 8, 5, 9, 10, 11, 12, 13, 14, 15, 16, 17, 18, 19, 20, 21] (by decide +kernel) (by decide +kernel)) (goodIn_sub (fun _ h => List.mem_cons_of_mem _ (List.mem_append_right _ h)) (by decide +kernel))
set_option maxRecDepth 20000 in
theorem gL_tidy_X0_tidy : GoodIn wsL_tidy (wsV RL 46 RX0 yX0_tidy wsX0_tidy) := goodIn_app (goodIn_of _ (by decide +kernel)) ggL_tidy_X0_tidy
theorem dL_tidy_0 : decode cL_tidy 0 = .ok (.aload_n 2, 1) := by decide +kernel
theorem dL_tidy_1 : decode cL_tidy 1 = .ok (.iconst 0, 1) := by decide +kernel
theorem dL_tidy_2 : decode cL_tidy 2 = .ok (.aload_n 0, 1) := by decide +kernel
theorem dL_tidy_3 : decode cL_tidy 3 = .ok (.iload_n 1, 1) := by decide +kernel
theorem dL_tidy_4 : decode cL_tidy 4 = .ok (.invokevirtual 46, 3) := by decide +kernel
theorem dL_tidy_7 : decode cL_tidy 7 = .ok (.i2l, 1) := by decide +kernel
theorem dL_tidy_8 : decode cL_tidy 8 = .ok (.lastore, 1) := by decide +kernel
theorem dL_tidy_9 : decode cL_tidy 9 = .ok (.goto 6, 3) := by decide +kernel
theorem dL_tidy_12 : decode cL_tidy 12 = .ok (.astore_n 3, 1) := by decide +kernel
theorem dL_tidy_13 : decode cL_tidy 13 = .ok (.iconst 1, 1) := by decide +kernel
theorem dL_tidy_14 : decode cL_tidy 14 = .ok (.ireturn, 1) := by decide +kernel
theorem dL_tidy_15 : decode cL_tidy 15 = .ok (.iconst 0, 1) := by decide +kernel
theorem dL_tidy_16 : decode cL_tidy 16 = .ok (.ireturn, 1) := by decide +kernel
set_option maxRecDepth 20000 in
theorem ggL_law_X0_init : GoodIn wsL_law wsX0_init := goodIn_r _ [8, 9, 10, 11, 12, 13, 14, 15, 141, 142] (by decide +kernel) (by decide +kernel)
set_option maxRecDepth 20000 in
theorem gL_law_X0_init : GoodIn wsL_law (wsX0_init) := ggL_law_X0_init
set_option maxRecDepth 20000 in
theorem ggL_law_X1_init : GoodIn wsL_law wsX1_init := goodIn_r _ [18, 19, 10, 11, 14, 20, 21, 22, 23, 143, 144, 145, 146] (by decide +kernel) (by decide +kernel)
set_option maxRecDepth 20000 in
theorem gL_law_X1_init : GoodIn wsL_law (wsX1_init) := ggL_law_X1_init
set_option maxRecDepth 20000 in
theorem ggL_law_L_constant : GoodIn wsL_law wsL_constant := goodIn_ca (goodIn_r _ [27, 28, 29, 30, 31, 2, 32, 13, 33, 34, 35, 36, 37, 38, 39, 40, 141, 142] (by decide +kernel) (by decide +kernel)) (goodIn_sub (fun _ h => List.mem_append_left _ (List.mem_append_right _ h)) (by decide +kernel))
set_option maxRecDepth 20000 in
theorem gL_law_L_constant : GoodIn wsL_law (va_wsS RL 53 yL_constant wsL_constant) := goodIn_app (goodIn_of _ (by decide +kernel)) ggL_law_L_constant
set_option maxRecDepth 20000 in
theorem ggL_law_X1_constant : GoodIn wsL_law wsX1_constant := goodIn_r _ [44, 45, 20, 46, 47, 48, 5, 49, 143, 144, 145, 146] (by decide +kernel) (by decide +kernel)
set_option maxRecDepth 20000 in
theorem gL_law_X1_constant : GoodIn wsL_law (wsV RL 58 RX1 yX1_constant wsX1_constant) := goodIn_app (goodIn_of _ (by decide +kernel)) ggL_law_X1_constant
set_option maxRecDepth 20000 in
theorem ggL_law_X1_thrown : GoodIn wsL_law wsX1_thrown := goodIn_r _ [53, 45, 143, 144, 145, 146] (by decide +kernel) (by decide +kernel)
set_option maxRecDepth 20000 in
theorem gL_law_X1_thrown : GoodIn wsL_law (wsV RL 59 RX1 yX1_thrown wsX1_thrown) := goodIn_app (goodIn_of _ (by decide +kernel)) ggL_law_X1_thrown
set_option maxRecDepth 20000 in
theorem ggL_law_L_unknown : GoodIn wsL_law wsL_unknown := goodIn_ca (goodIn_r _ [56, 28, 57, 58, 59, 2, 60, 13, 33, 34, 35, 36, 37, 38, 39, 40, 141, 142] (by decide +kernel) (by decide +kernel)) (goodIn_sub (fun _ h => List.mem_append_left _ (List.mem_append_right _ h)) (by decide +kernel))
set_option maxRecDepth 20000 in
theorem gL_law_L_unknown : GoodIn wsL_law (va_wsS RL 63 yL_unknown wsL_unknown) := goodIn_app (goodIn_of _ (by decide +kernel)) ggL_law_L_unknown
set_option maxRecDepth 20000 in
theorem ggL_law_L_reckon : GoodIn wsL_law wsL_reckon := goodIn_ca (goodIn_r _ [63, 28, 64, 65, 66, 2, 67, 13, 33, 34, 35, 36, 37, 38, 39, 40, 68, 69, 70, 141, 142] (by decide +kernel) (by decide +kernel)) (goodIn_sub (fun _ h => List.mem_append_left _ (List.mem_append_right _ h)) (by decide +kernel))
set_option maxRecDepth 20000 in
theorem gL_law_L_reckon : GoodIn wsL_law (va_wsS RL 67 yL_reckon wsL_reckon) := goodIn_app (goodIn_of _ (by decide +kernel)) ggL_law_L_reckon
set_option maxRecDepth 20000 in
theorem ggL_law_L_compare : GoodIn wsL_law wsL_compare := goodIn_ca (goodIn_r _ [73, 28, 74, 75, 76, 2, 77, 13, 33, 34, 35, 36, 37, 38, 39, 40, 78, 79, 80, 81, 82, 83, 84, 15, 141, 142] (by decide +kernel) (by decide +kernel)) (goodIn_sub (fun _ h => List.mem_append_left _ (List.mem_append_right _ h)) (by decide +kernel))
set_option maxRecDepth 20000 in
theorem gL_law_L_compare : GoodIn wsL_law (va_wsS RL 70 yL_compare wsL_compare) := goodIn_app (goodIn_of _ (by decide +kernel)) ggL_law_L_compare
set_option maxRecDepth 20000 in
theorem ggL_law_L_choose : GoodIn wsL_law wsL_choose := goodIn_ca (goodIn_r _ [87, 28, 88, 89, 90, 2, 91, 13, 33, 34, 35, 36, 37, 92, 93, 94, 95, 15, 38, 39, 40, 141, 142] (by decide +kernel) (by decide +kernel)) (goodIn_sub (fun _ h => List.mem_append_left _ (List.mem_append_right _ h)) (by decide +kernel))
set_option maxRecDepth 20000 in
theorem gL_law_L_choose : GoodIn wsL_law (va_wsS RL 74 yL_choose wsL_choose) := goodIn_app (goodIn_of _ (by decide +kernel)) ggL_law_L_choose
set_option maxRecDepth 20000 in
theorem ggL_law_L_join : GoodIn wsL_law wsL_join := goodIn_ca (goodIn_r _ [98, 28, 99, 100, 101, 2, 102, 33, 34, 35, 36, 37, 92, 93, 94, 95, 15, 103, 104, 105, 81, 82, 83, 84, 141, 142] (by decide +kernel) (by decide +kernel)) (goodIn_sub (fun _ h => List.mem_append_left _ (List.mem_append_right _ h)) (by decide +kernel))
set_option maxRecDepth 20000 in
theorem gL_law_L_join : GoodIn wsL_law (va_wsS RL 77 yL_join wsL_join) := goodIn_app (goodIn_of _ (by decide +kernel)) ggL_law_L_join
set_option maxRecDepth 20000 in
theorem ggL_law_L_value : GoodIn wsL_law wsL_value := goodIn_ca (goodIn_r _ [108, 28, 109, 110, 111, 2, 112, 13, 33, 34, 35, 36, 37, 38, 39, 40, 141, 142] (by decide +kernel) (by decide +kernel)) (goodIn_sub (fun _ h => List.mem_append_left _ (List.mem_append_right _ h)) (by decide +kernel))
set_option maxRecDepth 20000 in
theorem gL_law_L_value : GoodIn wsL_law (va_wsS RL 80 yL_value wsL_value) := goodIn_app (goodIn_of _ (by decide +kernel)) ggL_law_L_value
set_option maxRecDepth 20000 in
theorem ggL_law_L_way : GoodIn wsL_law wsL_way := goodIn_ca (goodIn_ca (goodIn_r _ [115, 28, 116, 117, 118, 119, 2, 120, 121, 122, 33, 34, 35, 36, 37, 92, 93, 94, 95, 15, 141, 142] (by decide +kernel) (by decide +kernel)) (goodIn_sub (fun _ h => List.mem_append_right _ h) (by decide +kernel))) (goodIn_sub (fun _ h => List.mem_append_left _ (List.mem_append_right _ h)) (by decide +kernel))
set_option maxRecDepth 20000 in
theorem gL_law_L_way : GoodIn wsL_law (va_wsS RL 84 yL_way wsL_way) := goodIn_app (goodIn_of _ (by decide +kernel)) ggL_law_L_way
set_option maxRecDepth 20000 in
theorem ggL_law_L_same : GoodIn wsL_law wsL_same := goodIn_ca (goodIn_r _ [125, 28, 126, 127, 128, 2, 129, 13, 33, 34, 35, 36, 37, 38, 39, 40, 141, 142] (by decide +kernel) (by decide +kernel)) (goodIn_sub (fun _ h => List.mem_append_left _ (List.mem_append_right _ h)) (by decide +kernel))
set_option maxRecDepth 20000 in
theorem gL_law_L_same : GoodIn wsL_law (va_wsS RL 88 yL_same wsL_same) := goodIn_app (goodIn_of _ (by decide +kernel)) ggL_law_L_same
set_option maxRecDepth 20000 in
theorem ggL_law_L_tidy : GoodIn wsL_law wsL_tidy := goodIn_ca (goodIn_r _ [132, 28, 133, 134, 135, 2, 136, 33, 34, 35, 36, 37, 137, 138, 139, 140, 13, 38, 39, 40, 141, 142] (by decide +kernel) (by decide +kernel)) (goodIn_sub (fun _ h => List.mem_append_left _ (List.mem_append_right _ h)) (by decide +kernel))
set_option maxRecDepth 20000 in
theorem gL_law_L_tidy : GoodIn wsL_law (va_wsS RL 91 yL_tidy wsL_tidy) := goodIn_app (goodIn_of _ (by decide +kernel)) ggL_law_L_tidy
theorem dL_law_0 : decode cL_law 0 = .ok (.new 8, 3) := by decide +kernel
theorem dL_law_3 : decode cL_law 3 = .ok (.dup, 1) := by decide +kernel
theorem dL_law_4 : decode cL_law 4 = .ok (.invokespecial 49, 3) := by decide +kernel
theorem dL_law_7 : decode cL_law 7 = .ok (.astore_n 1, 1) := by decide +kernel
theorem dL_law_8 : decode cL_law 8 = .ok (.new 50, 3) := by decide +kernel
theorem dL_law_11 : decode cL_law 11 = .ok (.dup, 1) := by decide +kernel
theorem dL_law_12 : decode cL_law 12 = .ok (.invokespecial 52, 3) := by decide +kernel
theorem dL_law_15 : decode cL_law 15 = .ok (.astore_n 2, 1) := by decide +kernel
theorem dL_law_16 : decode cL_law 16 = .ok (.iconst 1, 1) := by decide +kernel
theorem dL_law_17 : decode cL_law 17 = .ok (.newarray .long, 2) := by decide +kernel
theorem dL_law_19 : decode cL_law 19 = .ok (.astore_n 3, 1) := by decide +kernel
theorem dL_law_20 : decode cL_law 20 = .ok (.iconst 0, 1) := by decide +kernel
theorem dL_law_21 : decode cL_law 21 = .ok (.istore 4, 2) := by decide +kernel
theorem dL_law_23 : decode cL_law 23 = .ok (.iload 4, 2) := by decide +kernel
theorem dL_law_25 : decode cL_law 25 = .ok (.aload_n 0, 1) := by decide +kernel
theorem dL_law_26 : decode cL_law 26 = .ok (.arraylength, 1) := by decide +kernel
theorem dL_law_27 : decode cL_law 27 = .ok (.iconst 5, 1) := by decide +kernel
theorem dL_law_28 : decode cL_law 28 = .ok (.isub, 1) := by decide +kernel
theorem dL_law_29 : decode cL_law 29 = .ok (.if_icmp .gt 772, 3) := by decide +kernel
theorem dL_law_32 : decode cL_law 32 = .ok (.aload_n 0, 1) := by decide +kernel
theorem dL_law_33 : decode cL_law 33 = .ok (.iload 4, 2) := by decide +kernel
theorem dL_law_35 : decode cL_law 35 = .ok (.iaload, 1) := by decide +kernel
theorem dL_law_36 : decode cL_law 36 = .ok (.bipush 15, 2) := by decide +kernel
theorem dL_law_38 : decode cL_law 38 = .ok (.iand, 1) := by decide +kernel
theorem dL_law_39 : decode cL_law 39 = .ok (.tableswitch 756 0 9 #[53, 101, 173, 245, 337, 409, 501, 569, 625, 700], 53) := by decide +kernel
theorem dL_law_92 : decode cL_law 92 = .ok (.aload_n 1, 1) := by decide +kernel
theorem dL_law_93 : decode cL_law 93 = .ok (.aload_n 0, 1) := by decide +kernel
theorem dL_law_94 : decode cL_law 94 = .ok (.iload 4, 2) := by decide +kernel
theorem dL_law_96 : decode cL_law 96 = .ok (.iconst 1, 1) := by decide +kernel
theorem dL_law_97 : decode cL_law 97 = .ok (.iadd, 1) := by decide +kernel
theorem dL_law_98 : decode cL_law 98 = .ok (.iaload, 1) := by decide +kernel
theorem dL_law_99 : decode cL_law 99 = .ok (.aload_n 0, 1) := by decide +kernel
theorem dL_law_100 : decode cL_law 100 = .ok (.iload 4, 2) := by decide +kernel
theorem dL_law_102 : decode cL_law 102 = .ok (.iconst 2, 1) := by decide +kernel
theorem dL_law_103 : decode cL_law 103 = .ok (.iadd, 1) := by decide +kernel
theorem dL_law_104 : decode cL_law 104 = .ok (.iaload, 1) := by decide +kernel
theorem dL_law_105 : decode cL_law 105 = .ok (.invokestatic 53, 3) := by decide +kernel
theorem dL_law_108 : decode cL_law 108 = .ok (.istore 5, 2) := by decide +kernel
theorem dL_law_110 : decode cL_law 110 = .ok (.aload_n 2, 1) := by decide +kernel
theorem dL_law_111 : decode cL_law 111 = .ok (.aload_n 0, 1) := by decide +kernel
theorem dL_law_112 : decode cL_law 112 = .ok (.iload 4, 2) := by decide +kernel
theorem dL_law_114 : decode cL_law 114 = .ok (.iconst 1, 1) := by decide +kernel
theorem dL_law_115 : decode cL_law 115 = .ok (.iadd, 1) := by decide +kernel
theorem dL_law_116 : decode cL_law 116 = .ok (.iaload, 1) := by decide +kernel
theorem dL_law_117 : decode cL_law 117 = .ok (.aload_n 0, 1) := by decide +kernel
theorem dL_law_118 : decode cL_law 118 = .ok (.iload 4, 2) := by decide +kernel
theorem dL_law_120 : decode cL_law 120 = .ok (.iconst 2, 1) := by decide +kernel
theorem dL_law_121 : decode cL_law 121 = .ok (.iadd, 1) := by decide +kernel
theorem dL_law_122 : decode cL_law 122 = .ok (.iaload, 1) := by decide +kernel
theorem dL_law_123 : decode cL_law 123 = .ok (.invokevirtual 58, 3) := by decide +kernel
theorem dL_law_126 : decode cL_law 126 = .ok (.aload_n 2, 1) := by decide +kernel
theorem dL_law_127 : decode cL_law 127 = .ok (.invokevirtual 59, 3) := by decide +kernel
theorem dL_law_130 : decode cL_law 130 = .ok (.iload 5, 2) := by decide +kernel
theorem dL_law_132 : decode cL_law 132 = .ok (.if_icmp .eq 5, 3) := by decide +kernel
theorem dL_law_135 : decode cL_law 135 = .ok (.iconst 0, 1) := by decide +kernel
theorem dL_law_136 : decode cL_law 136 = .ok (.ireturn, 1) := by decide +kernel
theorem dL_law_137 : decode cL_law 137 = .ok (.goto 658, 3) := by decide +kernel
theorem dL_law_140 : decode cL_law 140 = .ok (.aload_n 1, 1) := by decide +kernel
theorem dL_law_141 : decode cL_law 141 = .ok (.aload_n 0, 1) := by decide +kernel
theorem dL_law_142 : decode cL_law 142 = .ok (.iload 4, 2) := by decide +kernel
theorem dL_law_144 : decode cL_law 144 = .ok (.iconst 1, 1) := by decide +kernel
theorem dL_law_145 : decode cL_law 145 = .ok (.iadd, 1) := by decide +kernel
theorem dL_law_146 : decode cL_law 146 = .ok (.iaload, 1) := by decide +kernel
theorem dL_law_147 : decode cL_law 147 = .ok (.aload_n 0, 1) := by decide +kernel
theorem dL_law_148 : decode cL_law 148 = .ok (.iload 4, 2) := by decide +kernel
theorem dL_law_150 : decode cL_law 150 = .ok (.iconst 2, 1) := by decide +kernel
theorem dL_law_151 : decode cL_law 151 = .ok (.iadd, 1) := by decide +kernel
theorem dL_law_152 : decode cL_law 152 = .ok (.iaload, 1) := by decide +kernel
theorem dL_law_153 : decode cL_law 153 = .ok (.aload_n 0, 1) := by decide +kernel
theorem dL_law_154 : decode cL_law 154 = .ok (.iload 4, 2) := by decide +kernel
theorem dL_law_156 : decode cL_law 156 = .ok (.iconst 3, 1) := by decide +kernel
theorem dL_law_157 : decode cL_law 157 = .ok (.iadd, 1) := by decide +kernel
theorem dL_law_158 : decode cL_law 158 = .ok (.iaload, 1) := by decide +kernel
theorem dL_law_159 : decode cL_law 159 = .ok (.aload_n 0, 1) := by decide +kernel
theorem dL_law_160 : decode cL_law 160 = .ok (.iload 4, 2) := by decide +kernel
theorem dL_law_162 : decode cL_law 162 = .ok (.iconst 4, 1) := by decide +kernel
theorem dL_law_163 : decode cL_law 163 = .ok (.iadd, 1) := by decide +kernel
theorem dL_law_164 : decode cL_law 164 = .ok (.iaload, 1) := by decide +kernel
theorem dL_law_165 : decode cL_law 165 = .ok (.invokestatic 63, 3) := by decide +kernel
theorem dL_law_168 : decode cL_law 168 = .ok (.istore 5, 2) := by decide +kernel
theorem dL_law_170 : decode cL_law 170 = .ok (.aload_n 2, 1) := by decide +kernel
theorem dL_law_171 : decode cL_law 171 = .ok (.aload_n 0, 1) := by decide +kernel
theorem dL_law_172 : decode cL_law 172 = .ok (.iload 4, 2) := by decide +kernel
theorem dL_law_174 : decode cL_law 174 = .ok (.iconst 1, 1) := by decide +kernel
theorem dL_law_175 : decode cL_law 175 = .ok (.iadd, 1) := by decide +kernel
theorem dL_law_176 : decode cL_law 176 = .ok (.iaload, 1) := by decide +kernel
theorem dL_law_177 : decode cL_law 177 = .ok (.aload_n 0, 1) := by decide +kernel
theorem dL_law_178 : decode cL_law 178 = .ok (.iload 4, 2) := by decide +kernel
theorem dL_law_180 : decode cL_law 180 = .ok (.iconst 2, 1) := by decide +kernel
theorem dL_law_181 : decode cL_law 181 = .ok (.iadd, 1) := by decide +kernel
theorem dL_law_182 : decode cL_law 182 = .ok (.iaload, 1) := by decide +kernel
theorem dL_law_183 : decode cL_law 183 = .ok (.aload_n 0, 1) := by decide +kernel
theorem dL_law_184 : decode cL_law 184 = .ok (.iload 4, 2) := by decide +kernel
theorem dL_law_186 : decode cL_law 186 = .ok (.iconst 3, 1) := by decide +kernel
theorem dL_law_187 : decode cL_law 187 = .ok (.iadd, 1) := by decide +kernel
theorem dL_law_188 : decode cL_law 188 = .ok (.iaload, 1) := by decide +kernel
theorem dL_law_189 : decode cL_law 189 = .ok (.aload_n 0, 1) := by decide +kernel
theorem dL_law_190 : decode cL_law 190 = .ok (.iload 4, 2) := by decide +kernel
theorem dL_law_192 : decode cL_law 192 = .ok (.iconst 4, 1) := by decide +kernel
theorem dL_law_193 : decode cL_law 193 = .ok (.iadd, 1) := by decide +kernel
theorem dL_law_194 : decode cL_law 194 = .ok (.iaload, 1) := by decide +kernel
theorem dL_law_195 : decode cL_law 195 = .ok (.invokevirtual 66, 3) := by decide +kernel
theorem dL_law_198 : decode cL_law 198 = .ok (.aload_n 2, 1) := by decide +kernel
theorem dL_law_199 : decode cL_law 199 = .ok (.invokevirtual 59, 3) := by decide +kernel
theorem dL_law_202 : decode cL_law 202 = .ok (.iload 5, 2) := by decide +kernel
theorem dL_law_204 : decode cL_law 204 = .ok (.if_icmp .eq 5, 3) := by decide +kernel
theorem dL_law_207 : decode cL_law 207 = .ok (.iconst 0, 1) := by decide +kernel
theorem dL_law_208 : decode cL_law 208 = .ok (.ireturn, 1) := by decide +kernel
theorem dL_law_209 : decode cL_law 209 = .ok (.goto 586, 3) := by decide +kernel
theorem dL_law_212 : decode cL_law 212 = .ok (.aload_n 1, 1) := by decide +kernel
theorem dL_law_213 : decode cL_law 213 = .ok (.aload_n 0, 1) := by decide +kernel
theorem dL_law_214 : decode cL_law 214 = .ok (.iload 4, 2) := by decide +kernel
theorem dL_law_216 : decode cL_law 216 = .ok (.iconst 1, 1) := by decide +kernel
theorem dL_law_217 : decode cL_law 217 = .ok (.iadd, 1) := by decide +kernel
theorem dL_law_218 : decode cL_law 218 = .ok (.iaload, 1) := by decide +kernel
theorem dL_law_219 : decode cL_law 219 = .ok (.aload_n 0, 1) := by decide +kernel
theorem dL_law_220 : decode cL_law 220 = .ok (.iload 4, 2) := by decide +kernel
theorem dL_law_222 : decode cL_law 222 = .ok (.iconst 2, 1) := by decide +kernel
theorem dL_law_223 : decode cL_law 223 = .ok (.iadd, 1) := by decide +kernel
theorem dL_law_224 : decode cL_law 224 = .ok (.iaload, 1) := by decide +kernel
theorem dL_law_225 : decode cL_law 225 = .ok (.aload_n 0, 1) := by decide +kernel
theorem dL_law_226 : decode cL_law 226 = .ok (.iload 4, 2) := by decide +kernel
theorem dL_law_228 : decode cL_law 228 = .ok (.iconst 3, 1) := by decide +kernel
theorem dL_law_229 : decode cL_law 229 = .ok (.iadd, 1) := by decide +kernel
theorem dL_law_230 : decode cL_law 230 = .ok (.iaload, 1) := by decide +kernel
theorem dL_law_231 : decode cL_law 231 = .ok (.aload_n 0, 1) := by decide +kernel
theorem dL_law_232 : decode cL_law 232 = .ok (.iload 4, 2) := by decide +kernel
theorem dL_law_234 : decode cL_law 234 = .ok (.iconst 4, 1) := by decide +kernel
theorem dL_law_235 : decode cL_law 235 = .ok (.iadd, 1) := by decide +kernel
theorem dL_law_236 : decode cL_law 236 = .ok (.iaload, 1) := by decide +kernel
theorem dL_law_237 : decode cL_law 237 = .ok (.invokestatic 67, 3) := by decide +kernel
theorem dL_law_240 : decode cL_law 240 = .ok (.istore 5, 2) := by decide +kernel
theorem dL_law_242 : decode cL_law 242 = .ok (.aload_n 2, 1) := by decide +kernel
theorem dL_law_243 : decode cL_law 243 = .ok (.aload_n 0, 1) := by decide +kernel
theorem dL_law_244 : decode cL_law 244 = .ok (.iload 4, 2) := by decide +kernel
theorem dL_law_246 : decode cL_law 246 = .ok (.iconst 1, 1) := by decide +kernel
theorem dL_law_247 : decode cL_law 247 = .ok (.iadd, 1) := by decide +kernel
theorem dL_law_248 : decode cL_law 248 = .ok (.iaload, 1) := by decide +kernel
theorem dL_law_249 : decode cL_law 249 = .ok (.aload_n 0, 1) := by decide +kernel
theorem dL_law_250 : decode cL_law 250 = .ok (.iload 4, 2) := by decide +kernel
theorem dL_law_252 : decode cL_law 252 = .ok (.iconst 2, 1) := by decide +kernel
theorem dL_law_253 : decode cL_law 253 = .ok (.iadd, 1) := by decide +kernel
theorem dL_law_254 : decode cL_law 254 = .ok (.iaload, 1) := by decide +kernel
theorem dL_law_255 : decode cL_law 255 = .ok (.aload_n 0, 1) := by decide +kernel
theorem dL_law_256 : decode cL_law 256 = .ok (.iload 4, 2) := by decide +kernel
theorem dL_law_258 : decode cL_law 258 = .ok (.iconst 3, 1) := by decide +kernel
theorem dL_law_259 : decode cL_law 259 = .ok (.iadd, 1) := by decide +kernel
theorem dL_law_260 : decode cL_law 260 = .ok (.iaload, 1) := by decide +kernel
theorem dL_law_261 : decode cL_law 261 = .ok (.aload_n 0, 1) := by decide +kernel
theorem dL_law_262 : decode cL_law 262 = .ok (.iload 4, 2) := by decide +kernel
theorem dL_law_264 : decode cL_law 264 = .ok (.iconst 4, 1) := by decide +kernel
theorem dL_law_265 : decode cL_law 265 = .ok (.iadd, 1) := by decide +kernel
theorem dL_law_266 : decode cL_law 266 = .ok (.iaload, 1) := by decide +kernel
theorem dL_law_267 : decode cL_law 267 = .ok (.invokevirtual 69, 3) := by decide +kernel
theorem dL_law_270 : decode cL_law 270 = .ok (.aload_n 2, 1) := by decide +kernel
theorem dL_law_271 : decode cL_law 271 = .ok (.invokevirtual 59, 3) := by decide +kernel
theorem dL_law_274 : decode cL_law 274 = .ok (.iload 5, 2) := by decide +kernel
theorem dL_law_276 : decode cL_law 276 = .ok (.if_icmp .eq 5, 3) := by decide +kernel
theorem dL_law_279 : decode cL_law 279 = .ok (.iconst 0, 1) := by decide +kernel
theorem dL_law_280 : decode cL_law 280 = .ok (.ireturn, 1) := by decide +kernel
theorem dL_law_281 : decode cL_law 281 = .ok (.goto 514, 3) := by decide +kernel
theorem dL_law_284 : decode cL_law 284 = .ok (.aload_n 1, 1) := by decide +kernel
theorem dL_law_285 : decode cL_law 285 = .ok (.aload_n 0, 1) := by decide +kernel
theorem dL_law_286 : decode cL_law 286 = .ok (.iload 4, 2) := by decide +kernel
theorem dL_law_288 : decode cL_law 288 = .ok (.iconst 1, 1) := by decide +kernel
theorem dL_law_289 : decode cL_law 289 = .ok (.iadd, 1) := by decide +kernel
theorem dL_law_290 : decode cL_law 290 = .ok (.iaload, 1) := by decide +kernel
theorem dL_law_291 : decode cL_law 291 = .ok (.aload_n 0, 1) := by decide +kernel
theorem dL_law_292 : decode cL_law 292 = .ok (.iload 4, 2) := by decide +kernel
theorem dL_law_294 : decode cL_law 294 = .ok (.iconst 2, 1) := by decide +kernel
theorem dL_law_295 : decode cL_law 295 = .ok (.iadd, 1) := by decide +kernel
theorem dL_law_296 : decode cL_law 296 = .ok (.iaload, 1) := by decide +kernel
theorem dL_law_297 : decode cL_law 297 = .ok (.aload_n 0, 1) := by decide +kernel
theorem dL_law_298 : decode cL_law 298 = .ok (.iload 4, 2) := by decide +kernel
theorem dL_law_300 : decode cL_law 300 = .ok (.iconst 3, 1) := by decide +kernel
theorem dL_law_301 : decode cL_law 301 = .ok (.iadd, 1) := by decide +kernel
theorem dL_law_302 : decode cL_law 302 = .ok (.iaload, 1) := by decide +kernel
theorem dL_law_303 : decode cL_law 303 = .ok (.aload_n 0, 1) := by decide +kernel
theorem dL_law_304 : decode cL_law 304 = .ok (.iload 4, 2) := by decide +kernel
theorem dL_law_306 : decode cL_law 306 = .ok (.iconst 4, 1) := by decide +kernel
theorem dL_law_307 : decode cL_law 307 = .ok (.iadd, 1) := by decide +kernel
theorem dL_law_308 : decode cL_law 308 = .ok (.iaload, 1) := by decide +kernel
theorem dL_law_309 : decode cL_law 309 = .ok (.aload_n 3, 1) := by decide +kernel
theorem dL_law_310 : decode cL_law 310 = .ok (.invokestatic 70, 3) := by decide +kernel
theorem dL_law_313 : decode cL_law 313 = .ok (.istore 5, 2) := by decide +kernel
theorem dL_law_315 : decode cL_law 315 = .ok (.aload_n 2, 1) := by decide +kernel
theorem dL_law_316 : decode cL_law 316 = .ok (.aload_n 0, 1) := by decide +kernel
theorem dL_law_317 : decode cL_law 317 = .ok (.iload 4, 2) := by decide +kernel
theorem dL_law_319 : decode cL_law 319 = .ok (.iconst 1, 1) := by decide +kernel
theorem dL_law_320 : decode cL_law 320 = .ok (.iadd, 1) := by decide +kernel
theorem dL_law_321 : decode cL_law 321 = .ok (.iaload, 1) := by decide +kernel
theorem dL_law_322 : decode cL_law 322 = .ok (.aload_n 0, 1) := by decide +kernel
theorem dL_law_323 : decode cL_law 323 = .ok (.iload 4, 2) := by decide +kernel
theorem dL_law_325 : decode cL_law 325 = .ok (.iconst 2, 1) := by decide +kernel
theorem dL_law_326 : decode cL_law 326 = .ok (.iadd, 1) := by decide +kernel
theorem dL_law_327 : decode cL_law 327 = .ok (.iaload, 1) := by decide +kernel
theorem dL_law_328 : decode cL_law 328 = .ok (.aload_n 0, 1) := by decide +kernel
theorem dL_law_329 : decode cL_law 329 = .ok (.iload 4, 2) := by decide +kernel
theorem dL_law_331 : decode cL_law 331 = .ok (.iconst 3, 1) := by decide +kernel
theorem dL_law_332 : decode cL_law 332 = .ok (.iadd, 1) := by decide +kernel
theorem dL_law_333 : decode cL_law 333 = .ok (.iaload, 1) := by decide +kernel
theorem dL_law_334 : decode cL_law 334 = .ok (.aload_n 0, 1) := by decide +kernel
theorem dL_law_335 : decode cL_law 335 = .ok (.iload 4, 2) := by decide +kernel
theorem dL_law_337 : decode cL_law 337 = .ok (.iconst 4, 1) := by decide +kernel
theorem dL_law_338 : decode cL_law 338 = .ok (.iadd, 1) := by decide +kernel
theorem dL_law_339 : decode cL_law 339 = .ok (.iaload, 1) := by decide +kernel
theorem dL_law_340 : decode cL_law 340 = .ok (.invokevirtual 73, 3) := by decide +kernel
theorem dL_law_343 : decode cL_law 343 = .ok (.istore 6, 2) := by decide +kernel
theorem dL_law_345 : decode cL_law 345 = .ok (.aload_n 2, 1) := by decide +kernel
theorem dL_law_346 : decode cL_law 346 = .ok (.invokevirtual 59, 3) := by decide +kernel
theorem dL_law_349 : decode cL_law 349 = .ok (.iload 5, 2) := by decide +kernel
theorem dL_law_351 : decode cL_law 351 = .ok (.if_icmp .eq 5, 3) := by decide +kernel
theorem dL_law_354 : decode cL_law 354 = .ok (.iconst 0, 1) := by decide +kernel
theorem dL_law_355 : decode cL_law 355 = .ok (.ireturn, 1) := by decide +kernel
theorem dL_law_356 : decode cL_law 356 = .ok (.iload 5, 2) := by decide +kernel
theorem dL_law_358 : decode cL_law 358 = .ok (.ifCond .ne 15, 3) := by decide +kernel
theorem dL_law_361 : decode cL_law 361 = .ok (.aload_n 3, 1) := by decide +kernel
theorem dL_law_362 : decode cL_law 362 = .ok (.iconst 0, 1) := by decide +kernel
theorem dL_law_363 : decode cL_law 363 = .ok (.laload, 1) := by decide +kernel
theorem dL_law_364 : decode cL_law 364 = .ok (.iload 6, 2) := by decide +kernel
theorem dL_law_366 : decode cL_law 366 = .ok (.i2l, 1) := by decide +kernel
theorem dL_law_367 : decode cL_law 367 = .ok (.lcmp, 1) := by decide +kernel
theorem dL_law_368 : decode cL_law 368 = .ok (.ifCond .eq 5, 3) := by decide +kernel
theorem dL_law_371 : decode cL_law 371 = .ok (.iconst 0, 1) := by decide +kernel
theorem dL_law_372 : decode cL_law 372 = .ok (.ireturn, 1) := by decide +kernel
theorem dL_law_373 : decode cL_law 373 = .ok (.goto 422, 3) := by decide +kernel
theorem dL_law_376 : decode cL_law 376 = .ok (.aload_n 1, 1) := by decide +kernel
theorem dL_law_377 : decode cL_law 377 = .ok (.aload_n 0, 1) := by decide +kernel
theorem dL_law_378 : decode cL_law 378 = .ok (.iload 4, 2) := by decide +kernel
theorem dL_law_380 : decode cL_law 380 = .ok (.iconst 1, 1) := by decide +kernel
theorem dL_law_381 : decode cL_law 381 = .ok (.iadd, 1) := by decide +kernel
theorem dL_law_382 : decode cL_law 382 = .ok (.iaload, 1) := by decide +kernel
theorem dL_law_383 : decode cL_law 383 = .ok (.aload_n 0, 1) := by decide +kernel
theorem dL_law_384 : decode cL_law 384 = .ok (.iload 4, 2) := by decide +kernel
theorem dL_law_386 : decode cL_law 386 = .ok (.iconst 2, 1) := by decide +kernel
theorem dL_law_387 : decode cL_law 387 = .ok (.iadd, 1) := by decide +kernel
theorem dL_law_388 : decode cL_law 388 = .ok (.iaload, 1) := by decide +kernel
theorem dL_law_389 : decode cL_law 389 = .ok (.aload_n 0, 1) := by decide +kernel
theorem dL_law_390 : decode cL_law 390 = .ok (.iload 4, 2) := by decide +kernel
theorem dL_law_392 : decode cL_law 392 = .ok (.iconst 3, 1) := by decide +kernel
theorem dL_law_393 : decode cL_law 393 = .ok (.iadd, 1) := by decide +kernel
theorem dL_law_394 : decode cL_law 394 = .ok (.iaload, 1) := by decide +kernel
theorem dL_law_395 : decode cL_law 395 = .ok (.aload_n 0, 1) := by decide +kernel
theorem dL_law_396 : decode cL_law 396 = .ok (.iload 4, 2) := by decide +kernel
theorem dL_law_398 : decode cL_law 398 = .ok (.iconst 4, 1) := by decide +kernel
theorem dL_law_399 : decode cL_law 399 = .ok (.iadd, 1) := by decide +kernel
theorem dL_law_400 : decode cL_law 400 = .ok (.iaload, 1) := by decide +kernel
theorem dL_law_401 : decode cL_law 401 = .ok (.invokestatic 74, 3) := by decide +kernel
theorem dL_law_404 : decode cL_law 404 = .ok (.istore 5, 2) := by decide +kernel
theorem dL_law_406 : decode cL_law 406 = .ok (.aload_n 2, 1) := by decide +kernel
theorem dL_law_407 : decode cL_law 407 = .ok (.aload_n 0, 1) := by decide +kernel
theorem dL_law_408 : decode cL_law 408 = .ok (.iload 4, 2) := by decide +kernel
theorem dL_law_410 : decode cL_law 410 = .ok (.iconst 1, 1) := by decide +kernel
theorem dL_law_411 : decode cL_law 411 = .ok (.iadd, 1) := by decide +kernel
theorem dL_law_412 : decode cL_law 412 = .ok (.iaload, 1) := by decide +kernel
theorem dL_law_413 : decode cL_law 413 = .ok (.aload_n 0, 1) := by decide +kernel
theorem dL_law_414 : decode cL_law 414 = .ok (.iload 4, 2) := by decide +kernel
theorem dL_law_416 : decode cL_law 416 = .ok (.iconst 2, 1) := by decide +kernel
theorem dL_law_417 : decode cL_law 417 = .ok (.iadd, 1) := by decide +kernel
theorem dL_law_418 : decode cL_law 418 = .ok (.iaload, 1) := by decide +kernel
theorem dL_law_419 : decode cL_law 419 = .ok (.aload_n 0, 1) := by decide +kernel
theorem dL_law_420 : decode cL_law 420 = .ok (.iload 4, 2) := by decide +kernel
theorem dL_law_422 : decode cL_law 422 = .ok (.iconst 3, 1) := by decide +kernel
theorem dL_law_423 : decode cL_law 423 = .ok (.iadd, 1) := by decide +kernel
theorem dL_law_424 : decode cL_law 424 = .ok (.iaload, 1) := by decide +kernel
theorem dL_law_425 : decode cL_law 425 = .ok (.aload_n 0, 1) := by decide +kernel
theorem dL_law_426 : decode cL_law 426 = .ok (.iload 4, 2) := by decide +kernel
theorem dL_law_428 : decode cL_law 428 = .ok (.iconst 4, 1) := by decide +kernel
theorem dL_law_429 : decode cL_law 429 = .ok (.iadd, 1) := by decide +kernel
theorem dL_law_430 : decode cL_law 430 = .ok (.iaload, 1) := by decide +kernel
theorem dL_law_431 : decode cL_law 431 = .ok (.invokevirtual 76, 3) := by decide +kernel
theorem dL_law_434 : decode cL_law 434 = .ok (.aload_n 2, 1) := by decide +kernel
theorem dL_law_435 : decode cL_law 435 = .ok (.invokevirtual 59, 3) := by decide +kernel
theorem dL_law_438 : decode cL_law 438 = .ok (.iload 5, 2) := by decide +kernel
theorem dL_law_440 : decode cL_law 440 = .ok (.if_icmp .eq 5, 3) := by decide +kernel
theorem dL_law_443 : decode cL_law 443 = .ok (.iconst 0, 1) := by decide +kernel
theorem dL_law_444 : decode cL_law 444 = .ok (.ireturn, 1) := by decide +kernel
theorem dL_law_445 : decode cL_law 445 = .ok (.goto 350, 3) := by decide +kernel
theorem dL_law_448 : decode cL_law 448 = .ok (.aload_n 1, 1) := by decide +kernel
theorem dL_law_449 : decode cL_law 449 = .ok (.aload_n 0, 1) := by decide +kernel
theorem dL_law_450 : decode cL_law 450 = .ok (.iload 4, 2) := by decide +kernel
theorem dL_law_452 : decode cL_law 452 = .ok (.iconst 1, 1) := by decide +kernel
theorem dL_law_453 : decode cL_law 453 = .ok (.iadd, 1) := by decide +kernel
theorem dL_law_454 : decode cL_law 454 = .ok (.iaload, 1) := by decide +kernel
theorem dL_law_455 : decode cL_law 455 = .ok (.aload_n 0, 1) := by decide +kernel
theorem dL_law_456 : decode cL_law 456 = .ok (.iload 4, 2) := by decide +kernel
theorem dL_law_458 : decode cL_law 458 = .ok (.iconst 2, 1) := by decide +kernel
theorem dL_law_459 : decode cL_law 459 = .ok (.iadd, 1) := by decide +kernel
theorem dL_law_460 : decode cL_law 460 = .ok (.iaload, 1) := by decide +kernel
theorem dL_law_461 : decode cL_law 461 = .ok (.aload_n 0, 1) := by decide +kernel
theorem dL_law_462 : decode cL_law 462 = .ok (.iload 4, 2) := by decide +kernel
theorem dL_law_464 : decode cL_law 464 = .ok (.iconst 3, 1) := by decide +kernel
theorem dL_law_465 : decode cL_law 465 = .ok (.iadd, 1) := by decide +kernel
theorem dL_law_466 : decode cL_law 466 = .ok (.iaload, 1) := by decide +kernel
theorem dL_law_467 : decode cL_law 467 = .ok (.aload_n 0, 1) := by decide +kernel
theorem dL_law_468 : decode cL_law 468 = .ok (.iload 4, 2) := by decide +kernel
theorem dL_law_470 : decode cL_law 470 = .ok (.iconst 4, 1) := by decide +kernel
theorem dL_law_471 : decode cL_law 471 = .ok (.iadd, 1) := by decide +kernel
theorem dL_law_472 : decode cL_law 472 = .ok (.iaload, 1) := by decide +kernel
theorem dL_law_473 : decode cL_law 473 = .ok (.aload_n 3, 1) := by decide +kernel
theorem dL_law_474 : decode cL_law 474 = .ok (.invokestatic 77, 3) := by decide +kernel
theorem dL_law_477 : decode cL_law 477 = .ok (.istore 5, 2) := by decide +kernel
theorem dL_law_479 : decode cL_law 479 = .ok (.aload_n 2, 1) := by decide +kernel
theorem dL_law_480 : decode cL_law 480 = .ok (.aload_n 0, 1) := by decide +kernel
theorem dL_law_481 : decode cL_law 481 = .ok (.iload 4, 2) := by decide +kernel
theorem dL_law_483 : decode cL_law 483 = .ok (.iconst 1, 1) := by decide +kernel
theorem dL_law_484 : decode cL_law 484 = .ok (.iadd, 1) := by decide +kernel
theorem dL_law_485 : decode cL_law 485 = .ok (.iaload, 1) := by decide +kernel
theorem dL_law_486 : decode cL_law 486 = .ok (.aload_n 0, 1) := by decide +kernel
theorem dL_law_487 : decode cL_law 487 = .ok (.iload 4, 2) := by decide +kernel
theorem dL_law_489 : decode cL_law 489 = .ok (.iconst 2, 1) := by decide +kernel
theorem dL_law_490 : decode cL_law 490 = .ok (.iadd, 1) := by decide +kernel
theorem dL_law_491 : decode cL_law 491 = .ok (.iaload, 1) := by decide +kernel
theorem dL_law_492 : decode cL_law 492 = .ok (.aload_n 0, 1) := by decide +kernel
theorem dL_law_493 : decode cL_law 493 = .ok (.iload 4, 2) := by decide +kernel
theorem dL_law_495 : decode cL_law 495 = .ok (.iconst 3, 1) := by decide +kernel
theorem dL_law_496 : decode cL_law 496 = .ok (.iadd, 1) := by decide +kernel
theorem dL_law_497 : decode cL_law 497 = .ok (.iaload, 1) := by decide +kernel
theorem dL_law_498 : decode cL_law 498 = .ok (.aload_n 0, 1) := by decide +kernel
theorem dL_law_499 : decode cL_law 499 = .ok (.iload 4, 2) := by decide +kernel
theorem dL_law_501 : decode cL_law 501 = .ok (.iconst 4, 1) := by decide +kernel
theorem dL_law_502 : decode cL_law 502 = .ok (.iadd, 1) := by decide +kernel
theorem dL_law_503 : decode cL_law 503 = .ok (.iaload, 1) := by decide +kernel
theorem dL_law_504 : decode cL_law 504 = .ok (.invokevirtual 79, 3) := by decide +kernel
theorem dL_law_507 : decode cL_law 507 = .ok (.istore 6, 2) := by decide +kernel
theorem dL_law_509 : decode cL_law 509 = .ok (.aload_n 2, 1) := by decide +kernel
theorem dL_law_510 : decode cL_law 510 = .ok (.invokevirtual 59, 3) := by decide +kernel
theorem dL_law_513 : decode cL_law 513 = .ok (.iload 5, 2) := by decide +kernel
theorem dL_law_515 : decode cL_law 515 = .ok (.if_icmp .eq 5, 3) := by decide +kernel
theorem dL_law_518 : decode cL_law 518 = .ok (.iconst 0, 1) := by decide +kernel
theorem dL_law_519 : decode cL_law 519 = .ok (.ireturn, 1) := by decide +kernel
theorem dL_law_520 : decode cL_law 520 = .ok (.iload 5, 2) := by decide +kernel
theorem dL_law_522 : decode cL_law 522 = .ok (.ifCond .ne 15, 3) := by decide +kernel
theorem dL_law_525 : decode cL_law 525 = .ok (.aload_n 3, 1) := by decide +kernel
theorem dL_law_526 : decode cL_law 526 = .ok (.iconst 0, 1) := by decide +kernel
theorem dL_law_527 : decode cL_law 527 = .ok (.laload, 1) := by decide +kernel
theorem dL_law_528 : decode cL_law 528 = .ok (.iload 6, 2) := by decide +kernel
theorem dL_law_530 : decode cL_law 530 = .ok (.i2l, 1) := by decide +kernel
theorem dL_law_531 : decode cL_law 531 = .ok (.lcmp, 1) := by decide +kernel
theorem dL_law_532 : decode cL_law 532 = .ok (.ifCond .eq 5, 3) := by decide +kernel
theorem dL_law_535 : decode cL_law 535 = .ok (.iconst 0, 1) := by decide +kernel
theorem dL_law_536 : decode cL_law 536 = .ok (.ireturn, 1) := by decide +kernel
theorem dL_law_537 : decode cL_law 537 = .ok (.goto 258, 3) := by decide +kernel
theorem dL_law_540 : decode cL_law 540 = .ok (.aload_n 1, 1) := by decide +kernel
theorem dL_law_541 : decode cL_law 541 = .ok (.aload_n 0, 1) := by decide +kernel
theorem dL_law_542 : decode cL_law 542 = .ok (.iload 4, 2) := by decide +kernel
theorem dL_law_544 : decode cL_law 544 = .ok (.iconst 1, 1) := by decide +kernel
theorem dL_law_545 : decode cL_law 545 = .ok (.iadd, 1) := by decide +kernel
theorem dL_law_546 : decode cL_law 546 = .ok (.iaload, 1) := by decide +kernel
theorem dL_law_547 : decode cL_law 547 = .ok (.aload_n 0, 1) := by decide +kernel
theorem dL_law_548 : decode cL_law 548 = .ok (.iload 4, 2) := by decide +kernel
theorem dL_law_550 : decode cL_law 550 = .ok (.iconst 2, 1) := by decide +kernel
theorem dL_law_551 : decode cL_law 551 = .ok (.iadd, 1) := by decide +kernel
theorem dL_law_552 : decode cL_law 552 = .ok (.iaload, 1) := by decide +kernel
theorem dL_law_553 : decode cL_law 553 = .ok (.aload_n 3, 1) := by decide +kernel
theorem dL_law_554 : decode cL_law 554 = .ok (.invokestatic 80, 3) := by decide +kernel
theorem dL_law_557 : decode cL_law 557 = .ok (.istore 5, 2) := by decide +kernel
theorem dL_law_559 : decode cL_law 559 = .ok (.aload_n 2, 1) := by decide +kernel
theorem dL_law_560 : decode cL_law 560 = .ok (.aload_n 0, 1) := by decide +kernel
theorem dL_law_561 : decode cL_law 561 = .ok (.iload 4, 2) := by decide +kernel
theorem dL_law_563 : decode cL_law 563 = .ok (.iconst 1, 1) := by decide +kernel
theorem dL_law_564 : decode cL_law 564 = .ok (.iadd, 1) := by decide +kernel
theorem dL_law_565 : decode cL_law 565 = .ok (.iaload, 1) := by decide +kernel
theorem dL_law_566 : decode cL_law 566 = .ok (.aload_n 0, 1) := by decide +kernel
theorem dL_law_567 : decode cL_law 567 = .ok (.iload 4, 2) := by decide +kernel
theorem dL_law_569 : decode cL_law 569 = .ok (.iconst 2, 1) := by decide +kernel
theorem dL_law_570 : decode cL_law 570 = .ok (.iadd, 1) := by decide +kernel
theorem dL_law_571 : decode cL_law 571 = .ok (.iaload, 1) := by decide +kernel
theorem dL_law_572 : decode cL_law 572 = .ok (.invokevirtual 83, 3) := by decide +kernel
theorem dL_law_575 : decode cL_law 575 = .ok (.istore 6, 2) := by decide +kernel
theorem dL_law_577 : decode cL_law 577 = .ok (.aload_n 2, 1) := by decide +kernel
theorem dL_law_578 : decode cL_law 578 = .ok (.invokevirtual 59, 3) := by decide +kernel
theorem dL_law_581 : decode cL_law 581 = .ok (.iload 5, 2) := by decide +kernel
theorem dL_law_583 : decode cL_law 583 = .ok (.if_icmp .eq 5, 3) := by decide +kernel
theorem dL_law_586 : decode cL_law 586 = .ok (.iconst 0, 1) := by decide +kernel
theorem dL_law_587 : decode cL_law 587 = .ok (.ireturn, 1) := by decide +kernel
theorem dL_law_588 : decode cL_law 588 = .ok (.iload 5, 2) := by decide +kernel
theorem dL_law_590 : decode cL_law 590 = .ok (.ifCond .ne 15, 3) := by decide +kernel
theorem dL_law_593 : decode cL_law 593 = .ok (.aload_n 3, 1) := by decide +kernel
theorem dL_law_594 : decode cL_law 594 = .ok (.iconst 0, 1) := by decide +kernel
theorem dL_law_595 : decode cL_law 595 = .ok (.laload, 1) := by decide +kernel
theorem dL_law_596 : decode cL_law 596 = .ok (.iload 6, 2) := by decide +kernel
theorem dL_law_598 : decode cL_law 598 = .ok (.i2l, 1) := by decide +kernel
theorem dL_law_599 : decode cL_law 599 = .ok (.lcmp, 1) := by decide +kernel
theorem dL_law_600 : decode cL_law 600 = .ok (.ifCond .eq 5, 3) := by decide +kernel
theorem dL_law_603 : decode cL_law 603 = .ok (.iconst 0, 1) := by decide +kernel
theorem dL_law_604 : decode cL_law 604 = .ok (.ireturn, 1) := by decide +kernel
theorem dL_law_605 : decode cL_law 605 = .ok (.goto 190, 3) := by decide +kernel
theorem dL_law_608 : decode cL_law 608 = .ok (.aload_n 1, 1) := by decide +kernel
theorem dL_law_609 : decode cL_law 609 = .ok (.aload_n 0, 1) := by decide +kernel
theorem dL_law_610 : decode cL_law 610 = .ok (.iload 4, 2) := by decide +kernel
theorem dL_law_612 : decode cL_law 612 = .ok (.iconst 1, 1) := by decide +kernel
theorem dL_law_613 : decode cL_law 613 = .ok (.iadd, 1) := by decide +kernel
theorem dL_law_614 : decode cL_law 614 = .ok (.iaload, 1) := by decide +kernel
theorem dL_law_615 : decode cL_law 615 = .ok (.aload_n 3, 1) := by decide +kernel
theorem dL_law_616 : decode cL_law 616 = .ok (.invokestatic 84, 3) := by decide +kernel
theorem dL_law_619 : decode cL_law 619 = .ok (.istore 5, 2) := by decide +kernel
theorem dL_law_621 : decode cL_law 621 = .ok (.aload_n 2, 1) := by decide +kernel
theorem dL_law_622 : decode cL_law 622 = .ok (.aload_n 0, 1) := by decide +kernel
theorem dL_law_623 : decode cL_law 623 = .ok (.iload 4, 2) := by decide +kernel
theorem dL_law_625 : decode cL_law 625 = .ok (.iconst 1, 1) := by decide +kernel
theorem dL_law_626 : decode cL_law 626 = .ok (.iadd, 1) := by decide +kernel
theorem dL_law_627 : decode cL_law 627 = .ok (.iaload, 1) := by decide +kernel
theorem dL_law_628 : decode cL_law 628 = .ok (.invokevirtual 87, 3) := by decide +kernel
theorem dL_law_631 : decode cL_law 631 = .ok (.istore 6, 2) := by decide +kernel
theorem dL_law_633 : decode cL_law 633 = .ok (.aload_n 2, 1) := by decide +kernel
theorem dL_law_634 : decode cL_law 634 = .ok (.invokevirtual 59, 3) := by decide +kernel
theorem dL_law_637 : decode cL_law 637 = .ok (.iload 5, 2) := by decide +kernel
theorem dL_law_639 : decode cL_law 639 = .ok (.if_icmp .eq 5, 3) := by decide +kernel
theorem dL_law_642 : decode cL_law 642 = .ok (.iconst 0, 1) := by decide +kernel
theorem dL_law_643 : decode cL_law 643 = .ok (.ireturn, 1) := by decide +kernel
theorem dL_law_644 : decode cL_law 644 = .ok (.iload 5, 2) := by decide +kernel
theorem dL_law_646 : decode cL_law 646 = .ok (.ifCond .ne 15, 3) := by decide +kernel
theorem dL_law_649 : decode cL_law 649 = .ok (.aload_n 3, 1) := by decide +kernel
theorem dL_law_650 : decode cL_law 650 = .ok (.iconst 0, 1) := by decide +kernel
theorem dL_law_651 : decode cL_law 651 = .ok (.laload, 1) := by decide +kernel
theorem dL_law_652 : decode cL_law 652 = .ok (.iload 6, 2) := by decide +kernel
theorem dL_law_654 : decode cL_law 654 = .ok (.i2l, 1) := by decide +kernel
theorem dL_law_655 : decode cL_law 655 = .ok (.lcmp, 1) := by decide +kernel
theorem dL_law_656 : decode cL_law 656 = .ok (.ifCond .eq 5, 3) := by decide +kernel
theorem dL_law_659 : decode cL_law 659 = .ok (.iconst 0, 1) := by decide +kernel
theorem dL_law_660 : decode cL_law 660 = .ok (.ireturn, 1) := by decide +kernel
theorem dL_law_661 : decode cL_law 661 = .ok (.goto 134, 3) := by decide +kernel
theorem dL_law_664 : decode cL_law 664 = .ok (.aload_n 1, 1) := by decide +kernel
theorem dL_law_665 : decode cL_law 665 = .ok (.aload_n 0, 1) := by decide +kernel
theorem dL_law_666 : decode cL_law 666 = .ok (.iload 4, 2) := by decide +kernel
theorem dL_law_668 : decode cL_law 668 = .ok (.iconst 1, 1) := by decide +kernel
theorem dL_law_669 : decode cL_law 669 = .ok (.iadd, 1) := by decide +kernel
theorem dL_law_670 : decode cL_law 670 = .ok (.iaload, 1) := by decide +kernel
theorem dL_law_671 : decode cL_law 671 = .ok (.aload_n 0, 1) := by decide +kernel
theorem dL_law_672 : decode cL_law 672 = .ok (.iload 4, 2) := by decide +kernel
theorem dL_law_674 : decode cL_law 674 = .ok (.iconst 2, 1) := by decide +kernel
theorem dL_law_675 : decode cL_law 675 = .ok (.iadd, 1) := by decide +kernel
theorem dL_law_676 : decode cL_law 676 = .ok (.iaload, 1) := by decide +kernel
theorem dL_law_677 : decode cL_law 677 = .ok (.aload_n 3, 1) := by decide +kernel
theorem dL_law_678 : decode cL_law 678 = .ok (.invokestatic 88, 3) := by decide +kernel
theorem dL_law_681 : decode cL_law 681 = .ok (.istore 5, 2) := by decide +kernel
theorem dL_law_683 : decode cL_law 683 = .ok (.aload_n 2, 1) := by decide +kernel
theorem dL_law_684 : decode cL_law 684 = .ok (.aload_n 0, 1) := by decide +kernel
theorem dL_law_685 : decode cL_law 685 = .ok (.iload 4, 2) := by decide +kernel
theorem dL_law_687 : decode cL_law 687 = .ok (.iconst 1, 1) := by decide +kernel
theorem dL_law_688 : decode cL_law 688 = .ok (.iadd, 1) := by decide +kernel
theorem dL_law_689 : decode cL_law 689 = .ok (.iaload, 1) := by decide +kernel
theorem dL_law_690 : decode cL_law 690 = .ok (.aload_n 0, 1) := by decide +kernel
theorem dL_law_691 : decode cL_law 691 = .ok (.iload 4, 2) := by decide +kernel
theorem dL_law_693 : decode cL_law 693 = .ok (.iconst 2, 1) := by decide +kernel
theorem dL_law_694 : decode cL_law 694 = .ok (.iadd, 1) := by decide +kernel
theorem dL_law_695 : decode cL_law 695 = .ok (.iaload, 1) := by decide +kernel
theorem dL_law_696 : decode cL_law 696 = .ok (.invokevirtual 90, 3) := by decide +kernel
theorem dL_law_699 : decode cL_law 699 = .ok (.istore 6, 2) := by decide +kernel
theorem dL_law_701 : decode cL_law 701 = .ok (.aload_n 2, 1) := by decide +kernel
theorem dL_law_702 : decode cL_law 702 = .ok (.invokevirtual 59, 3) := by decide +kernel
theorem dL_law_705 : decode cL_law 705 = .ok (.iload 5, 2) := by decide +kernel
theorem dL_law_707 : decode cL_law 707 = .ok (.if_icmp .eq 5, 3) := by decide +kernel
theorem dL_law_710 : decode cL_law 710 = .ok (.iconst 0, 1) := by decide +kernel
theorem dL_law_711 : decode cL_law 711 = .ok (.ireturn, 1) := by decide +kernel
theorem dL_law_712 : decode cL_law 712 = .ok (.iload 5, 2) := by decide +kernel
theorem dL_law_714 : decode cL_law 714 = .ok (.ifCond .ne 22, 3) := by decide +kernel
theorem dL_law_717 : decode cL_law 717 = .ok (.aload_n 3, 1) := by decide +kernel
theorem dL_law_718 : decode cL_law 718 = .ok (.iconst 0, 1) := by decide +kernel
theorem dL_law_719 : decode cL_law 719 = .ok (.laload, 1) := by decide +kernel
theorem dL_law_720 : decode cL_law 720 = .ok (.iload 6, 2) := by decide +kernel
theorem dL_law_722 : decode cL_law 722 = .ok (.ifCond .eq 7, 3) := by decide +kernel
theorem dL_law_725 : decode cL_law 725 = .ok (.lconst 1, 1) := by decide +kernel
theorem dL_law_726 : decode cL_law 726 = .ok (.goto 4, 3) := by decide +kernel
theorem dL_law_729 : decode cL_law 729 = .ok (.lconst 0, 1) := by decide +kernel
theorem dL_law_730 : decode cL_law 730 = .ok (.lcmp, 1) := by decide +kernel
theorem dL_law_731 : decode cL_law 731 = .ok (.ifCond .eq 5, 3) := by decide +kernel
theorem dL_law_734 : decode cL_law 734 = .ok (.iconst 0, 1) := by decide +kernel
theorem dL_law_735 : decode cL_law 735 = .ok (.ireturn, 1) := by decide +kernel
theorem dL_law_736 : decode cL_law 736 = .ok (.goto 59, 3) := by decide +kernel
theorem dL_law_739 : decode cL_law 739 = .ok (.aload_n 1, 1) := by decide +kernel
theorem dL_law_740 : decode cL_law 740 = .ok (.aload_n 0, 1) := by decide +kernel
theorem dL_law_741 : decode cL_law 741 = .ok (.iload 4, 2) := by decide +kernel
theorem dL_law_743 : decode cL_law 743 = .ok (.iconst 1, 1) := by decide +kernel
theorem dL_law_744 : decode cL_law 744 = .ok (.iadd, 1) := by decide +kernel
theorem dL_law_745 : decode cL_law 745 = .ok (.iaload, 1) := by decide +kernel
theorem dL_law_746 : decode cL_law 746 = .ok (.aload_n 3, 1) := by decide +kernel
theorem dL_law_747 : decode cL_law 747 = .ok (.invokestatic 91, 3) := by decide +kernel
theorem dL_law_750 : decode cL_law 750 = .ok (.istore 5, 2) := by decide +kernel
theorem dL_law_752 : decode cL_law 752 = .ok (.aload_n 2, 1) := by decide +kernel
theorem dL_law_753 : decode cL_law 753 = .ok (.aload_n 0, 1) := by decide +kernel
theorem dL_law_754 : decode cL_law 754 = .ok (.iload 4, 2) := by decide +kernel
theorem dL_law_756 : decode cL_law 756 = .ok (.iconst 1, 1) := by decide +kernel
theorem dL_law_757 : decode cL_law 757 = .ok (.iadd, 1) := by decide +kernel
theorem dL_law_758 : decode cL_law 758 = .ok (.iaload, 1) := by decide +kernel
theorem dL_law_759 : decode cL_law 759 = .ok (.invokevirtual 93, 3) := by decide +kernel
theorem dL_law_762 : decode cL_law 762 = .ok (.istore 6, 2) := by decide +kernel
theorem dL_law_764 : decode cL_law 764 = .ok (.aload_n 2, 1) := by decide +kernel
theorem dL_law_765 : decode cL_law 765 = .ok (.invokevirtual 59, 3) := by decide +kernel
theorem dL_law_768 : decode cL_law 768 = .ok (.iload 5, 2) := by decide +kernel
theorem dL_law_770 : decode cL_law 770 = .ok (.if_icmp .eq 5, 3) := by decide +kernel
theorem dL_law_773 : decode cL_law 773 = .ok (.iconst 0, 1) := by decide +kernel
theorem dL_law_774 : decode cL_law 774 = .ok (.ireturn, 1) := by decide +kernel
theorem dL_law_775 : decode cL_law 775 = .ok (.iload 5, 2) := by decide +kernel
theorem dL_law_777 : decode cL_law 777 = .ok (.ifCond .ne 15, 3) := by decide +kernel
theorem dL_law_780 : decode cL_law 780 = .ok (.aload_n 3, 1) := by decide +kernel
theorem dL_law_781 : decode cL_law 781 = .ok (.iconst 0, 1) := by decide +kernel
theorem dL_law_782 : decode cL_law 782 = .ok (.laload, 1) := by decide +kernel
theorem dL_law_783 : decode cL_law 783 = .ok (.iload 6, 2) := by decide +kernel
theorem dL_law_785 : decode cL_law 785 = .ok (.i2l, 1) := by decide +kernel
theorem dL_law_786 : decode cL_law 786 = .ok (.lcmp, 1) := by decide +kernel
theorem dL_law_787 : decode cL_law 787 = .ok (.ifCond .eq 5, 3) := by decide +kernel
theorem dL_law_790 : decode cL_law 790 = .ok (.iconst 0, 1) := by decide +kernel
theorem dL_law_791 : decode cL_law 791 = .ok (.ireturn, 1) := by decide +kernel
theorem dL_law_792 : decode cL_law 792 = .ok (.goto 3, 3) := by decide +kernel
theorem dL_law_795 : decode cL_law 795 = .ok (.iinc 4 5, 3) := by decide +kernel
theorem dL_law_798 : decode cL_law 798 = .ok (.goto (-775), 3) := by decide +kernel
theorem dL_law_801 : decode cL_law 801 = .ok (.iconst 1, 1) := by decide +kernel
theorem dL_law_802 : decode cL_law 802 = .ok (.ireturn, 1) := by decide +kernel
abbrev vwCl : List vw_C := [(RX0, TX0, 2), (RX1, TX1, 4)]
end
section
/-! ===== Int32 by its bits: bt x i ===== -/
def bt (x : Int32) (i : Nat) : Bool := x.toBitVec.getLsbD i
theorem b_ext {x y : Int32} (h : ∀ i, i < 32 → bt x i = bt y i) : x = y := Int32.toBitVec_inj.mp (BitVec.eq_of_getLsbD_eq (fun i hi => h i hi))
theorem b_or (x y : Int32) (i : Nat) : bt (x ||| y) i = (bt x i || bt y i) := by unfold bt; rw [Int32.toBitVec_or, BitVec.getLsbD_or]
theorem b_and (x y : Int32) (i : Nat) : bt (x &&& y) i = (bt x i && bt y i) := by unfold bt; rw [Int32.toBitVec_and, BitVec.getLsbD_and]
theorem b_xor (x y : Int32) (i : Nat) : bt (x ^^^ y) i = (bt x i ^^ bt y i) := by unfold bt; rw [Int32.toBitVec_xor, BitVec.getLsbD_xor]
theorem b_big {x : Int32} {i : Nat} (h : 32 ≤ i) : bt x i = false := BitVec.getLsbD_of_ge _ _ h
theorem b_255 (i : Nat) : bt 255 i = decide (i < 8) := by
  rcases Nat.lt_or_ge i 32 with h | h
  · exact (by decide +kernel : ∀ i, i < 32 → bt 255 i = decide (i < 8)) i h
  · rw [b_big h, decide_eq_false (by omega)]
theorem b_65535 (i : Nat) : bt 65535 i = decide (i < 16) := by
  rcases Nat.lt_or_ge i 32 with h | h
  · exact (by decide +kernel : ∀ i, i < 32 → bt 65535 i = decide (i < 16)) i h
  · rw [b_big h, decide_eq_false (by omega)]
theorem b_m1 : ∀ i, i < 32 → bt (-1) i = true := by decide +kernel
theorem b_0 (i : Nat) : bt 0 i = false := BitVec.getLsbD_zero
theorem s_l : ∀ n, n < 32 → ((nI n &&& 31).toBitVec.smod 32).toNat = n := by decide +kernel
theorem s_u : ∀ n, n < 32 → (((nI n).toUInt32 &&& Int32.toUInt32 31).toBitVec % 32).toNat = n := by decide +kernel
theorem b_shl (n : Nat) (hn : n < 32) (x : Int32) {i : Nat} (hi : i < 32) : bt (x <<< (nI n &&& 31)) i = (decide (n ≤ i) && bt x (i - n)) := by
  unfold bt
  rw [Int32.toBitVec_shiftLeft]
  show (x.toBitVec <<< ((nI n &&& 31).toBitVec.smod 32).toNat).getLsbD i = _
  rw [s_l n hn, BitVec.getLsbD_shiftLeft]
  rcases Nat.lt_or_ge i n with h | h
  · simp [h, Nat.not_le.mpr h]
  · simp [hi, h, Nat.not_lt.mpr h]
theorem b_ushr (n : Nat) (hn : n < 32) (x : Int32) (i : Nat) : bt ((x.toUInt32 >>> ((nI n).toUInt32 &&& Int32.toUInt32 31)).toInt32) i = bt x (n + i) := by
  show (x.toUInt32 >>> ((nI n).toUInt32 &&& Int32.toUInt32 31)).toBitVec.getLsbD i = x.toUInt32.toBitVec.getLsbD (n + i)
  rw [UInt32.toBitVec_shiftRight]
  show (x.toUInt32.toBitVec >>> (((nI n).toUInt32 &&& Int32.toUInt32 31).toBitVec % 32).toNat).getLsbD i = _
  rw [s_u n hn, BitVec.getLsbD_ushiftRight]
theorem b_sshr (n : Nat) (hn : n < 32) (x : Int32) {i : Nat} (hi : i < 32) : bt (x >>> (nI n &&& 31)) i = if n + i < 32 then bt x (n + i) else bt x 31 := by
  unfold bt
  rw [Int32.toBitVec_shiftRight]
  show (x.toBitVec.sshiftRight ((nI n &&& 31).toBitVec.smod 32).toNat).getLsbD i = _
  rw [s_l n hn, BitVec.getLsbD_sshiftRight, BitVec.msb_eq_getLsbD_last]
  simp [hi]
theorem b_shl8 (x : Int32) {i : Nat} (hi : i < 32) : bt (x <<< ((8 : Int32) &&& 31)) i = (decide (8 ≤ i) && bt x (i - 8)) := b_shl 8 (by omega) x hi
theorem b_shl16 (x : Int32) {i : Nat} (hi : i < 32) : bt (x <<< ((16 : Int32) &&& 31)) i = (decide (16 ≤ i) && bt x (i - 16)) := b_shl 16 (by omega) x hi
theorem b_shl24 (x : Int32) {i : Nat} (hi : i < 32) : bt (x <<< ((24 : Int32) &&& 31)) i = (decide (24 ≤ i) && bt x (i - 24)) := b_shl 24 (by omega) x hi
theorem b_sshr8 (x : Int32) {i : Nat} (hi : i < 32) : bt (x >>> ((8 : Int32) &&& 31)) i = if 8 + i < 32 then bt x (8 + i) else bt x 31 := b_sshr 8 (by omega) x hi
theorem nnot {b : Bool} (h : (!b) = false) : b = true := by
  cases b with
  | false => cases h
  | true => rfl
/-! ===== pure rows: truth values, tables that are filled, counts, the reckoning ===== -/
theorem b_n1 : ∀ i, i < 32 → bt (nI 1) i = decide (i = 0) := by decide +kernel
def nb (b : Bool) : Int32 := if b then nI 1 else nI 0
theorem nb_f {b : Bool} (h : nb b = 0) : b = false := by
  cases b with
  | false => rfl
  | true => exact absurd h (by decide +kernel)
theorem nb_t {b : Bool} (h : ¬ nb b = 0) : b = true := by
  cases b with
  | false => exact absurd (by decide +kernel) h
  | true => rfl
theorem nb_a1 (b : Bool) : nb b &&& 1 = nb b := by cases b <;> decide +kernel
theorem nb_z (b : Bool) : vp_nar .boolean (nb b) = nb b := nb_a1 b
theorem nb_n (b : Bool) : narrow .boolean (.int (nb b)) = .int (nb b) := by
  show Value.int (nb b &&& 1) = _
  rw [nb_a1]
theorem nb_inj {b c : Bool} (h : nb b = nb c) : b = c := by revert h; cases b <;> cases c <;> decide +kernel
/-- a table f whose n places from b on hold val 0, val 1 .. -/
def nF (f : Nat → Int32) (b n : Nat) (val : Nat → Int32) : Nat → Int32 := fun j => if b ≤ j ∧ j < b + n then val (j - b) else f j
theorem nF_0 {f : Nat → Int32} {b : Nat} {val : Nat → Int32} : nF f b 0 val = f := funext fun j => if_neg (by omega)
theorem nF_s {f : Nat → Int32} {b w : Nat} {val : Nat → Int32} {x : Int32} (hx : x = val w) : upd (nF f b w val) (b + w) x = nF f b (w + 1) val := by
  funext j
  show (if j = b + w then x else nF f b w val j) = nF f b (w + 1) val j
  unfold nF
  by_cases h1 : j = b + w
  · subst h1
    rw [if_pos rfl, if_pos (by omega), hx, show b + w - b = w by omega]
  · rw [if_neg h1]
    by_cases h2 : b ≤ j ∧ j < b + w
    · rw [if_pos h2, if_pos (by omega)]
    · rw [if_neg h2, if_neg (by omega)]
theorem nF_up {f : Nat → Int32} {b w : Nat} {val : Nat → Int32} {x : Int32} (h : b + w < 2 ^ 31) (hx : x = val w) : upd (nF f b w val) (nI (b + w)).toNatClampNeg x = nF f b (w + 1) val := by
  rw [nI_clamp h]; exact nF_s hx
theorem nF_up0 {f : Nat → Int32} {w : Nat} {val : Nat → Int32} {x : Int32} (h : w < 2 ^ 31) (hx : x = val w) : upd (nF f 0 w val) (nI w).toNatClampNeg x = nF f 0 (w + 1) val := by
  have := nF_up (f := f) (b := 0) (w := w) (val := val) (x := x) (by omega) hx
  rw [Nat.zero_add] at this
  exact this
theorem nF_r {f : Nat → Int32} {sl w : Nat} {val : Nat → Int32} {c : Nat} (h : w < 1024) : nF f (1024 * sl) w val (1024 * c + w) = f (1024 * c + w) := if_neg (by omega)
theorem nF_r0 {f : Nat → Int32} {w : Nat} {val : Nat → Int32} : nF f 0 w val w = f w := if_neg (by omega)
theorem nF_in {f : Nat → Int32} {b n j : Nat} {val : Nat → Int32} (h : j < n) : nF f b n val (b + j) = val j := by
  show (if b ≤ b + j ∧ b + j < b + n then val (b + j - b) else f (b + j)) = _
  rw [if_pos (by omega), show b + j - b = j by omega]
theorem nF_in0 {f : Nat → Int32} {n j : Nat} {val : Nat → Int32} (h : j < n) : nF f 0 n val j = val j := by
  have := nF_in (f := f) (b := 0) (val := val) h
  rw [Nat.zero_add] at this
  exact this
theorem nF_out {f : Nat → Int32} {b n j : Nat} {val : Nat → Int32} (h : ¬ (b ≤ j ∧ j < b + n)) : nF f b n val j = f j := if_neg h
/-- how many of the first n are so -/
def nN (q : Nat → Bool) : Nat → Nat
  | 0 => 0
  | n + 1 => nN q n + (if q n then 1 else 0)
theorem nN_s (q : Nat → Bool) (n : Nat) : nI (nN q n) + nb (q n) = nI (nN q (n + 1)) := by
  show nI (nN q n) + nb (q n) = nI (nN q n + (if q n then 1 else 0))
  cases q n
  · exact nI_add _ 0
  · exact nI_add _ 1
theorem nN_congr {q r : Nat → Bool} : ∀ n, (∀ j, j < n → q j = r j) → nN q n = nN r n
  | 0, _ => rfl
  | n + 1, h => by
    show nN q n + _ = nN r n + _
    rw [nN_congr n (fun j hj => h j (by omega)), h n (by omega)]
/-- are the first n all so -/
def nAll (q : Nat → Bool) : Nat → Bool
  | 0 => true
  | n + 1 => nAll q n && q n
theorem nAll_t {q : Nat → Bool} : ∀ n, (∀ j, j < n → q j = true) → nAll q n = true
  | 0, _ => rfl
  | n + 1, h => by
    show (nAll q n && q n) = true
    rw [nAll_t n (fun j hj => h j (by omega)), h n (by omega)]; rfl
theorem nAll_f {q : Nat → Bool} {w : Nat} (hq : q w = false) : ∀ n, w < n → nAll q n = false
  | 0, h => absurd h (by omega)
  | n + 1, h => by
    show (nAll q n && q n) = false
    by_cases e : w = n
    · subst e; rw [hq, Bool.and_false]
    · rw [nAll_f hq n (by omega), Bool.false_and]
theorem nAll_congr {q r : Nat → Bool} : ∀ n, (∀ j, j < n → q j = r j) → nAll q n = nAll r n
  | 0, _ => rfl
  | n + 1, h => by
    show (nAll q n && q n) = (nAll r n && r n)
    rw [nAll_congr n (fun j hj => h j (by omega)), h n (by omega)]
/-- the reckoning, before and behind the wrap -/
def nR (kd : Nat) (x y : Int32) : Int32 := match kd with
  | 0 => x + y
  | 1 => x - y
  | 2 => x * y
  | 3 => if y = 0 then nI 0 else x / y
  | 4 => if y = 0 then nI 0 else x - x / y * y
  | _ => -y
def nRs (kd : Nat) (x y : Int32) : Int32 := match kd with
  | 0 => (x + y).toInt16.toInt32
  | 1 => (x - y).toInt16.toInt32
  | 2 => (x * y).toInt16.toInt32
  | 3 => if y = 0 then nI 0 else (x / y).toInt16.toInt32
  | 4 => if y = 0 then nI 0 else x - x / y * y
  | _ => (-y).toInt16.toInt32
def nc (kd : Nat) (x y : Int32) : Bool := match kd with
  | 0 => decide (x = y)
  | 1 => !decide (x = y)
  | 2 => decide (x < y)
  | _ => decide (x ≤ y)
def nj (kd : Nat) (x y : Bool) : Bool := match kd with
  | 0 => x && y
  | 1 => x || y
  | 2 => x != y
  | _ => !x
theorem nsh_rng {x : Int32} (h : x.toInt16.toInt32 = x) : -32768 ≤ x.toInt ∧ x.toInt < 32768 := by
  have h1 := Int16.le_toInt x.toInt16
  have h2 := Int16.toInt_lt x.toInt16
  rw [← Int16.toInt_toInt32, h] at h1 h2
  omega
theorem nsh_of {z : Int32} (h1 : -32768 ≤ z.toInt) (h2 : z.toInt < 32768) : z.toInt16.toInt32 = z := by
  apply Int32.toInt_inj.mp
  rw [Int16.toInt_toInt32, Int32.toInt_toInt16]
  exact Int.bmod_eq_of_le (by omega) (by omega)
theorem nsh_nar (x : Int32) : (x.toInt16.toInt32).toInt16.toInt32 = x.toInt16.toInt32 := by
  have h1 := Int16.le_toInt x.toInt16
  have h2 := Int16.toInt_lt x.toInt16
  rw [← Int16.toInt_toInt32] at h1 h2
  exact nsh_of (by omega) (by omega)
theorem nsh_vn (x : Int32) : vp_nar .short x = x.toInt16.toInt32 := rfl
theorem nsh_rem {x y : Int32} (hx : x.toInt16.toInt32 = x) (hy : y.toInt16.toInt32 = y) (hz : ¬ y = 0) : (x - x / y * y).toInt16.toInt32 = x - x / y * y := by
  obtain ⟨x1, x2⟩ := nsh_rng hx
  obtain ⟨y1, y2⟩ := nsh_rng hy
  have hY : y.toInt ≠ 0 := fun h => hz (Int32.toInt_inj.mp (by rw [h]; rfl))
  have ha := Int.natAbs_tdiv_le_natAbs x.toInt y.toInt
  have hd : (x / y).toInt = x.toInt.tdiv y.toInt := by
    rw [Int32.toInt_div]
    exact Int.bmod_eq_of_le (by omega) (by omega)
  have ht := Int.natAbs_tmod x.toInt y.toInt
  have hlt : x.toInt.natAbs % y.toInt.natAbs < y.toInt.natAbs := Nat.mod_lt _ (by omega)
  have hle : x.toInt.natAbs % y.toInt.natAbs ≤ x.toInt.natAbs := Nat.mod_le _ _
  have hdef := Int.tmod_def x.toInt y.toInt
  have hm : (x / y * y).toInt = y.toInt * x.toInt.tdiv y.toInt := by
    rw [Int32.toInt_mul, hd, Int.mul_comm]
    exact Int.bmod_eq_of_le (by omega) (by omega)
  have hs : (x - x / y * y).toInt = x.toInt.tmod y.toInt := by
    rw [Int32.toInt_sub, hm, ← hdef]
    exact Int.bmod_eq_of_le (by omega) (by omega)
  exact nsh_of (by rw [hs]; omega) (by rw [hs]; omega)
theorem nR_s {kd : Nat} {x y : Int32} (hx : x.toInt16.toInt32 = x) (hy : y.toInt16.toInt32 = y) : (nR kd x y).toInt16.toInt32 = nRs kd x y := by
  match kd with
  | 0 => rfl
  | 1 => rfl
  | 2 => rfl
  | 3 =>
    show (if y = 0 then nI 0 else x / y).toInt16.toInt32 = if y = 0 then nI 0 else (x / y).toInt16.toInt32
    by_cases h : y = 0
    · rw [if_pos h, if_pos h]; rfl
    · rw [if_neg h, if_neg h]
  | 4 =>
    show (if y = 0 then nI 0 else x - x / y * y).toInt16.toInt32 = if y = 0 then nI 0 else x - x / y * y
    by_cases h : y = 0
    · rw [if_pos h]; rfl
    · rw [if_neg h]; exact nsh_rem hx hy h
  | _ + 5 => rfl
theorem nRs_fit {kd : Nat} {x y : Int32} (hx : x.toInt16.toInt32 = x) (hy : y.toInt16.toInt32 = y) : (nRs kd x y).toInt16.toInt32 = nRs kd x y := by
  rw [← nR_s hx hy, nsh_nar]
/-- one truth of a way's eight: read, set -/
theorem nBit {x : Int32} {t : Nat} (ht : t < 32) : ((x >>> (nI t &&& 31)) &&& nI 1 = 0) ↔ bt x t = false := by
  have h0 : bt ((x >>> (nI t &&& 31)) &&& nI 1) 0 = bt x t := by
    rw [b_and, b_sshr t ht x (by omega), b_n1 0 (by omega), if_pos (by omega)]
    simp
  constructor
  · intro h
    rw [← h0, h, b_0]
  · intro h
    apply b_ext
    intro i hi
    rw [b_0]
    by_cases e : i = 0
    · subst e; rw [h0]; exact h
    · rw [b_and, b_n1 i hi, decide_eq_false e, Bool.and_false]
theorem nBit_f {x : Int32} {t : Nat} (ht : t < 32) (h : (x >>> (nI t &&& 31)) &&& nI 1 = 0) : bt x t = false := (nBit ht).mp h
theorem nBit_t {x : Int32} {t : Nat} (ht : t < 32) (h : ¬ (x >>> (nI t &&& 31)) &&& nI 1 = 0) : bt x t = true := by
  cases e : bt x t with
  | true => rfl
  | false => exact absurd ((nBit ht).mpr e) h
def nS1 (x : Int32) (t : Nat) (b : Bool) : Int32 := if b then x ||| (nI 1 <<< (nI t &&& 31)) else x &&& ((nI 1 <<< (nI t &&& 31)) ^^^ (-1))
theorem nS1_bt {x : Int32} {t i : Nat} {b : Bool} (ht : t < 32) (hi : i < 32) : bt (nS1 x t b) i = if i = t then b else bt x i := by
  have hs : bt (nI 1 <<< (nI t &&& 31)) i = decide (i = t) := by
    rw [b_shl t ht (nI 1) hi, b_n1 (i - t) (by omega)]
    by_cases e : i = t
    · subst e; simp
    · rw [decide_eq_false e]
      by_cases e2 : t ≤ i
      · rw [decide_eq_true e2, Bool.true_and, decide_eq_false (by omega)]
      · rw [decide_eq_false e2, Bool.false_and]
  cases b with
  | true =>
    show bt (x ||| (nI 1 <<< (nI t &&& 31))) i = _
    rw [b_or, hs]
    by_cases e : i = t
    · rw [decide_eq_true e, if_pos e, Bool.or_true]
    · rw [decide_eq_false e, if_neg e, Bool.or_false]
  | false =>
    show bt (x &&& ((nI 1 <<< (nI t &&& 31)) ^^^ (-1))) i = _
    rw [b_and, b_xor, hs, b_m1 i hi]
    by_cases e : i = t
    · rw [decide_eq_true e, if_pos e]; simp
    · rw [decide_eq_false e, if_neg e]; simp
/-! ===== what the methods put into their tables, way by way: x's (nv, ny, nq), m's (mv) ===== -/
def nvK (v : Int32) : Nat → Int32 := fun _ => vp_nar .short v.toInt16.toInt32
def nvU (fi ct : Nat) (lo : Int32) : Nat → Int32 := fun w => vp_nar .short ((((nI w >>> (nI fi &&& 31)) &&& ((nI 1 <<< (nI ct &&& 31)) - nI 1)) + lo).toInt16.toInt32)
def nvR (fn : Nat → Int32) (kd p0 q0 : Nat) : Nat → Int32 := fun w => vp_nar .short ((nR kd (fn (1024 * p0 + w)) (fn (1024 * q0 + w))).toInt16.toInt32)
def nvH (fn ft : Nat → Int32) (tr p0 q0 : Nat) : Nat → Int32 := fun w => vp_nar .short (fn (1024 * (if bt (ft w) tr then p0 else q0) + w))
def nvT (ft : Nat → Int32) (tr : Nat) (q : Nat → Bool) : Nat → Int32 := fun w => nS1 (ft w) tr (q w)
def nyC (fn : Nat → Int32) (kd p0 q0 : Nat) : Nat → Bool := fun w => nc kd (fn (1024 * p0 + w)) (fn (1024 * q0 + w))
def nyJ (ft : Nat → Int32) (kd p0 q0 : Nat) : Nat → Bool := fun w => nj kd (bt (ft w) p0) (bt (ft w) q0)
def nqS (fn : Nat → Int32) (p0 q0 : Nat) : Nat → Bool := fun w => decide (fn (1024 * p0 + w) = fn (1024 * q0 + w))
def nqZ (fn : Nat → Int32) (sl : Nat) : Nat → Bool := fun w => decide (fn (1024 * sl + w) = 0)
def nqT (fn : Nat → Int32) : Nat → Bool := fun sl => !nAll (nqZ fn sl) 1024
def mvK (v : Int32) : Nat → Int32 := fun _ => v.toInt16.toInt32
def mvU (fi ct : Nat) (lo : Int32) : Nat → Int32 := fun w => (((nI w >>> (nI fi &&& 31)) &&& ((nI 1 <<< (nI ct &&& 31)) - nI 1)) + lo).toInt16.toInt32
def mvR (gn : Nat → Int32) (kd p0 q0 : Nat) : Nat → Int32 := fun w => nRs kd (gn (1024 * p0 + w)) (gn (1024 * q0 + w))
def mvH (gn : Nat → Int32) (tb : Nat → Nat → Bool) (tr p0 q0 : Nat) : Nat → Int32 := fun w => gn (1024 * (if tb tr w then p0 else q0) + w)
def mvB (q : Nat → Bool) : Nat → Int32 := fun w => nb (q w)
def myJ (tb : Nat → Nat → Bool) (kd p0 q0 : Nat) : Nat → Bool := fun w => nj kd (tb p0 w) (tb q0 w)
theorem nqT_t {fn : Nat → Int32} {sl : Nat} (h : nAll (nqZ fn sl) 1024 = false) : nqT fn sl = true := by unfold nqT; rw [h]; rfl
theorem nqT_f {fn : Nat → Int32} {sl : Nat} (h : nAll (nqZ fn sl) 1024 = true) : nqT fn sl = false := by unfold nqT; rw [h]; rfl
end
section
/-! ===== the one world of all methods: x (3 cells), m (4 cells), the law's long[1] ===== -/
abbrev nW (a : Nat → Nat) (k : Nat → ClassId) (fn ft gn gt gm : Nat → Int32) (fl : Int32) (o : Nat → Int64) : va_W := [(a 0, .inr (0, [.ref (a 1), .ref (a 2)])), (a 1, .inl (k 0, 8192, .inl fn)), (a 2, .inl (k 1, 1024, .inl ft)), (a 3, .inr (1, [.int fl, .ref (a 4), .ref (a 5), .ref (a 6)])), (a 4, .inl (k 2, 8192, .inl gn)), (a 5, .inl (k 3, 8192, .inl gt)), (a 6, .inl (k 4, 1024, .inl gm)), (a 7, .inl (k 5, 1, .inr (.inl o)))]
abbrev nT (k : Nat → ClassId) : List (ClassId × FieldType) := [(k 0, .short), (k 1, .int), (k 2, .int), (k 3, .boolean), (k 4, .int), (k 5, .long)]
/-- the eight addresses are apart -/
def nInj (a : Nat → Nat) : Prop := ∀ i j : Nat, i < 8 → j < 8 → a i = a j → i = j
/-- the cells of the world -/
def nA0 (a : Nat → Nat) : Nat → Prop := fun q => ∃ i : Nat, i < 8 ∧ q = a i
theorem nW_at {a : Nat → Nat} {k : Nat → ClassId} {fn ft gn gt gm : Nat → Int32} {fl : Int32} {o : Nat → Int64} : ∀ (i : Nat) (q : Nat × va_E), (nW a k fn ft gn gt gm fl o)[i]? = some q → i < 8 ∧ q.1 = a i
  | 0, _, h => by cases h; exact ⟨by decide, rfl⟩
  | 1, _, h => by cases h; exact ⟨by decide, rfl⟩
  | 2, _, h => by cases h; exact ⟨by decide, rfl⟩
  | 3, _, h => by cases h; exact ⟨by decide, rfl⟩
  | 4, _, h => by cases h; exact ⟨by decide, rfl⟩
  | 5, _, h => by cases h; exact ⟨by decide, rfl⟩
  | 6, _, h => by cases h; exact ⟨by decide, rfl⟩
  | 7, _, h => by cases h; exact ⟨by decide, rfl⟩
  | n + 8, _, h => by simp [nW] at h
theorem nDof {A : Nat → Prop} {a : Nat → Nat} (hinj : nInj a) (hA : ∀ i : Nat, i < 8 → A (a i)) {k : Nat → ClassId} {fn ft gn gt gm : Nat → Int32} {fl : Int32} {o : Nat → Int64} : va_D A (nW a k fn ft gn gt gm fl o) := by
  refine ⟨fun i j p q hp hq hpq => ?_, fun i q hq => ?_⟩
  · obtain ⟨h1, h2⟩ := nW_at i p hp
    obtain ⟨h3, h4⟩ := nW_at j q hq
    exact hinj i j h1 h3 (by rw [← h2, ← h4]; exact hpq)
  · obtain ⟨h1, h2⟩ := nW_at i q hq
    rw [h2]
    exact hA i h1
theorem nDA {a : Nat → Nat} (hinj : nInj a) {k : Nat → ClassId} {fn ft gn gt gm : Nat → Int32} {fl : Int32} {o : Nat → Int64} : va_D (nA0 a) (nW a k fn ft gn gt gm fl o) := nDof hinj (fun i hi => ⟨i, hi, rfl⟩)
/-- the world, and the tables' words of it -/
abbrev nPw (dC : Nat → ClassId) (dI : Nat → Nat → Nat) (a : Nat → Nat) (k : Nat → ClassId) (fn ft gn gt gm : Nat → Int32) (fl : Int32) (o : Nat → Int64) (U : State) : Prop := va_P (dC, dI) vwCl (nW a k fn ft gn gt gm fl o) U.heap ∧ va_K (dC, dI) vwCl (nT k) U
theorem nBl {D : va_G} {cl : List vw_C} {ws : va_W} {tys : List (ClassId × FieldType)} {av : List Value} : FrameBlind (va_Pc av (fun U => va_P D cl ws U.heap ∧ va_K D cl tys U)) := fun a U g mk q => ⟨q.1, q.2.1, va_K.moved (u := U) (U := U.calling g mk a) (Vm.Alike.refl U.vm) q.2.2⟩
theorem nPre {s : State} {H : Heap} {D : va_G} {cl : List vw_C} {ws : va_W} {tys : List (ClassId × FieldType)} {av : List Value} (hP : va_P D cl ws H) (hK : va_K D cl tys s) : PreS s H (va_Pc av (fun U => va_P D cl ws U.heap ∧ va_K D cl tys U)) av := ⟨nBl, fun U hU hW => ⟨rfl, by rw [hU]; exact hP, va_K.moved hW.alike hK⟩⟩
theorem nPreV {s : State} {H : Heap} {D : va_G} {cl : List vw_C} {ws : va_W} {tys : List (ClassId × FieldType)} {C : String} {b : Addr} {av : List Value} (hP : va_P D cl ws H) (hK : va_K D cl tys s) (hc : ∃ cellB : Cell, H[b]? = some cellB ∧ cellB.vm.isStatics = false ∧ s.vm.findClass C = some cellB.cls) : PreV s H C b (va_Pc (.ref b :: av) (fun U => va_P D cl ws U.heap ∧ va_K D cl tys U)) av := ⟨nBl, hc, fun U hU hW => ⟨rfl, by rw [hU]; exact hP, va_K.moved hW.alike hK⟩⟩
/-- a method's end: void, an int -/
abbrev nQv (B : State → Prop) (a : Nat → Nat) : Array Value → State → Outcome → State → Prop := va_Qv (fun _ : Unit => True) (fun _ => B) (nA0 a)
abbrev nQi (v : Int32) (B : State → Prop) (a : Nat → Nat) : Array Value → State → Outcome → State → Prop := va_Qi (fun r (_ : Unit) => r = v) (fun _ => B) (nA0 a)
/-- a loop that counts up to N: what holds at its head holds there again, one further -/
theorem nc_loop {p : Program} {l : Launch} {e : Env} {R : Room} {s : State} {m : MethodId} {args : Array Value} {below : List Frame} {meth : Method} {c : Code} {H0 : Heap} {locs0 : List Loc} {cells slots : Nat} {Q : State → Prop} {pc : Nat} {ls0 : Array Slot} (N : Nat) (I : Nat → Heap → List Loc → Array Slot → Prop) (h0 : I 0 H0 locs0 ls0)
    (step : ∀ (w : Nat) (H : Heap) (locs : List Loc) (ls : Array Slot), w ≤ N → I w H locs ls → (w < N → ∀ (H1 : Heap) (locs1 : List Loc) (ls1 : Array Slot), I (w + 1) H1 locs1 ls1 → W p l e R s m args below meth c H1 locs1 cells slots Q (F0 m pc ls1 [])) → W p l e R s m args below meth c H locs cells slots Q (F0 m pc ls [])) :
    W p l e R s m args below meth c H0 locs0 cells slots Q (F0 m pc ls0 []) := by
  have hh : ∀ (n w : Nat), w + n = N → ∀ (H : Heap) (locs : List Loc) (ls : Array Slot), I w H locs ls → W p l e R s m args below meth c H locs cells slots Q (F0 m pc ls []) := by
    intro n
    induction n with
    | zero => intro w hw H locs ls hI; exact step w H locs ls (by omega) hI (fun h => absurd h (by omega))
    | succ n ih => intro w hw H locs ls hI; exact step w H locs ls (by omega) hI (fun _ H1 locs1 ls1 h1 => ih (w + 1) (by omega) H1 locs1 ls1 h1)
  exact hh N 0 (by omega) H0 locs0 ls0 h0
theorem nHi {w N : Nat} (hN : N < 2 ^ 31) (hw : w ≤ N) (c : nI N ≤ nI w) : w = N := by
  have := (nI_leI hN (by omega)).mp c
  omega
theorem nLo {w N : Nat} (hN : N < 2 ^ 31) (hw : w ≤ N) (c : ¬ nI N ≤ nI w) : w < N := by
  rcases Nat.lt_or_ge w N with q | q
  · exact q
  · exact absurd (nI_le q (by omega)) c
end
section
theorem inX0_constant : ∀ w ∈ wsX00, w ∈ wsX0_constant := by decide +kernel
theorem inX0_unknown : ∀ w ∈ wsX00, w ∈ wsX0_unknown := by decide +kernel
theorem inX0_reckon : ∀ w ∈ wsX00, w ∈ wsX0_reckon := by decide +kernel
theorem inX0_compare : ∀ w ∈ wsX00, w ∈ wsX0_compare := by decide +kernel
theorem inX0_choose : ∀ w ∈ wsX00, w ∈ wsX0_choose := by decide +kernel
theorem inX0_join : ∀ w ∈ wsX00, w ∈ wsX0_join := by decide +kernel
theorem inX0_value : ∀ w ∈ wsX00, w ∈ wsX0_value := by decide +kernel
theorem inX0_way : ∀ w ∈ wsX00, w ∈ wsX0_way := by decide +kernel
theorem inX0_same : ∀ w ∈ wsX00, w ∈ wsX0_same := by decide +kernel
theorem inX0_tidy : ∀ w ∈ wsX00, w ∈ wsX0_tidy := by decide +kernel
theorem inX0_isYes : ∀ w ∈ wsX00, w ∈ wsX0_isYes := by decide +kernel
theorem inX0_setTruth : ∀ w ∈ wsX00, w ∈ wsX0_setTruth := by decide +kernel
theorem inX0_isZeroEverywhere : ∀ w ∈ wsX00, w ∈ wsX0_isZeroEverywhere := by decide +kernel
set_option maxHeartbeats 4000000 in
set_option maxRecDepth 100000 in
theorem c_place (l : Launch) (x y : Nat) : Met l yX0_place wsX0_place ({ frames := 0, cells := 0, slots := 0, locals := 0 }) (va_Pc [.int (nI x), .int (nI y)] (fun _ => True)) (vp_Si (fun r => r = nI (1024 * x + y))) 0 0 (fun _ => False) := by
  refine Met.ofW (cc := cX0_place) (maxL := 2) (ret := (some .int)) (by decide) rfl ?_
  intro p e s m args below meth c s₁ B hml hv
  obtain ⟨rfl, -⟩ := hv
  have hx := B.exec
  have hb := B.bytes
  have hr := B.returns
  have hts := atoms_spec (ws := wsX0_place) B.pre
  have hown : s.vm.findClass RX0 = some m.cls := findClass_of_methodNamed B.named
  have hlocks := B.notSynchronized
  have hl := lv_entry ([.int (nI x), .int (nI y)]) (n := 2) (Nat.le_of_ble_eq_true rfl)
  rw [lg_entry_eq]
  generalize (lg_sl ([.int (nI x), .int (nI y)]) ++ List.replicate (2 - (lg_sl ([.int (nI x), .int (nI y)])).length) Slot.unset).toArray = ls at hl ⊢
  have hl : lv_has ls 2 [(0, .int (nI x)), (1, .int (nI y))] := hl
  refine lv_iload_n hx hb dX0_place_0 rfl (lv_at hl 0 rfl) ?_
  refine lv_sipush (v := nI 1024) hx hb dX0_place_1 (by decide +kernel) ?_
  refine lv_imul hx hb dX0_place_4 ?_
  refine lv_iload_n hx hb dX0_place_5 rfl (lv_at hl 1 rfl) ?_
  refine lv_iadd hx hb dX0_place_6 ?_
  exact W.iret hx hb hr (fun t ht hW => ⟨_, rfl, (by rw [pk_mul, nI_add, Nat.mul_comm]), ht⟩) (fun _ h => absurd h List.not_mem_nil) dX0_place_7
set_option maxHeartbeats 4000000 in
set_option maxRecDepth 100000 in
theorem c_needUpTo (l : Launch) (x y : Nat) (hxy : x ≤ y) (hy : y < 2 ^ 31) : Met l yX0_needUpTo wsX0_needUpTo ({ frames := 0, cells := 0, slots := 0, locals := 0 }) (va_Pc [.int (nI x), .int (nI y)] (fun _ => True)) (va_Sv (fun _ => True)) 0 0 (fun _ => False) := by
  refine Met.ofW (cc := cX0_needUpTo) (maxL := 2) (ret := none) (by decide) rfl ?_
  intro p e s m args below meth c s₁ B hml hv
  obtain ⟨rfl, -⟩ := hv
  have hx := B.exec
  have hb := B.bytes
  have hr := B.returns
  have hts := atoms_spec (ws := wsX0_needUpTo) B.pre
  have hown : s.vm.findClass RX0 = some m.cls := findClass_of_methodNamed B.named
  have hlocks := B.notSynchronized
  have hl := lv_entry ([.int (nI x), .int (nI y)]) (n := 2) (Nat.le_of_ble_eq_true rfl)
  rw [lg_entry_eq]
  generalize (lg_sl ([.int (nI x), .int (nI y)]) ++ List.replicate (2 - (lg_sl ([.int (nI x), .int (nI y)])).length) Slot.unset).toArray = ls at hl ⊢
  have hl : lv_has ls 2 [(0, .int (nI x)), (1, .int (nI y))] := hl
  refine lv_iload_n hx hb dX0_needUpTo_0 rfl (lv_at hl 0 rfl) ?_
  refine lv_if_lt (tgt := 9) hx hb dX0_needUpTo_1 (by decide) (fun c1 => ?_) (fun c1 => ?_)
  · exact absurd c1 (nI_pos (by omega))
  · refine lv_iload_n hx hb dX0_needUpTo_4 rfl (lv_at hl 0 rfl) ?_
    refine lv_iload_n hx hb dX0_needUpTo_5 rfl (lv_at hl 1 rfl) ?_
    refine lv_icmp_le (tgt := 19) hx hb dX0_needUpTo_6 (by decide) (fun c2 => ?_) (fun c2 => ?_)
    · exact W.vret hx hb hr (fun t ht hW => ⟨rfl, trivial, ht⟩) (fun _ h => absurd h List.not_mem_nil) dX0_needUpTo_19
    · exact absurd (nI_le hxy hy) c2
set_option maxHeartbeats 4000000 in
set_option maxRecDepth 100000 in
theorem c_reckoned (l : Launch) (kd : Nat) (x y : Int32) (hkd : kd < 6) : Met l yX0_reckoned wsX0_reckoned ({ frames := 0, cells := 0, slots := 0, locals := 0 }) (va_Pc [.int (nI kd), .int x, .int y] (fun _ => True)) (vp_Si (fun r => r = nR kd x y)) 0 0 (fun _ => False) := by
  refine Met.ofW (cc := cX0_reckoned) (maxL := 3) (ret := (some .int)) (by decide) rfl ?_
  intro p e s m args below meth c s₁ B hml hv
  obtain ⟨rfl, -⟩ := hv
  have hx := B.exec
  have hb := B.bytes
  have hr := B.returns
  have hts := atoms_spec (ws := wsX0_reckoned) B.pre
  have hown : s.vm.findClass RX0 = some m.cls := findClass_of_methodNamed B.named
  have hlocks := B.notSynchronized
  have hl := lv_entry ([.int (nI kd), .int x, .int y]) (n := 3) (Nat.le_of_ble_eq_true rfl)
  rw [lg_entry_eq]
  generalize (lg_sl ([.int (nI kd), .int x, .int y]) ++ List.replicate (3 - (lg_sl ([.int (nI kd), .int x, .int y])).length) Slot.unset).toArray = ls at hl ⊢
  have hl : lv_has ls 3 [(0, .int (nI kd)), (1, .int x), (2, .int y)] := hl
  refine lv_iload_n hx hb dX0_reckoned_0 rfl (lv_at hl 0 rfl) ?_
  rcases (show kd = 0 ∨ kd = 1 ∨ kd = 2 ∨ kd = 3 ∨ kd = 4 ∨ kd = 5 by omega) with rfl | rfl | rfl | rfl | rfl | rfl
  · refine lv_tableIn (off := 35) (tgt := 36) hx hb dX0_reckoned_1 (by decide +kernel) (by decide +kernel) (by decide +kernel) (by decide) ?_
    refine lv_iload_n hx hb dX0_reckoned_36 rfl (lv_at hl 1 rfl) ?_
    refine lv_iload_n hx hb dX0_reckoned_37 rfl (lv_at hl 2 rfl) ?_
    refine lv_iadd hx hb dX0_reckoned_38 ?_
    exact W.iret hx hb hr (fun t ht hW => ⟨_, rfl, rfl, ht⟩) (fun _ h => absurd h List.not_mem_nil) dX0_reckoned_39
  · refine lv_tableIn (off := 39) (tgt := 40) hx hb dX0_reckoned_1 (by decide +kernel) (by decide +kernel) (by decide +kernel) (by decide) ?_
    refine lv_iload_n hx hb dX0_reckoned_40 rfl (lv_at hl 1 rfl) ?_
    refine lv_iload_n hx hb dX0_reckoned_41 rfl (lv_at hl 2 rfl) ?_
    refine lv_isub hx hb dX0_reckoned_42 ?_
    exact W.iret hx hb hr (fun t ht hW => ⟨_, rfl, rfl, ht⟩) (fun _ h => absurd h List.not_mem_nil) dX0_reckoned_43
  · refine lv_tableIn (off := 43) (tgt := 44) hx hb dX0_reckoned_1 (by decide +kernel) (by decide +kernel) (by decide +kernel) (by decide) ?_
    refine lv_iload_n hx hb dX0_reckoned_44 rfl (lv_at hl 1 rfl) ?_
    refine lv_iload_n hx hb dX0_reckoned_45 rfl (lv_at hl 2 rfl) ?_
    refine lv_imul hx hb dX0_reckoned_46 ?_
    exact W.iret hx hb hr (fun t ht hW => ⟨_, rfl, rfl, ht⟩) (fun _ h => absurd h List.not_mem_nil) dX0_reckoned_47
  · refine lv_tableIn (off := 47) (tgt := 48) hx hb dX0_reckoned_1 (by decide +kernel) (by decide +kernel) (by decide +kernel) (by decide) ?_
    refine lv_iload_n hx hb dX0_reckoned_48 rfl (lv_at hl 2 rfl) ?_
    refine lv_if_ne (tgt := 56) hx hb dX0_reckoned_49 (by decide) (fun cz => ?_) (fun cz => ?_)
    · refine lv_iload_n hx hb dX0_reckoned_56 rfl (lv_at hl 1 rfl) ?_
      refine lv_iload_n hx hb dX0_reckoned_57 rfl (lv_at hl 2 rfl) ?_
      refine lv_idiv hx hb dX0_reckoned_58 cz ?_
      exact W.iret hx hb hr (fun t ht hW => ⟨_, rfl, (if_neg cz).symm, ht⟩) (fun _ h => absurd h List.not_mem_nil) dX0_reckoned_59
    · refine lv_iconst (v := nI 0) hx hb dX0_reckoned_52 (by decide +kernel) ?_
      refine lv_goto (tgt := 59) hx hb dX0_reckoned_53 (by decide) ?_
      exact W.iret hx hb hr (fun t ht hW => ⟨_, rfl, (if_pos cz).symm, ht⟩) (fun _ h => absurd h List.not_mem_nil) dX0_reckoned_59
  · refine lv_tableIn (off := 59) (tgt := 60) hx hb dX0_reckoned_1 (by decide +kernel) (by decide +kernel) (by decide +kernel) (by decide) ?_
    refine lv_iload_n hx hb dX0_reckoned_60 rfl (lv_at hl 2 rfl) ?_
    refine lv_if_ne (tgt := 68) hx hb dX0_reckoned_61 (by decide) (fun cz => ?_) (fun cz => ?_)
    · refine lv_iload_n hx hb dX0_reckoned_68 rfl (lv_at hl 1 rfl) ?_
      refine lv_iload_n hx hb dX0_reckoned_69 rfl (lv_at hl 2 rfl) ?_
      refine lv_irem hx hb dX0_reckoned_70 cz ?_
      exact W.iret hx hb hr (fun t ht hW => ⟨_, rfl, (if_neg cz).symm, ht⟩) (fun _ h => absurd h List.not_mem_nil) dX0_reckoned_71
    · refine lv_iconst (v := nI 0) hx hb dX0_reckoned_64 (by decide +kernel) ?_
      refine lv_goto (tgt := 71) hx hb dX0_reckoned_65 (by decide) ?_
      exact W.iret hx hb hr (fun t ht hW => ⟨_, rfl, (if_pos cz).symm, ht⟩) (fun _ h => absurd h List.not_mem_nil) dX0_reckoned_71
  · refine lv_tableOut (tgt := 72) hx hb dX0_reckoned_1 (by decide +kernel) (by decide) ?_
    refine lv_iload_n hx hb dX0_reckoned_72 rfl (lv_at hl 2 rfl) ?_
    refine lv_ineg hx hb dX0_reckoned_73 ?_
    exact W.iret hx hb hr (fun t ht hW => ⟨_, rfl, rfl, ht⟩) (fun _ h => absurd h List.not_mem_nil) dX0_reckoned_74
theorem nc0f {x y : Int32} (h : ¬ x = y) : nI 0 = nb (nc 0 x y) := by rw [show nc 0 x y = false from decide_eq_false h]; rfl
theorem nc0t {x y : Int32} (h : x = y) : nI 1 = nb (nc 0 x y) := by rw [show nc 0 x y = true from decide_eq_true h]; rfl
theorem nc1f {x y : Int32} (h : x = y) : nI 0 = nb (nc 1 x y) := by rw [show nc 1 x y = !decide (x = y) from rfl, decide_eq_true h]; rfl
theorem nc1t {x y : Int32} (h : ¬ x = y) : nI 1 = nb (nc 1 x y) := by rw [show nc 1 x y = !decide (x = y) from rfl, decide_eq_false h]; rfl
theorem nc2f {x y : Int32} (h : y ≤ x) : nI 0 = nb (nc 2 x y) := by rw [show nc 2 x y = false from decide_eq_false (Int32.not_lt.mpr h)]; rfl
theorem nc2t {x y : Int32} (h : ¬ y ≤ x) : nI 1 = nb (nc 2 x y) := by rw [show nc 2 x y = true from decide_eq_true (Int32.not_le.mp h)]; rfl
theorem nc3f {x y : Int32} (h : y < x) : nI 0 = nb (nc 3 x y) := by rw [show nc 3 x y = false from decide_eq_false (Int32.not_le.mpr h)]; rfl
theorem nc3t {x y : Int32} (h : ¬ y < x) : nI 1 = nb (nc 3 x y) := by rw [show nc 3 x y = true from decide_eq_true (Int32.not_lt.mp h)]; rfl
set_option maxHeartbeats 4000000 in
set_option maxRecDepth 100000 in
theorem c_compared (l : Launch) (kd : Nat) (x y : Int32) (hkd : kd < 4) : Met l yX0_compared wsX0_compared ({ frames := 0, cells := 0, slots := 0, locals := 0 }) (va_Pc [.int (nI kd), .int x, .int y] (fun _ => True)) (vp_Si (fun r => r = nb (nc kd x y))) 0 0 (fun _ => False) := by
  refine Met.ofW (cc := cX0_compared) (maxL := 3) (ret := (some .boolean)) (by decide) rfl ?_
  intro p e s m args below meth c s₁ B hml hv
  obtain ⟨rfl, -⟩ := hv
  have hx := B.exec
  have hb := B.bytes
  have hr := B.returns
  have hts := atoms_spec (ws := wsX0_compared) B.pre
  have hown : s.vm.findClass RX0 = some m.cls := findClass_of_methodNamed B.named
  have hlocks := B.notSynchronized
  have hl := lv_entry ([.int (nI kd), .int x, .int y]) (n := 3) (Nat.le_of_ble_eq_true rfl)
  rw [lg_entry_eq]
  generalize (lg_sl ([.int (nI kd), .int x, .int y]) ++ List.replicate (3 - (lg_sl ([.int (nI kd), .int x, .int y])).length) Slot.unset).toArray = ls at hl ⊢
  have hl : lv_has ls 3 [(0, .int (nI kd)), (1, .int x), (2, .int y)] := hl
  refine lv_iload_n hx hb dX0_compared_0 rfl (lv_at hl 0 rfl) ?_
  rcases (show kd = 0 ∨ kd = 1 ∨ kd = 2 ∨ kd = 3 by omega) with rfl | rfl | rfl | rfl
  · refine lv_tableIn (off := 27) (tgt := 28) hx hb dX0_compared_1 (by decide +kernel) (by decide +kernel) (by decide +kernel) (by decide) ?_
    refine lv_iload_n hx hb dX0_compared_28 rfl (lv_at hl 1 rfl) ?_
    refine lv_iload_n hx hb dX0_compared_29 rfl (lv_at hl 2 rfl) ?_
    refine lv_icmp_ne (tgt := 37) hx hb dX0_compared_30 (by decide) (fun cz => ?_) (fun cz => ?_)
    · refine lv_iconst (v := nI 0) hx hb dX0_compared_37 (by decide +kernel) ?_
      exact W.zret hx hb hr (by decide +kernel) (fun t ht hW => ⟨_, rfl, (nc0f cz), ht⟩) (fun _ h => absurd h List.not_mem_nil) dX0_compared_38
    · refine lv_iconst (v := nI 1) hx hb dX0_compared_33 (by decide +kernel) ?_
      refine lv_goto (tgt := 38) hx hb dX0_compared_34 (by decide) ?_
      exact W.zret hx hb hr (by decide +kernel) (fun t ht hW => ⟨_, rfl, (nc0t cz), ht⟩) (fun _ h => absurd h List.not_mem_nil) dX0_compared_38
  · refine lv_tableIn (off := 38) (tgt := 39) hx hb dX0_compared_1 (by decide +kernel) (by decide +kernel) (by decide +kernel) (by decide) ?_
    refine lv_iload_n hx hb dX0_compared_39 rfl (lv_at hl 1 rfl) ?_
    refine lv_iload_n hx hb dX0_compared_40 rfl (lv_at hl 2 rfl) ?_
    refine lv_icmp_eq (tgt := 48) hx hb dX0_compared_41 (by decide) (fun cz => ?_) (fun cz => ?_)
    · refine lv_iconst (v := nI 0) hx hb dX0_compared_48 (by decide +kernel) ?_
      exact W.zret hx hb hr (by decide +kernel) (fun t ht hW => ⟨_, rfl, (nc1f cz), ht⟩) (fun _ h => absurd h List.not_mem_nil) dX0_compared_49
    · refine lv_iconst (v := nI 1) hx hb dX0_compared_44 (by decide +kernel) ?_
      refine lv_goto (tgt := 49) hx hb dX0_compared_45 (by decide) ?_
      exact W.zret hx hb hr (by decide +kernel) (fun t ht hW => ⟨_, rfl, (nc1t cz), ht⟩) (fun _ h => absurd h List.not_mem_nil) dX0_compared_49
  · refine lv_tableIn (off := 49) (tgt := 50) hx hb dX0_compared_1 (by decide +kernel) (by decide +kernel) (by decide +kernel) (by decide) ?_
    refine lv_iload_n hx hb dX0_compared_50 rfl (lv_at hl 1 rfl) ?_
    refine lv_iload_n hx hb dX0_compared_51 rfl (lv_at hl 2 rfl) ?_
    refine lv_icmp_ge (tgt := 59) hx hb dX0_compared_52 (by decide) (fun cz => ?_) (fun cz => ?_)
    · refine lv_iconst (v := nI 0) hx hb dX0_compared_59 (by decide +kernel) ?_
      exact W.zret hx hb hr (by decide +kernel) (fun t ht hW => ⟨_, rfl, (nc2f cz), ht⟩) (fun _ h => absurd h List.not_mem_nil) dX0_compared_60
    · refine lv_iconst (v := nI 1) hx hb dX0_compared_55 (by decide +kernel) ?_
      refine lv_goto (tgt := 60) hx hb dX0_compared_56 (by decide) ?_
      exact W.zret hx hb hr (by decide +kernel) (fun t ht hW => ⟨_, rfl, (nc2t cz), ht⟩) (fun _ h => absurd h List.not_mem_nil) dX0_compared_60
  · refine lv_tableOut (tgt := 61) hx hb dX0_compared_1 (by decide +kernel) (by decide) ?_
    refine lv_iload_n hx hb dX0_compared_61 rfl (lv_at hl 1 rfl) ?_
    refine lv_iload_n hx hb dX0_compared_62 rfl (lv_at hl 2 rfl) ?_
    refine lv_icmp_gt (tgt := 70) hx hb dX0_compared_63 (by decide) (fun cz => ?_) (fun cz => ?_)
    · refine lv_iconst (v := nI 0) hx hb dX0_compared_70 (by decide +kernel) ?_
      exact W.zret hx hb hr (by decide +kernel) (fun t ht hW => ⟨_, rfl, (nc3f cz), ht⟩) (fun _ h => absurd h List.not_mem_nil) dX0_compared_71
    · refine lv_iconst (v := nI 1) hx hb dX0_compared_66 (by decide +kernel) ?_
      refine lv_goto (tgt := 71) hx hb dX0_compared_67 (by decide) ?_
      exact W.zret hx hb hr (by decide +kernel) (fun t ht hW => ⟨_, rfl, (nc3t cz), ht⟩) (fun _ h => absurd h List.not_mem_nil) dX0_compared_71
set_option maxHeartbeats 4000000 in
set_option maxRecDepth 100000 in
theorem c_joined (l : Launch) (kd : Nat) (x y : Bool) (hkd : kd < 4) : Met l yX0_joined wsX0_joined ({ frames := 0, cells := 0, slots := 0, locals := 0 }) (va_Pc [.int (nI kd), .int (nb x), .int (nb y)] (fun _ => True)) (vp_Si (fun r => r = nb (nj kd x y))) 0 0 (fun _ => False) := by
  refine Met.ofW (cc := cX0_joined) (maxL := 3) (ret := (some .boolean)) (by decide) rfl ?_
  intro p e s m args below meth c s₁ B hml hv
  obtain ⟨rfl, -⟩ := hv
  have hx := B.exec
  have hb := B.bytes
  have hr := B.returns
  have hts := atoms_spec (ws := wsX0_joined) B.pre
  have hown : s.vm.findClass RX0 = some m.cls := findClass_of_methodNamed B.named
  have hlocks := B.notSynchronized
  have hl := lv_entry ([.int (nI kd), .int (nb x), .int (nb y)]) (n := 3) (Nat.le_of_ble_eq_true rfl)
  rw [lg_entry_eq]
  generalize (lg_sl ([.int (nI kd), .int (nb x), .int (nb y)]) ++ List.replicate (3 - (lg_sl ([.int (nI kd), .int (nb x), .int (nb y)])).length) Slot.unset).toArray = ls at hl ⊢
  have hl : lv_has ls 3 [(0, .int (nI kd)), (1, .int (nb x)), (2, .int (nb y))] := hl
  refine lv_iload_n hx hb dX0_joined_0 rfl (lv_at hl 0 rfl) ?_
  rcases (show kd = 0 ∨ kd = 1 ∨ kd = 2 ∨ kd = 3 by omega) with rfl | rfl | rfl | rfl
  · refine lv_tableIn (off := 27) (tgt := 28) hx hb dX0_joined_1 (by decide +kernel) (by decide +kernel) (by decide +kernel) (by decide) ?_
    refine lv_iload_n hx hb dX0_joined_28 rfl (lv_at hl 1 rfl) ?_
    refine lv_if_eq (tgt := 40) hx hb dX0_joined_29 (by decide) (fun c0 => ?_) (fun c0 => ?_)
    · refine lv_iconst (v := nI 0) hx hb dX0_joined_40 (by decide +kernel) ?_
      exact W.zret hx hb hr (by decide +kernel) (fun t ht hW => ⟨_, rfl, (by revert c0; cases x <;> cases y <;> decide +kernel), ht⟩) (fun _ h => absurd h List.not_mem_nil) dX0_joined_41
    · refine lv_iload_n hx hb dX0_joined_32 rfl (lv_at hl 2 rfl) ?_
      refine lv_if_eq (tgt := 40) hx hb dX0_joined_33 (by decide) (fun c1 => ?_) (fun c1 => ?_)
      · refine lv_iconst (v := nI 0) hx hb dX0_joined_40 (by decide +kernel) ?_
        exact W.zret hx hb hr (by decide +kernel) (fun t ht hW => ⟨_, rfl, (by revert c0; revert c1; cases x <;> cases y <;> decide +kernel), ht⟩) (fun _ h => absurd h List.not_mem_nil) dX0_joined_41
      · refine lv_iconst (v := nI 1) hx hb dX0_joined_36 (by decide +kernel) ?_
        refine lv_goto (tgt := 41) hx hb dX0_joined_37 (by decide) ?_
        exact W.zret hx hb hr (by decide +kernel) (fun t ht hW => ⟨_, rfl, (by revert c0; revert c1; cases x <;> cases y <;> decide +kernel), ht⟩) (fun _ h => absurd h List.not_mem_nil) dX0_joined_41
  · refine lv_tableIn (off := 41) (tgt := 42) hx hb dX0_joined_1 (by decide +kernel) (by decide +kernel) (by decide +kernel) (by decide) ?_
    refine lv_iload_n hx hb dX0_joined_42 rfl (lv_at hl 1 rfl) ?_
    refine lv_if_ne (tgt := 50) hx hb dX0_joined_43 (by decide) (fun c0 => ?_) (fun c0 => ?_)
    · refine lv_iconst (v := nI 1) hx hb dX0_joined_50 (by decide +kernel) ?_
      refine lv_goto (tgt := 55) hx hb dX0_joined_51 (by decide) ?_
      exact W.zret hx hb hr (by decide +kernel) (fun t ht hW => ⟨_, rfl, (by revert c0; cases x <;> cases y <;> decide +kernel), ht⟩) (fun _ h => absurd h List.not_mem_nil) dX0_joined_55
    · refine lv_iload_n hx hb dX0_joined_46 rfl (lv_at hl 2 rfl) ?_
      refine lv_if_eq (tgt := 54) hx hb dX0_joined_47 (by decide) (fun c1 => ?_) (fun c1 => ?_)
      · refine lv_iconst (v := nI 0) hx hb dX0_joined_54 (by decide +kernel) ?_
        exact W.zret hx hb hr (by decide +kernel) (fun t ht hW => ⟨_, rfl, (by revert c0; revert c1; cases x <;> cases y <;> decide +kernel), ht⟩) (fun _ h => absurd h List.not_mem_nil) dX0_joined_55
      · refine lv_iconst (v := nI 1) hx hb dX0_joined_50 (by decide +kernel) ?_
        refine lv_goto (tgt := 55) hx hb dX0_joined_51 (by decide) ?_
        exact W.zret hx hb hr (by decide +kernel) (fun t ht hW => ⟨_, rfl, (by revert c0; revert c1; cases x <;> cases y <;> decide +kernel), ht⟩) (fun _ h => absurd h List.not_mem_nil) dX0_joined_55
  · refine lv_tableIn (off := 55) (tgt := 56) hx hb dX0_joined_1 (by decide +kernel) (by decide +kernel) (by decide +kernel) (by decide) ?_
    refine lv_iload_n hx hb dX0_joined_56 rfl (lv_at hl 1 rfl) ?_
    refine lv_iload_n hx hb dX0_joined_57 rfl (lv_at hl 2 rfl) ?_
    refine lv_icmp_eq (tgt := 65) hx hb dX0_joined_58 (by decide) (fun c0 => ?_) (fun c0 => ?_)
    · refine lv_iconst (v := nI 0) hx hb dX0_joined_65 (by decide +kernel) ?_
      exact W.zret hx hb hr (by decide +kernel) (fun t ht hW => ⟨_, rfl, (by revert c0; cases x <;> cases y <;> decide +kernel), ht⟩) (fun _ h => absurd h List.not_mem_nil) dX0_joined_66
    · refine lv_iconst (v := nI 1) hx hb dX0_joined_61 (by decide +kernel) ?_
      refine lv_goto (tgt := 66) hx hb dX0_joined_62 (by decide) ?_
      exact W.zret hx hb hr (by decide +kernel) (fun t ht hW => ⟨_, rfl, (by revert c0; cases x <;> cases y <;> decide +kernel), ht⟩) (fun _ h => absurd h List.not_mem_nil) dX0_joined_66
  · refine lv_tableOut (tgt := 67) hx hb dX0_joined_1 (by decide +kernel) (by decide) ?_
    refine lv_iload_n hx hb dX0_joined_67 rfl (lv_at hl 1 rfl) ?_
    refine lv_if_ne (tgt := 75) hx hb dX0_joined_68 (by decide) (fun c0 => ?_) (fun c0 => ?_)
    · refine lv_iconst (v := nI 0) hx hb dX0_joined_75 (by decide +kernel) ?_
      exact W.zret hx hb hr (by decide +kernel) (fun t ht hW => ⟨_, rfl, (by revert c0; cases x <;> cases y <;> decide +kernel), ht⟩) (fun _ h => absurd h List.not_mem_nil) dX0_joined_76
    · refine lv_iconst (v := nI 1) hx hb dX0_joined_71 (by decide +kernel) ?_
      refine lv_goto (tgt := 76) hx hb dX0_joined_72 (by decide) ?_
      exact W.zret hx hb hr (by decide +kernel) (fun t ht hW => ⟨_, rfl, (by revert c0; cases x <;> cases y <;> decide +kernel), ht⟩) (fun _ h => absurd h List.not_mem_nil) dX0_joined_76
set_option maxHeartbeats 4000000 in
set_option maxRecDepth 100000 in
theorem c_isYes (l : Launch) (dC : Nat → ClassId) (dI : Nat → Nat → Nat) (a : Nat → Nat) (k : Nat → ClassId) (fn ft gn gt gm : Nat → Int32) (fl : Int32) (o : Nat → Int64) (t w : Nat) (htt : t < 8) (hww : w < 1024) : Met l yX0_isYes wsX0_isYes ({ frames := 0, cells := 0, slots := 0, locals := 0 }) (va_Pc [.ref (a 0), .int (nI t), .int (nI w)] (nPw dC dI a k fn ft gn gt gm fl o)) (vp_Si (fun r => r = nb (bt (ft w) t))) 0 0 (fun _ => False) := by
  refine Met.ofW (cc := cX0_isYes) (maxL := 3) (ret := (some .boolean)) (by decide) rfl ?_
  intro p e s m args below meth c s₁ B hml hv
  obtain ⟨rfl, hP, hK⟩ := hv
  have hx := B.exec
  have hb := B.bytes
  have hr := B.returns
  have hts := atoms_spec (ws := wsX0_isYes) B.pre
  have hown : s.vm.findClass RX0 = some m.cls := findClass_of_methodNamed B.named
  have hlocks := B.notSynchronized
  have hl := lv_entry ([.ref (a 0), .int (nI t), .int (nI w)]) (n := 3) (Nat.le_of_ble_eq_true rfl)
  rw [lg_entry_eq]
  generalize (lg_sl ([.ref (a 0), .int (nI t), .int (nI w)]) ++ List.replicate (3 - (lg_sl ([.ref (a 0), .int (nI t), .int (nI w)])).length) Slot.unset).toArray = ls at hl ⊢
  have hl : lv_has ls 3 [(0, .ref (a 0)), (1, .int (nI t)), (2, .int (nI w))] := hl
  refine lv_aload_n hx hb dX0_isYes_0 rfl (lv_at hl 0 rfl) ?_
  refine va_get (D := (dC, dI)) (ci := 0) (v := .ref (a 2)) (C := RX0) (T := TX0) (N := 2) hx hb hts inX0_isYes hown hK hP 0 rfl rfl 1 (by decide) (hts (.fieldLink RX0 13 "NumberCircuits" "truths" "[I") (by decide +kernel)) (fun _ h9 => h9) rfl dX0_isYes_1 ?_
  refine lv_iload_n hx hb dX0_isYes_4 rfl (lv_at hl 2 rfl) ?_
  refine va_iald (i := nI w) hx hb hK hP 2 1 rfl rfl (vp_in_nI (by omega) (by decide)) dX0_isYes_5 ?_
  refine lv_topi (fun x_6_1 ex_6_1 => ?_)
  obtain rfl : x_6_1 = ft w := by rw [ex_6_1]; rw [nI_clamp (show w < 2 ^ 31 by omega)]
  refine lv_iload_n hx hb dX0_isYes_6 rfl (lv_at hl 1 rfl) ?_
  refine lv_ishr hx hb dX0_isYes_7 ?_
  refine lv_iconst (v := nI 1) hx hb dX0_isYes_8 (by decide +kernel) ?_
  refine lv_iand hx hb dX0_isYes_9 ?_
  refine lv_if_eq (tgt := 17) hx hb dX0_isYes_10 (by decide) (fun cz => ?_) (fun cz => ?_)
  · refine lv_iconst (v := nI 0) hx hb dX0_isYes_17 (by decide +kernel) ?_
    exact W.zret hx hb hr (by decide +kernel) (fun t ht hW => ⟨_, rfl, (by rw [nBit_f (by omega) cz]; rfl), ht⟩) (fun _ h => absurd h List.not_mem_nil) dX0_isYes_18
  · refine lv_iconst (v := nI 1) hx hb dX0_isYes_13 (by decide +kernel) ?_
    refine lv_goto (tgt := 18) hx hb dX0_isYes_14 (by decide) ?_
    exact W.zret hx hb hr (by decide +kernel) (fun t ht hW => ⟨_, rfl, (by rw [nBit_t (by omega) cz]; rfl), ht⟩) (fun _ h => absurd h List.not_mem_nil) dX0_isYes_18
set_option maxHeartbeats 4000000 in
set_option maxRecDepth 100000 in
theorem c_setTruth (l : Launch) (dC : Nat → ClassId) (dI : Nat → Nat → Nat) (a : Nat → Nat) (k : Nat → ClassId) (fn ft gn gt gm : Nat → Int32) (fl : Int32) (o : Nat → Int64) (hinj : nInj a) (t w : Nat) (htt : t < 8) (hww : w < 1024) (b : Bool) : Met l yX0_setTruth wsX0_setTruth ({ frames := 0, cells := 0, slots := 0, locals := 0 }) (va_Pc [.ref (a 0), .int (nI t), .int (nI w), .int (nb b)] (nPw dC dI a k fn ft gn gt gm fl o)) (nQv (nPw dC dI a k fn (upd ft (nI w).toNatClampNeg (nS1 (ft w) t b)) gn gt gm fl o) a) 0 0 (nA0 a) := by
  refine Met.ofW (cc := cX0_setTruth) (maxL := 5) (ret := none) (by decide) rfl ?_
  intro p e s m args below meth c s₁ B hml hv
  obtain ⟨rfl, hP, hK⟩ := hv
  have hx := B.exec
  have hb := B.bytes
  have hr := B.returns
  have hts := atoms_spec (ws := wsX0_setTruth) B.pre
  have hown : s.vm.findClass RX0 = some m.cls := findClass_of_methodNamed B.named
  have hlocks := B.notSynchronized
  have hS : va_S (nA0 a) s.heap s.heap [] := va_S.rf
  have hl := lv_entry ([.ref (a 0), .int (nI t), .int (nI w), .int (nb b)]) (n := 5) (Nat.le_of_ble_eq_true rfl)
  rw [lg_entry_eq]
  generalize (lg_sl ([.ref (a 0), .int (nI t), .int (nI w), .int (nb b)]) ++ List.replicate (5 - (lg_sl ([.ref (a 0), .int (nI t), .int (nI w), .int (nb b)])).length) Slot.unset).toArray = ls at hl ⊢
  have hl : lv_has ls 5 [(0, .ref (a 0)), (1, .int (nI t)), (2, .int (nI w)), (3, .int (nb b))] := hl
  refine lv_iconst (v := nI 1) hx hb dX0_setTruth_0 (by decide +kernel) ?_
  refine lv_iload_n hx hb dX0_setTruth_1 rfl (lv_at hl 1 rfl) ?_
  refine lv_ishl hx hb dX0_setTruth_2 ?_
  refine lv_istore (lv' := [(4, .int ((nI 1) <<< ((nI t) &&& 31))), (0, .ref (a 0)), (1, .int (nI t)), (2, .int (nI w)), (3, .int (nb b))]) hx hb dX0_setTruth_3 hl (by decide) rfl (fun ls hl => ?_)
  refine lv_aload_n hx hb dX0_setTruth_5 rfl (lv_at hl 1 rfl) ?_
  refine va_get (D := (dC, dI)) (ci := 0) (v := .ref (a 2)) (C := RX0) (T := TX0) (N := 2) hx hb hts inX0_setTruth hown hK hP 0 rfl rfl 1 (by decide) (hts (.fieldLink RX0 13 "NumberCircuits" "truths" "[I") (by decide +kernel)) (fun _ h9 => h9) rfl dX0_setTruth_6 ?_
  refine lv_iload_n hx hb dX0_setTruth_9 rfl (lv_at hl 3 rfl) ?_
  refine lv_iload_n hx hb dX0_setTruth_10 rfl (lv_at hl 4 rfl) ?_
  refine lv_if_eq (tgt := 26) hx hb dX0_setTruth_11 (by decide) (fun cz => ?_) (fun cz => ?_)
  · refine lv_aload_n hx hb dX0_setTruth_26 rfl (lv_at hl 1 rfl) ?_
    refine va_get (D := (dC, dI)) (ci := 0) (v := .ref (a 2)) (C := RX0) (T := TX0) (N := 2) hx hb hts inX0_setTruth hown hK hP 0 rfl rfl 1 (by decide) (hts (.fieldLink RX0 13 "NumberCircuits" "truths" "[I") (by decide +kernel)) (fun _ h9 => h9) rfl dX0_setTruth_27 ?_
    refine lv_iload_n hx hb dX0_setTruth_30 rfl (lv_at hl 3 rfl) ?_
    refine va_iald (i := nI w) hx hb hK hP 2 1 rfl rfl (vp_in_nI (by omega) (by decide)) dX0_setTruth_31 ?_
    refine lv_topi (fun x_32_1 ex_32_1 => ?_)
    obtain rfl : x_32_1 = ft w := by rw [ex_32_1]; rw [nI_clamp (show w < 2 ^ 31 by omega)]
    refine lv_iload hx hb dX0_setTruth_32 (lv_at hl 0 rfl) ?_
    refine lv_iconst (v := -1) hx hb dX0_setTruth_34 (by decide +kernel) ?_
    refine lv_ixor hx hb dX0_setTruth_35 ?_
    refine lv_iand hx hb dX0_setTruth_36 ?_
    refine va_iast (i := nI w) (x := (ft w) &&& (((nI 1) <<< ((nI t) &&& 31)) ^^^ (-1))) hx hb hK hP (nDA hinj) hS 2 1 rfl rfl (vp_in_nI (by omega) (by decide)) dX0_setTruth_37 (fun H locs hP _ hS => ?_)
    have e_37_2 : upd ft (nI w).toNatClampNeg ((ft w) &&& (((nI 1) <<< ((nI t) &&& 31)) ^^^ (-1))) = upd ft (nI w).toNatClampNeg (nS1 (ft w) t b) := by rw [show nS1 (ft w) t b = (ft w) &&& (((nI 1) <<< ((nI t) &&& 31)) ^^^ (-1)) by rw [nb_f cz]; rfl]
    have hP : va_P (dC, dI) vwCl (nW a k fn (upd ft (nI w).toNatClampNeg (nS1 (ft w) t b)) gn gt gm fl o) H := by rw [← e_37_2]; exact hP
    exact W.vret hx hb hr (fun t ht hW => ⟨⟨(), rfl, trivial, by rw [ht]; exact hP, va_K.moved hW.alike hK⟩, hS.F ht⟩) hS.2.2 dX0_setTruth_38
  · refine lv_aload_n hx hb dX0_setTruth_14 rfl (lv_at hl 1 rfl) ?_
    refine va_get (D := (dC, dI)) (ci := 0) (v := .ref (a 2)) (C := RX0) (T := TX0) (N := 2) hx hb hts inX0_setTruth hown hK hP 0 rfl rfl 1 (by decide) (hts (.fieldLink RX0 13 "NumberCircuits" "truths" "[I") (by decide +kernel)) (fun _ h9 => h9) rfl dX0_setTruth_15 ?_
    refine lv_iload_n hx hb dX0_setTruth_18 rfl (lv_at hl 3 rfl) ?_
    refine va_iald (i := nI w) hx hb hK hP 2 1 rfl rfl (vp_in_nI (by omega) (by decide)) dX0_setTruth_19 ?_
    refine lv_topi (fun x_20_1 ex_20_1 => ?_)
    obtain rfl : x_20_1 = ft w := by rw [ex_20_1]; rw [nI_clamp (show w < 2 ^ 31 by omega)]
    refine lv_iload hx hb dX0_setTruth_20 (lv_at hl 0 rfl) ?_
    refine lv_ior hx hb dX0_setTruth_22 ?_
    refine lv_goto (tgt := 37) hx hb dX0_setTruth_23 (by decide) ?_
    refine va_iast (i := nI w) (x := (ft w) ||| ((nI 1) <<< ((nI t) &&& 31))) hx hb hK hP (nDA hinj) hS 2 1 rfl rfl (vp_in_nI (by omega) (by decide)) dX0_setTruth_37 (fun H locs hP _ hS => ?_)
    have e_37_2 : upd ft (nI w).toNatClampNeg ((ft w) ||| ((nI 1) <<< ((nI t) &&& 31))) = upd ft (nI w).toNatClampNeg (nS1 (ft w) t b) := by rw [show nS1 (ft w) t b = (ft w) ||| ((nI 1) <<< ((nI t) &&& 31)) by rw [nb_t cz]; rfl]
    have hP : va_P (dC, dI) vwCl (nW a k fn (upd ft (nI w).toNatClampNeg (nS1 (ft w) t b)) gn gt gm fl o) H := by rw [← e_37_2]; exact hP
    exact W.vret hx hb hr (fun t ht hW => ⟨⟨(), rfl, trivial, by rw [ht]; exact hP, va_K.moved hW.alike hK⟩, hS.F ht⟩) hS.2.2 dX0_setTruth_38
set_option maxHeartbeats 4000000 in
set_option maxRecDepth 100000 in
theorem c_isZero (l : Launch) (dC : Nat → ClassId) (dI : Nat → Nat → Nat) (a : Nat → Nat) (k : Nat → ClassId) (fn ft gn gt gm : Nat → Int32) (fl : Int32) (o : Nat → Int64) (sl : Nat) (hsl : sl < 8) : Met l yX0_isZeroEverywhere wsX0_isZeroEverywhere ({ frames := 1, cells := 0, slots := 0, locals := 21 }) (va_Pc [.ref (a 0), .int (nI sl)] (nPw dC dI a k fn ft gn gt gm fl o)) (vp_Si (fun r => r = nb (nAll (nqZ fn sl) 1024))) 0 0 (fun _ => False) := by
  refine Met.ofW (cc := cX0_isZeroEverywhere) (maxL := 3) (ret := (some .boolean)) (by decide) rfl ?_
  intro p e s m args below meth c s₁ B hml hv
  obtain ⟨rfl, hP, hK⟩ := hv
  have hx := B.exec
  have hb := B.bytes
  have hr := B.returns
  have hts := atoms_spec (ws := wsX0_isZeroEverywhere) B.pre
  have hown : s.vm.findClass RX0 = some m.cls := findClass_of_methodNamed B.named
  have hlocks := B.notSynchronized
  have hl := lv_entry ([.ref (a 0), .int (nI sl)]) (n := 3) (Nat.le_of_ble_eq_true rfl)
  rw [lg_entry_eq]
  generalize (lg_sl ([.ref (a 0), .int (nI sl)]) ++ List.replicate (3 - (lg_sl ([.ref (a 0), .int (nI sl)])).length) Slot.unset).toArray = ls at hl ⊢
  have hl : lv_has ls 3 [(0, .ref (a 0)), (1, .int (nI sl))] := hl
  refine lv_iconst (v := nI 0) hx hb dX0_isZeroEverywhere_0 (by decide +kernel) ?_
  refine lv_istore_n (lv' := [(2, .int (nI 0)), (0, .ref (a 0)), (1, .int (nI sl))]) hx hb dX0_isZeroEverywhere_1 rfl hl (by decide) rfl (fun ls hl => ?_)
  refine nc_loop 1024 (fun w H locs ls => H = s.heap ∧ locs = [] ∧ (∀ j, j < w → (nqZ fn sl) j = true) ∧ lv_has ls 3 [(0, .ref (a 0)), (1, .int (nI sl)), (2, .int (nI w))]) ⟨rfl, rfl, (fun j hj => absurd hj (by omega)), (lv_sub hl [1, 2, 0] rfl)⟩ ?_
  intro w H locs ls hw hI ih
  obtain ⟨rfl, rfl, hq, hl⟩ := hI
  refine lv_iload_n hx hb dX0_isZeroEverywhere_2 rfl (lv_at hl 2 rfl) ?_
  refine lv_sipush (v := nI 1024) hx hb dX0_isZeroEverywhere_3 (by decide +kernel) ?_
  refine lv_icmp_ge (tgt := 30) hx hb dX0_isZeroEverywhere_6 (by decide) (fun c1 => ?_) (fun c1 => ?_)
  · obtain rfl : w = 1024 := nHi (by decide) hw c1
    refine lv_iconst (v := nI 1) hx hb dX0_isZeroEverywhere_30 (by decide +kernel) ?_
    exact W.zret hx hb hr (by decide +kernel) (fun t ht hW => ⟨_, rfl, (by rw [nAll_t 1024 hq]; rfl), ht⟩) (fun _ h => absurd h List.not_mem_nil) dX0_isZeroEverywhere_31
  · have hlt : w < 1024 := nLo (by decide) hw c1
    refine lv_aload_n hx hb dX0_isZeroEverywhere_9 rfl (lv_at hl 0 rfl) ?_
    refine va_get (D := (dC, dI)) (ci := 0) (v := .ref (a 1)) (C := RX0) (T := TX0) (N := 2) hx hb hts inX0_isZeroEverywhere hown hK hP 0 rfl rfl 0 (by decide) (hts (.fieldLink RX0 9 "NumberCircuits" "numbers" "[S") (by decide +kernel)) (fun _ h9 => h9) rfl dX0_isZeroEverywhere_10 ?_
    refine lv_iload_n hx hb dX0_isZeroEverywhere_13 rfl (lv_at hl 1 rfl) ?_
    refine lv_iload_n hx hb dX0_isZeroEverywhere_14 rfl (lv_at hl 2 rfl) ?_
    refine vp_callSi (W.runS (As := [.int (nI sl), .int (nI w)]) (rest := [.ref (a 1)]) ⟨hx, hb, hml, hown, hts⟩ (c_place l sl w) (va_cwS 2 hts gX0_isZeroEverywhere_X0_place rfl rfl rfl (by decide +kernel) ⟨Nat.le_of_ble_eq_true rfl, Nat.le_of_ble_eq_true rfl⟩) ⟨fun _ _ _ _ q => q, fun U hU hW => ⟨rfl, trivial⟩⟩ rfl rfl hl.1 rfl (lv_room (Nat.le_of_ble_eq_true rfl)) dX0_isZeroEverywhere_15 ⟨Nat.zero_le _, Nat.zero_le _⟩) (fun r_15_1 er_15_1 => ?_)
    subst er_15_1
    refine va_sald (i := nI (1024 * sl + w)) hx hb hK hP 1 0 rfl rfl (vp_in_nI (by omega) (by decide)) dX0_isZeroEverywhere_18 ?_
    refine lv_topi (fun x_19_2 ex_19_2 => ?_)
    obtain rfl : x_19_2 = fn (1024 * sl + w) := by rw [ex_19_2]; rw [nI_clamp (show 1024 * sl + w < 2 ^ 31 by omega)]
    refine lv_if_eq (tgt := 24) hx hb dX0_isZeroEverywhere_19 (by decide) (fun c2 => ?_) (fun c2 => ?_)
    · refine lv_iinc (v := nI (w + 1)) (lv' := [(2, .int (nI (w + 1))), (0, .ref (a 0)), (1, .int (nI sl))]) hx hb dX0_isZeroEverywhere_24 hl (k := 2) rfl (nI_1 w) (by decide) rfl (fun ls hl => ?_)
      refine lv_goto (tgt := 2) hx hb dX0_isZeroEverywhere_27 (by decide) ?_
      exact ih hlt _ _ _ ⟨rfl, rfl, lt_s hq (decide_eq_true c2), (lv_sub hl [1, 2, 0] rfl)⟩
    · refine lv_iconst (v := nI 0) hx hb dX0_isZeroEverywhere_22 (by decide +kernel) ?_
      exact W.zret hx hb hr (by decide +kernel) (fun t ht hW => ⟨_, rfl, (by rw [nAll_f (w := w) (decide_eq_false c2) 1024 hlt]; rfl), ht⟩) (fun _ h => absurd h List.not_mem_nil) dX0_isZeroEverywhere_23
end
section
set_option maxHeartbeats 4000000 in
set_option maxRecDepth 100000 in
theorem c_constant (l : Launch) (dC : Nat → ClassId) (dI : Nat → Nat → Nat) (a : Nat → Nat) (k : Nat → ClassId) (fn ft gn gt gm : Nat → Int32) (fl : Int32) (o : Nat → Int64) (hinj : nInj a) (sl : Nat) (v : Int32) (hsl : sl < 8) : Met l yX0_constant wsX0_constant ({ frames := 2, cells := 0, slots := 0, locals := 64 }) (va_Pc [.ref (a 0), .int (nI sl), .int v] (nPw dC dI a k fn ft gn gt gm fl o)) (nQv (nPw dC dI a k (nF fn (1024 * sl) 1024 (nvK v)) ft gn gt gm fl o) a) 0 0 (nA0 a) := by
  refine Met.ofW (cc := cX0_constant) (maxL := 4) (ret := none) (by decide) rfl ?_
  intro p e s m args below meth c s₁ B hml hv
  obtain ⟨rfl, hP, hK⟩ := hv
  have hx := B.exec
  have hb := B.bytes
  have hr := B.returns
  have hts := atoms_spec (ws := wsX0_constant) B.pre
  have hown : s.vm.findClass RX0 = some m.cls := findClass_of_methodNamed B.named
  have hlocks := B.notSynchronized
  have hS : va_S (nA0 a) s.heap s.heap [] := va_S.rf
  have hl := lv_entry ([.ref (a 0), .int (nI sl), .int v]) (n := 4) (Nat.le_of_ble_eq_true rfl)
  rw [lg_entry_eq]
  generalize (lg_sl ([.ref (a 0), .int (nI sl), .int v]) ++ List.replicate (4 - (lg_sl ([.ref (a 0), .int (nI sl), .int v])).length) Slot.unset).toArray = ls at hl ⊢
  have hl : lv_has ls 4 [(0, .ref (a 0)), (1, .int (nI sl)), (2, .int v)] := hl
  refine lv_iload_n hx hb dX0_constant_0 rfl (lv_at hl 1 rfl) ?_
  refine lv_bipush (v := nI 7) hx hb dX0_constant_1 (by decide +kernel) ?_
  refine va_csv (W.runS (As := [.int (nI sl), .int (nI 7)]) (rest := []) ⟨hx, hb, hml, hown, hts⟩ (c_needUpTo l sl 7 (by omega) (by omega)) (va_cwS 2 hts gX0_constant_X0_needUpTo rfl rfl rfl (by decide +kernel) ⟨Nat.le_of_ble_eq_true rfl, Nat.le_of_ble_eq_true rfl⟩) ⟨fun _ _ _ _ q => q, fun U hU hW => ⟨rfl, trivial⟩⟩ rfl rfl hl.1 rfl (lv_room (Nat.le_of_ble_eq_true rfl)) dX0_constant_3 ⟨Nat.zero_le _, Nat.zero_le _⟩) (fun _ => ?_)
  refine lv_iconst (v := nI 0) hx hb dX0_constant_6 (by decide +kernel) ?_
  refine lv_istore_n (lv' := [(3, .int (nI 0)), (0, .ref (a 0)), (1, .int (nI sl)), (2, .int v)]) hx hb dX0_constant_7 rfl hl (by decide) rfl (fun ls hl => ?_)
  refine nc_loop 1024 (fun w H locs ls => va_P (dC, dI) vwCl (nW a k (nF fn (1024 * sl) w (nvK v)) ft gn gt gm fl o) H ∧ va_S (nA0 a) s.heap H locs ∧ lv_has ls 4 [(3, .int (nI w)), (0, .ref (a 0)), (1, .int (nI sl)), (2, .int v)]) ⟨(by rw [nF_0]; exact hP), hS, (lv_sub hl [0, 1, 2, 3] rfl)⟩ ?_
  intro w H locs ls hw hI ih
  obtain ⟨hP, hS, hl⟩ := hI
  refine lv_iload_n hx hb dX0_constant_8 rfl (lv_at hl 0 rfl) ?_
  refine lv_sipush (v := nI 1024) hx hb dX0_constant_9 (by decide +kernel) ?_
  refine lv_icmp_ge (tgt := 33) hx hb dX0_constant_12 (by decide) (fun c1 => ?_) (fun c1 => ?_)
  · obtain rfl : w = 1024 := nHi (by decide) hw c1
    exact W.vret hx hb hr (fun t ht hW => ⟨⟨(), rfl, trivial, by rw [ht]; exact hP, va_K.moved hW.alike hK⟩, hS.F ht⟩) hS.2.2 dX0_constant_33
  · have hlt : w < 1024 := nLo (by decide) hw c1
    refine lv_aload_n hx hb dX0_constant_15 rfl (lv_at hl 1 rfl) ?_
    refine va_get (D := (dC, dI)) (ci := 0) (v := .ref (a 1)) (C := RX0) (T := TX0) (N := 2) hx hb hts inX0_constant hown hK hP 0 rfl rfl 0 (by decide) (hts (.fieldLink RX0 9 "NumberCircuits" "numbers" "[S") (by decide +kernel)) (fun _ h9 => h9) rfl dX0_constant_16 ?_
    refine lv_iload_n hx hb dX0_constant_19 rfl (lv_at hl 2 rfl) ?_
    refine lv_iload_n hx hb dX0_constant_20 rfl (lv_at hl 0 rfl) ?_
    refine vp_callSi (W.runS (As := [.int (nI sl), .int (nI w)]) (rest := [.ref (a 1)]) ⟨hx, hb, hml, hown, hts⟩ (c_place l sl w) (va_cwS 2 hts gX0_constant_X0_place rfl rfl rfl (by decide +kernel) ⟨Nat.le_of_ble_eq_true rfl, Nat.le_of_ble_eq_true rfl⟩) ⟨fun _ _ _ _ q => q, fun U hU hW => ⟨rfl, trivial⟩⟩ rfl rfl hl.1 rfl (lv_room (Nat.le_of_ble_eq_true rfl)) dX0_constant_21 ⟨Nat.zero_le _, Nat.zero_le _⟩) (fun r_21_1 er_21_1 => ?_)
    subst er_21_1
    refine lv_iload_n hx hb dX0_constant_24 rfl (lv_at hl 3 rfl) ?_
    refine lv_i2s hx hb dX0_constant_25 rfl ?_
    refine va_sast (i := nI (1024 * sl + w)) (x := v.toInt16.toInt32) hx hb hK hP (nDA hinj) hS 1 0 rfl rfl (vp_in_nI (by omega) (by decide)) dX0_constant_26 (fun H locs hP _ hS => ?_)
    have e_26_2 : upd (nF fn (1024 * sl) w (nvK v)) (nI (1024 * sl + w)).toNatClampNeg (vp_nar .short v.toInt16.toInt32) = nF fn (1024 * sl) (w + 1) (nvK v) := nF_up (by omega) rfl
    have hP : va_P (dC, dI) vwCl (nW a k (nF fn (1024 * sl) (w + 1) (nvK v)) ft gn gt gm fl o) H := by rw [← e_26_2]; exact hP
    refine lv_iinc (v := nI (w + 1)) (lv' := [(3, .int (nI (w + 1))), (0, .ref (a 0)), (1, .int (nI sl)), (2, .int v)]) hx hb dX0_constant_27 hl (k := 0) rfl (nI_1 w) (by decide) rfl (fun ls hl => ?_)
    refine lv_goto (tgt := 8) hx hb dX0_constant_30 (by decide) ?_
    exact ih hlt _ _ _ ⟨hP, hS, (lv_sub hl [0, 1, 2, 3] rfl)⟩
set_option maxHeartbeats 4000000 in
set_option maxRecDepth 100000 in
theorem c_unknown (l : Launch) (dC : Nat → ClassId) (dI : Nat → Nat → Nat) (a : Nat → Nat) (k : Nat → ClassId) (fn ft gn gt gm : Nat → Int32) (fl : Int32) (o : Nat → Int64) (hinj : nInj a) (sl fi ct : Nat) (lo : Int32) (hsl : sl < 8) (hfi : fi ≤ 10) (hct : fi + ct ≤ 10) : Met l yX0_unknown wsX0_unknown ({ frames := 2, cells := 0, slots := 0, locals := 64 }) (va_Pc [.ref (a 0), .int (nI sl), .int (nI fi), .int (nI ct), .int lo] (nPw dC dI a k fn ft gn gt gm fl o)) (nQv (nPw dC dI a k (nF fn (1024 * sl) 1024 (nvU fi ct lo)) ft gn gt gm fl o) a) 0 0 (nA0 a) := by
  refine Met.ofW (cc := cX0_unknown) (maxL := 7) (ret := none) (by decide) rfl ?_
  intro p e s m args below meth c s₁ B hml hv
  obtain ⟨rfl, hP, hK⟩ := hv
  have hx := B.exec
  have hb := B.bytes
  have hr := B.returns
  have hts := atoms_spec (ws := wsX0_unknown) B.pre
  have hown : s.vm.findClass RX0 = some m.cls := findClass_of_methodNamed B.named
  have hlocks := B.notSynchronized
  have hS : va_S (nA0 a) s.heap s.heap [] := va_S.rf
  have hl := lv_entry ([.ref (a 0), .int (nI sl), .int (nI fi), .int (nI ct), .int lo]) (n := 7) (Nat.le_of_ble_eq_true rfl)
  rw [lg_entry_eq]
  generalize (lg_sl ([.ref (a 0), .int (nI sl), .int (nI fi), .int (nI ct), .int lo]) ++ List.replicate (7 - (lg_sl ([.ref (a 0), .int (nI sl), .int (nI fi), .int (nI ct), .int lo])).length) Slot.unset).toArray = ls at hl ⊢
  have hl : lv_has ls 7 [(0, .ref (a 0)), (1, .int (nI sl)), (2, .int (nI fi)), (3, .int (nI ct)), (4, .int lo)] := hl
  refine lv_iload_n hx hb dX0_unknown_0 rfl (lv_at hl 1 rfl) ?_
  refine lv_bipush (v := nI 7) hx hb dX0_unknown_1 (by decide +kernel) ?_
  refine va_csv (W.runS (As := [.int (nI sl), .int (nI 7)]) (rest := []) ⟨hx, hb, hml, hown, hts⟩ (c_needUpTo l sl 7 (by omega) (by omega)) (va_cwS 2 hts gX0_unknown_X0_needUpTo rfl rfl rfl (by decide +kernel) ⟨Nat.le_of_ble_eq_true rfl, Nat.le_of_ble_eq_true rfl⟩) ⟨fun _ _ _ _ q => q, fun U hU hW => ⟨rfl, trivial⟩⟩ rfl rfl hl.1 rfl (lv_room (Nat.le_of_ble_eq_true rfl)) dX0_unknown_3 ⟨Nat.zero_le _, Nat.zero_le _⟩) (fun _ => ?_)
  refine lv_iload_n hx hb dX0_unknown_6 rfl (lv_at hl 2 rfl) ?_
  refine lv_bipush (v := nI 10) hx hb dX0_unknown_7 (by decide +kernel) ?_
  refine va_csv (W.runS (As := [.int (nI fi), .int (nI 10)]) (rest := []) ⟨hx, hb, hml, hown, hts⟩ (c_needUpTo l fi 10 (by omega) (by omega)) (va_cwS 2 hts gX0_unknown_X0_needUpTo rfl rfl rfl (by decide +kernel) ⟨Nat.le_of_ble_eq_true rfl, Nat.le_of_ble_eq_true rfl⟩) ⟨fun _ _ _ _ q => q, fun U hU hW => ⟨rfl, trivial⟩⟩ rfl rfl hl.1 rfl (lv_room (Nat.le_of_ble_eq_true rfl)) dX0_unknown_9 ⟨Nat.zero_le _, Nat.zero_le _⟩) (fun _ => ?_)
  refine lv_iload_n hx hb dX0_unknown_12 rfl (lv_at hl 3 rfl) ?_
  refine lv_bipush (v := nI 10) hx hb dX0_unknown_13 (by decide +kernel) ?_
  refine lv_iload_n hx hb dX0_unknown_15 rfl (lv_at hl 2 rfl) ?_
  refine lv_isub hx hb dX0_unknown_16 ?_
  refine lv_topi (fun x_17_1 ex_17_1 => ?_)
  obtain rfl : x_17_1 = nI (10 - fi) := by rw [ex_17_1]; exact pk_sub (by omega)
  refine va_csv (W.runS (As := [.int (nI ct), .int (nI (10 - fi))]) (rest := []) ⟨hx, hb, hml, hown, hts⟩ (c_needUpTo l ct (10 - fi) (by omega) (by omega)) (va_cwS 2 hts gX0_unknown_X0_needUpTo rfl rfl rfl (by decide +kernel) ⟨Nat.le_of_ble_eq_true rfl, Nat.le_of_ble_eq_true rfl⟩) ⟨fun _ _ _ _ q => q, fun U hU hW => ⟨rfl, trivial⟩⟩ rfl rfl hl.1 rfl (lv_room (Nat.le_of_ble_eq_true rfl)) dX0_unknown_17 ⟨Nat.zero_le _, Nat.zero_le _⟩) (fun _ => ?_)
  refine lv_iconst (v := nI 1) hx hb dX0_unknown_20 (by decide +kernel) ?_
  refine lv_iload_n hx hb dX0_unknown_21 rfl (lv_at hl 3 rfl) ?_
  refine lv_ishl hx hb dX0_unknown_22 ?_
  refine lv_iconst (v := nI 1) hx hb dX0_unknown_23 (by decide +kernel) ?_
  refine lv_isub hx hb dX0_unknown_24 ?_
  refine lv_istore (lv' := [(5, .int (((nI 1) <<< ((nI ct) &&& 31)) - (nI 1))), (0, .ref (a 0)), (1, .int (nI sl)), (2, .int (nI fi)), (3, .int (nI ct)), (4, .int lo)]) hx hb dX0_unknown_25 hl (by decide) rfl (fun ls hl => ?_)
  refine lv_iconst (v := nI 0) hx hb dX0_unknown_27 (by decide +kernel) ?_
  refine lv_istore (lv' := [(6, .int (nI 0)), (5, .int (((nI 1) <<< ((nI ct) &&& 31)) - (nI 1))), (0, .ref (a 0)), (1, .int (nI sl)), (2, .int (nI fi)), (3, .int (nI ct)), (4, .int lo)]) hx hb dX0_unknown_28 hl (by decide) rfl (fun ls hl => ?_)
  refine nc_loop 1024 (fun w H locs ls => va_P (dC, dI) vwCl (nW a k (nF fn (1024 * sl) w (nvU fi ct lo)) ft gn gt gm fl o) H ∧ va_S (nA0 a) s.heap H locs ∧ lv_has ls 7 [(6, .int (nI w)), (5, .int ((nI 1 <<< (nI ct &&& 31)) - nI 1)), (0, .ref (a 0)), (1, .int (nI sl)), (2, .int (nI fi)), (3, .int (nI ct)), (4, .int lo)]) ⟨(by rw [nF_0]; exact hP), hS, (lv_sub hl [0, 1, 2, 3, 4, 5, 6] rfl)⟩ ?_
  intro w H locs ls hw hI ih
  obtain ⟨hP, hS, hl⟩ := hI
  refine lv_iload hx hb dX0_unknown_30 (lv_at hl 0 rfl) ?_
  refine lv_sipush (v := nI 1024) hx hb dX0_unknown_32 (by decide +kernel) ?_
  refine lv_icmp_ge (tgt := 66) hx hb dX0_unknown_35 (by decide) (fun c1 => ?_) (fun c1 => ?_)
  · obtain rfl : w = 1024 := nHi (by decide) hw c1
    exact W.vret hx hb hr (fun t ht hW => ⟨⟨(), rfl, trivial, by rw [ht]; exact hP, va_K.moved hW.alike hK⟩, hS.F ht⟩) hS.2.2 dX0_unknown_66
  · have hlt : w < 1024 := nLo (by decide) hw c1
    refine lv_aload_n hx hb dX0_unknown_38 rfl (lv_at hl 2 rfl) ?_
    refine va_get (D := (dC, dI)) (ci := 0) (v := .ref (a 1)) (C := RX0) (T := TX0) (N := 2) hx hb hts inX0_unknown hown hK hP 0 rfl rfl 0 (by decide) (hts (.fieldLink RX0 9 "NumberCircuits" "numbers" "[S") (by decide +kernel)) (fun _ h9 => h9) rfl dX0_unknown_39 ?_
    refine lv_iload_n hx hb dX0_unknown_42 rfl (lv_at hl 3 rfl) ?_
    refine lv_iload hx hb dX0_unknown_43 (lv_at hl 0 rfl) ?_
    refine vp_callSi (W.runS (As := [.int (nI sl), .int (nI w)]) (rest := [.ref (a 1)]) ⟨hx, hb, hml, hown, hts⟩ (c_place l sl w) (va_cwS 2 hts gX0_unknown_X0_place rfl rfl rfl (by decide +kernel) ⟨Nat.le_of_ble_eq_true rfl, Nat.le_of_ble_eq_true rfl⟩) ⟨fun _ _ _ _ q => q, fun U hU hW => ⟨rfl, trivial⟩⟩ rfl rfl hl.1 rfl (lv_room (Nat.le_of_ble_eq_true rfl)) dX0_unknown_45 ⟨Nat.zero_le _, Nat.zero_le _⟩) (fun r_45_2 er_45_2 => ?_)
    subst er_45_2
    refine lv_iload hx hb dX0_unknown_48 (lv_at hl 0 rfl) ?_
    refine lv_iload_n hx hb dX0_unknown_50 rfl (lv_at hl 4 rfl) ?_
    refine lv_ishr hx hb dX0_unknown_51 ?_
    refine lv_iload hx hb dX0_unknown_52 (lv_at hl 1 rfl) ?_
    refine lv_iand hx hb dX0_unknown_54 ?_
    refine lv_iload hx hb dX0_unknown_55 (lv_at hl 6 rfl) ?_
    refine lv_iadd hx hb dX0_unknown_57 ?_
    refine lv_i2s hx hb dX0_unknown_58 rfl ?_
    refine va_sast (i := nI (1024 * sl + w)) (x := ((((nI w) >>> ((nI fi) &&& 31)) &&& ((nI 1 <<< (nI ct &&& 31)) - nI 1)) + lo).toInt16.toInt32) hx hb hK hP (nDA hinj) hS 1 0 rfl rfl (vp_in_nI (by omega) (by decide)) dX0_unknown_59 (fun H locs hP _ hS => ?_)
    have e_59_3 : upd (nF fn (1024 * sl) w (nvU fi ct lo)) (nI (1024 * sl + w)).toNatClampNeg (vp_nar .short (((((nI w) >>> ((nI fi) &&& 31)) &&& ((nI 1 <<< (nI ct &&& 31)) - nI 1)) + lo).toInt16.toInt32)) = nF fn (1024 * sl) (w + 1) (nvU fi ct lo) := nF_up (by omega) rfl
    have hP : va_P (dC, dI) vwCl (nW a k (nF fn (1024 * sl) (w + 1) (nvU fi ct lo)) ft gn gt gm fl o) H := by rw [← e_59_3]; exact hP
    refine lv_iinc (v := nI (w + 1)) (lv' := [(6, .int (nI (w + 1))), (5, .int ((nI 1 <<< (nI ct &&& 31)) - nI 1)), (0, .ref (a 0)), (1, .int (nI sl)), (2, .int (nI fi)), (3, .int (nI ct)), (4, .int lo)]) hx hb dX0_unknown_60 hl (k := 0) rfl (nI_1 w) (by decide) rfl (fun ls hl => ?_)
    refine lv_goto (tgt := 30) hx hb dX0_unknown_63 (by decide) ?_
    exact ih hlt _ _ _ ⟨hP, hS, (lv_sub hl [0, 1, 2, 3, 4, 5, 6] rfl)⟩
set_option maxHeartbeats 4000000 in
set_option maxRecDepth 100000 in
theorem c_reckon (l : Launch) (dC : Nat → ClassId) (dI : Nat → Nat → Nat) (a : Nat → Nat) (k : Nat → ClassId) (fn ft gn gt gm : Nat → Int32) (fl : Int32) (o : Nat → Int64) (hinj : nInj a) (sl kd p0 q0 : Nat) (hsl : sl < 8) (hkd : kd < 6) (hp0 : p0 < 8) (hq0 : q0 < 8) : Met l yX0_reckon wsX0_reckon ({ frames := 2, cells := 0, slots := 0, locals := 64 }) (va_Pc [.ref (a 0), .int (nI sl), .int (nI kd), .int (nI p0), .int (nI q0)] (nPw dC dI a k fn ft gn gt gm fl o)) (nQv (nPw dC dI a k (nF fn (1024 * sl) 1024 (nvR fn kd p0 q0)) ft gn gt gm fl o) a) 0 0 (nA0 a) := by
  refine Met.ofW (cc := cX0_reckon) (maxL := 7) (ret := none) (by decide) rfl ?_
  intro p e s m args below meth c s₁ B hml hv
  obtain ⟨rfl, hP, hK⟩ := hv
  have hx := B.exec
  have hb := B.bytes
  have hr := B.returns
  have hts := atoms_spec (ws := wsX0_reckon) B.pre
  have hown : s.vm.findClass RX0 = some m.cls := findClass_of_methodNamed B.named
  have hlocks := B.notSynchronized
  have hS : va_S (nA0 a) s.heap s.heap [] := va_S.rf
  have hl := lv_entry ([.ref (a 0), .int (nI sl), .int (nI kd), .int (nI p0), .int (nI q0)]) (n := 7) (Nat.le_of_ble_eq_true rfl)
  rw [lg_entry_eq]
  generalize (lg_sl ([.ref (a 0), .int (nI sl), .int (nI kd), .int (nI p0), .int (nI q0)]) ++ List.replicate (7 - (lg_sl ([.ref (a 0), .int (nI sl), .int (nI kd), .int (nI p0), .int (nI q0)])).length) Slot.unset).toArray = ls at hl ⊢
  have hl : lv_has ls 7 [(0, .ref (a 0)), (1, .int (nI sl)), (2, .int (nI kd)), (3, .int (nI p0)), (4, .int (nI q0))] := hl
  refine lv_iload_n hx hb dX0_reckon_0 rfl (lv_at hl 1 rfl) ?_
  refine lv_bipush (v := nI 7) hx hb dX0_reckon_1 (by decide +kernel) ?_
  refine va_csv (W.runS (As := [.int (nI sl), .int (nI 7)]) (rest := []) ⟨hx, hb, hml, hown, hts⟩ (c_needUpTo l sl 7 (by omega) (by omega)) (va_cwS 2 hts gX0_reckon_X0_needUpTo rfl rfl rfl (by decide +kernel) ⟨Nat.le_of_ble_eq_true rfl, Nat.le_of_ble_eq_true rfl⟩) ⟨fun _ _ _ _ q => q, fun U hU hW => ⟨rfl, trivial⟩⟩ rfl rfl hl.1 rfl (lv_room (Nat.le_of_ble_eq_true rfl)) dX0_reckon_3 ⟨Nat.zero_le _, Nat.zero_le _⟩) (fun _ => ?_)
  refine lv_iload_n hx hb dX0_reckon_6 rfl (lv_at hl 2 rfl) ?_
  refine lv_iconst (v := nI 5) hx hb dX0_reckon_7 (by decide +kernel) ?_
  refine va_csv (W.runS (As := [.int (nI kd), .int (nI 5)]) (rest := []) ⟨hx, hb, hml, hown, hts⟩ (c_needUpTo l kd 5 (by omega) (by omega)) (va_cwS 2 hts gX0_reckon_X0_needUpTo rfl rfl rfl (by decide +kernel) ⟨Nat.le_of_ble_eq_true rfl, Nat.le_of_ble_eq_true rfl⟩) ⟨fun _ _ _ _ q => q, fun U hU hW => ⟨rfl, trivial⟩⟩ rfl rfl hl.1 rfl (lv_room (Nat.le_of_ble_eq_true rfl)) dX0_reckon_8 ⟨Nat.zero_le _, Nat.zero_le _⟩) (fun _ => ?_)
  refine lv_iload_n hx hb dX0_reckon_11 rfl (lv_at hl 3 rfl) ?_
  refine lv_bipush (v := nI 7) hx hb dX0_reckon_12 (by decide +kernel) ?_
  refine va_csv (W.runS (As := [.int (nI p0), .int (nI 7)]) (rest := []) ⟨hx, hb, hml, hown, hts⟩ (c_needUpTo l p0 7 (by omega) (by omega)) (va_cwS 2 hts gX0_reckon_X0_needUpTo rfl rfl rfl (by decide +kernel) ⟨Nat.le_of_ble_eq_true rfl, Nat.le_of_ble_eq_true rfl⟩) ⟨fun _ _ _ _ q => q, fun U hU hW => ⟨rfl, trivial⟩⟩ rfl rfl hl.1 rfl (lv_room (Nat.le_of_ble_eq_true rfl)) dX0_reckon_14 ⟨Nat.zero_le _, Nat.zero_le _⟩) (fun _ => ?_)
  refine lv_iload hx hb dX0_reckon_17 (lv_at hl 4 rfl) ?_
  refine lv_bipush (v := nI 7) hx hb dX0_reckon_19 (by decide +kernel) ?_
  refine va_csv (W.runS (As := [.int (nI q0), .int (nI 7)]) (rest := []) ⟨hx, hb, hml, hown, hts⟩ (c_needUpTo l q0 7 (by omega) (by omega)) (va_cwS 2 hts gX0_reckon_X0_needUpTo rfl rfl rfl (by decide +kernel) ⟨Nat.le_of_ble_eq_true rfl, Nat.le_of_ble_eq_true rfl⟩) ⟨fun _ _ _ _ q => q, fun U hU hW => ⟨rfl, trivial⟩⟩ rfl rfl hl.1 rfl (lv_room (Nat.le_of_ble_eq_true rfl)) dX0_reckon_21 ⟨Nat.zero_le _, Nat.zero_le _⟩) (fun _ => ?_)
  refine lv_iconst (v := nI 0) hx hb dX0_reckon_24 (by decide +kernel) ?_
  refine lv_istore (lv' := [(5, .int (nI 0)), (0, .ref (a 0)), (1, .int (nI sl)), (2, .int (nI kd)), (3, .int (nI p0)), (4, .int (nI q0))]) hx hb dX0_reckon_25 hl (by decide) rfl (fun ls hl => ?_)
  refine nc_loop 1024 (fun w H locs ls => va_P (dC, dI) vwCl (nW a k (nF fn (1024 * sl) w (nvR fn kd p0 q0)) ft gn gt gm fl o) H ∧ va_S (nA0 a) s.heap H locs ∧ lv_has ls 7 [(5, .int (nI w)), (0, .ref (a 0)), (1, .int (nI sl)), (2, .int (nI kd)), (3, .int (nI p0)), (4, .int (nI q0))]) ⟨(by rw [nF_0]; exact hP), hS, (lv_sub hl [0, 1, 2, 3, 4, 5] rfl)⟩ ?_
  intro w H locs ls hw hI ih
  obtain ⟨hP, hS, hl⟩ := hI
  refine lv_iload hx hb dX0_reckon_27 (lv_at hl 0 rfl) ?_
  refine lv_sipush (v := nI 1024) hx hb dX0_reckon_29 (by decide +kernel) ?_
  refine lv_icmp_ge (tgt := 84) hx hb dX0_reckon_32 (by decide) (fun c1 => ?_) (fun c1 => ?_)
  · obtain rfl : w = 1024 := nHi (by decide) hw c1
    exact W.vret hx hb hr (fun t ht hW => ⟨⟨(), rfl, trivial, by rw [ht]; exact hP, va_K.moved hW.alike hK⟩, hS.F ht⟩) hS.2.2 dX0_reckon_84
  · have hlt : w < 1024 := nLo (by decide) hw c1
    refine lv_iload_n hx hb dX0_reckon_35 rfl (lv_at hl 3 rfl) ?_
    refine lv_aload_n hx hb dX0_reckon_36 rfl (lv_at hl 1 rfl) ?_
    refine va_get (D := (dC, dI)) (ci := 0) (v := .ref (a 1)) (C := RX0) (T := TX0) (N := 2) hx hb hts inX0_reckon hown hK hP 0 rfl rfl 0 (by decide) (hts (.fieldLink RX0 9 "NumberCircuits" "numbers" "[S") (by decide +kernel)) (fun _ h9 => h9) rfl dX0_reckon_37 ?_
    refine lv_iload_n hx hb dX0_reckon_40 rfl (lv_at hl 4 rfl) ?_
    refine lv_iload hx hb dX0_reckon_41 (lv_at hl 0 rfl) ?_
    refine vp_callSi (W.runS (As := [.int (nI p0), .int (nI w)]) (rest := [.ref (a 1), .int (nI kd)]) ⟨hx, hb, hml, hown, hts⟩ (c_place l p0 w) (va_cwS 2 hts gX0_reckon_X0_place rfl rfl rfl (by decide +kernel) ⟨Nat.le_of_ble_eq_true rfl, Nat.le_of_ble_eq_true rfl⟩) ⟨fun _ _ _ _ q => q, fun U hU hW => ⟨rfl, trivial⟩⟩ rfl rfl hl.1 rfl (lv_room (Nat.le_of_ble_eq_true rfl)) dX0_reckon_43 ⟨Nat.zero_le _, Nat.zero_le _⟩) (fun r_43_1 er_43_1 => ?_)
    subst er_43_1
    refine va_sald (i := nI (1024 * p0 + w)) hx hb hK hP 1 0 rfl rfl (vp_in_nI (by omega) (by decide)) dX0_reckon_46 ?_
    refine lv_topi (fun x_47_2 ex_47_2 => ?_)
    obtain rfl : x_47_2 = fn (1024 * p0 + w) := by rw [ex_47_2]; rw [nI_clamp (show 1024 * p0 + w < 2 ^ 31 by omega)]; exact nF_r hlt
    refine lv_aload_n hx hb dX0_reckon_47 rfl (lv_at hl 1 rfl) ?_
    refine va_get (D := (dC, dI)) (ci := 0) (v := .ref (a 1)) (C := RX0) (T := TX0) (N := 2) hx hb hts inX0_reckon hown hK hP 0 rfl rfl 0 (by decide) (hts (.fieldLink RX0 9 "NumberCircuits" "numbers" "[S") (by decide +kernel)) (fun _ h9 => h9) rfl dX0_reckon_48 ?_
    refine lv_iload hx hb dX0_reckon_51 (lv_at hl 5 rfl) ?_
    refine lv_iload hx hb dX0_reckon_53 (lv_at hl 0 rfl) ?_
    refine vp_callSi (W.runS (As := [.int (nI q0), .int (nI w)]) (rest := [.ref (a 1), .int (fn (1024 * p0 + w)), .int (nI kd)]) ⟨hx, hb, hml, hown, hts⟩ (c_place l q0 w) (va_cwS 2 hts gX0_reckon_X0_place rfl rfl rfl (by decide +kernel) ⟨Nat.le_of_ble_eq_true rfl, Nat.le_of_ble_eq_true rfl⟩) ⟨fun _ _ _ _ q => q, fun U hU hW => ⟨rfl, trivial⟩⟩ rfl rfl hl.1 rfl (lv_room (Nat.le_of_ble_eq_true rfl)) dX0_reckon_55 ⟨Nat.zero_le _, Nat.zero_le _⟩) (fun r_55_3 er_55_3 => ?_)
    subst er_55_3
    refine va_sald (i := nI (1024 * q0 + w)) hx hb hK hP 1 0 rfl rfl (vp_in_nI (by omega) (by decide)) dX0_reckon_58 ?_
    refine lv_topi (fun x_59_4 ex_59_4 => ?_)
    obtain rfl : x_59_4 = fn (1024 * q0 + w) := by rw [ex_59_4]; rw [nI_clamp (show 1024 * q0 + w < 2 ^ 31 by omega)]; exact nF_r hlt
    refine vp_callSi (W.runS (As := [.int (nI kd), .int (fn (1024 * p0 + w)), .int (fn (1024 * q0 + w))]) (rest := []) ⟨hx, hb, hml, hown, hts⟩ (c_reckoned l kd (fn (1024 * p0 + w)) (fn (1024 * q0 + w)) hkd) (va_cwS 3 hts gX0_reckon_X0_reckoned rfl rfl rfl (by decide +kernel) ⟨Nat.le_of_ble_eq_true rfl, Nat.le_of_ble_eq_true rfl⟩) ⟨fun _ _ _ _ q => q, fun U hU hW => ⟨rfl, trivial⟩⟩ rfl rfl hl.1 rfl (lv_room (Nat.le_of_ble_eq_true rfl)) dX0_reckon_59 ⟨Nat.zero_le _, Nat.zero_le _⟩) (fun r_59_5 er_59_5 => ?_)
    subst er_59_5
    refine lv_istore (lv' := [(6, .int (nR kd (fn (1024 * p0 + w)) (fn (1024 * q0 + w)))), (5, .int (nI w)), (0, .ref (a 0)), (1, .int (nI sl)), (2, .int (nI kd)), (3, .int (nI p0)), (4, .int (nI q0))]) hx hb dX0_reckon_62 hl (by decide) rfl (fun ls hl => ?_)
    refine lv_aload_n hx hb dX0_reckon_64 rfl (lv_at hl 2 rfl) ?_
    refine va_get (D := (dC, dI)) (ci := 0) (v := .ref (a 1)) (C := RX0) (T := TX0) (N := 2) hx hb hts inX0_reckon hown hK hP 0 rfl rfl 0 (by decide) (hts (.fieldLink RX0 9 "NumberCircuits" "numbers" "[S") (by decide +kernel)) (fun _ h9 => h9) rfl dX0_reckon_65 ?_
    refine lv_iload_n hx hb dX0_reckon_68 rfl (lv_at hl 3 rfl) ?_
    refine lv_iload hx hb dX0_reckon_69 (lv_at hl 1 rfl) ?_
    refine vp_callSi (W.runS (As := [.int (nI sl), .int (nI w)]) (rest := [.ref (a 1)]) ⟨hx, hb, hml, hown, hts⟩ (c_place l sl w) (va_cwS 2 hts gX0_reckon_X0_place rfl rfl rfl (by decide +kernel) ⟨Nat.le_of_ble_eq_true rfl, Nat.le_of_ble_eq_true rfl⟩) ⟨fun _ _ _ _ q => q, fun U hU hW => ⟨rfl, trivial⟩⟩ rfl rfl hl.1 rfl (lv_room (Nat.le_of_ble_eq_true rfl)) dX0_reckon_71 ⟨Nat.zero_le _, Nat.zero_le _⟩) (fun r_71_6 er_71_6 => ?_)
    subst er_71_6
    refine lv_iload hx hb dX0_reckon_74 (lv_at hl 0 rfl) ?_
    refine lv_i2s hx hb dX0_reckon_76 rfl ?_
    refine va_sast (i := nI (1024 * sl + w)) (x := (nR kd (fn (1024 * p0 + w)) (fn (1024 * q0 + w))).toInt16.toInt32) hx hb hK hP (nDA hinj) hS 1 0 rfl rfl (vp_in_nI (by omega) (by decide)) dX0_reckon_77 (fun H locs hP _ hS => ?_)
    have e_77_7 : upd (nF fn (1024 * sl) w (nvR fn kd p0 q0)) (nI (1024 * sl + w)).toNatClampNeg (vp_nar .short ((nR kd (fn (1024 * p0 + w)) (fn (1024 * q0 + w))).toInt16.toInt32)) = nF fn (1024 * sl) (w + 1) (nvR fn kd p0 q0) := nF_up (by omega) rfl
    have hP : va_P (dC, dI) vwCl (nW a k (nF fn (1024 * sl) (w + 1) (nvR fn kd p0 q0)) ft gn gt gm fl o) H := by rw [← e_77_7]; exact hP
    refine lv_iinc (v := nI (w + 1)) (lv' := [(5, .int (nI (w + 1))), (6, .int (nR kd (fn (1024 * p0 + w)) (fn (1024 * q0 + w)))), (0, .ref (a 0)), (1, .int (nI sl)), (2, .int (nI kd)), (3, .int (nI p0)), (4, .int (nI q0))]) hx hb dX0_reckon_78 hl (k := 1) rfl (nI_1 w) (by decide) rfl (fun ls hl => ?_)
    refine lv_goto (tgt := 27) hx hb dX0_reckon_81 (by decide) ?_
    exact ih hlt _ _ _ ⟨hP, hS, (lv_sub hl [0, 2, 3, 4, 5, 6] rfl)⟩
set_option maxHeartbeats 4000000 in
set_option maxRecDepth 100000 in
theorem c_compare (l : Launch) (dC : Nat → ClassId) (dI : Nat → Nat → Nat) (a : Nat → Nat) (k : Nat → ClassId) (fn ft gn gt gm : Nat → Int32) (fl : Int32) (o : Nat → Int64) (hinj : nInj a) (tr kd p0 q0 : Nat) (htr : tr < 8) (hkd : kd < 4) (hp0 : p0 < 8) (hq0 : q0 < 8) : Met l yX0_compare wsX0_compare ({ frames := 2, cells := 0, slots := 0, locals := 64 }) (va_Pc [.ref (a 0), .int (nI tr), .int (nI kd), .int (nI p0), .int (nI q0)] (nPw dC dI a k fn ft gn gt gm fl o)) (nQi (nI (nN (nyC fn kd p0 q0) 1024)) (nPw dC dI a k fn (nF ft 0 1024 (nvT ft tr (nyC fn kd p0 q0))) gn gt gm fl o) a) 0 0 (nA0 a) := by
  refine Met.ofW (cc := cX0_compare) (maxL := 8) (ret := (some .int)) (by decide) rfl ?_
  intro p e s m args below meth c s₁ B hml hv
  obtain ⟨rfl, hP, hK⟩ := hv
  have hx := B.exec
  have hb := B.bytes
  have hr := B.returns
  have hts := atoms_spec (ws := wsX0_compare) B.pre
  have hown : s.vm.findClass RX0 = some m.cls := findClass_of_methodNamed B.named
  have hlocks := B.notSynchronized
  have hS : va_S (nA0 a) s.heap s.heap [] := va_S.rf
  have hl := lv_entry ([.ref (a 0), .int (nI tr), .int (nI kd), .int (nI p0), .int (nI q0)]) (n := 8) (Nat.le_of_ble_eq_true rfl)
  rw [lg_entry_eq]
  generalize (lg_sl ([.ref (a 0), .int (nI tr), .int (nI kd), .int (nI p0), .int (nI q0)]) ++ List.replicate (8 - (lg_sl ([.ref (a 0), .int (nI tr), .int (nI kd), .int (nI p0), .int (nI q0)])).length) Slot.unset).toArray = ls at hl ⊢
  have hl : lv_has ls 8 [(0, .ref (a 0)), (1, .int (nI tr)), (2, .int (nI kd)), (3, .int (nI p0)), (4, .int (nI q0))] := hl
  refine lv_iload_n hx hb dX0_compare_0 rfl (lv_at hl 1 rfl) ?_
  refine lv_bipush (v := nI 7) hx hb dX0_compare_1 (by decide +kernel) ?_
  refine va_csv (W.runS (As := [.int (nI tr), .int (nI 7)]) (rest := []) ⟨hx, hb, hml, hown, hts⟩ (c_needUpTo l tr 7 (by omega) (by omega)) (va_cwS 2 hts gX0_compare_X0_needUpTo rfl rfl rfl (by decide +kernel) ⟨Nat.le_of_ble_eq_true rfl, Nat.le_of_ble_eq_true rfl⟩) ⟨fun _ _ _ _ q => q, fun U hU hW => ⟨rfl, trivial⟩⟩ rfl rfl hl.1 rfl (lv_room (Nat.le_of_ble_eq_true rfl)) dX0_compare_3 ⟨Nat.zero_le _, Nat.zero_le _⟩) (fun _ => ?_)
  refine lv_iload_n hx hb dX0_compare_6 rfl (lv_at hl 2 rfl) ?_
  refine lv_iconst (v := nI 3) hx hb dX0_compare_7 (by decide +kernel) ?_
  refine va_csv (W.runS (As := [.int (nI kd), .int (nI 3)]) (rest := []) ⟨hx, hb, hml, hown, hts⟩ (c_needUpTo l kd 3 (by omega) (by omega)) (va_cwS 2 hts gX0_compare_X0_needUpTo rfl rfl rfl (by decide +kernel) ⟨Nat.le_of_ble_eq_true rfl, Nat.le_of_ble_eq_true rfl⟩) ⟨fun _ _ _ _ q => q, fun U hU hW => ⟨rfl, trivial⟩⟩ rfl rfl hl.1 rfl (lv_room (Nat.le_of_ble_eq_true rfl)) dX0_compare_8 ⟨Nat.zero_le _, Nat.zero_le _⟩) (fun _ => ?_)
  refine lv_iload_n hx hb dX0_compare_11 rfl (lv_at hl 3 rfl) ?_
  refine lv_bipush (v := nI 7) hx hb dX0_compare_12 (by decide +kernel) ?_
  refine va_csv (W.runS (As := [.int (nI p0), .int (nI 7)]) (rest := []) ⟨hx, hb, hml, hown, hts⟩ (c_needUpTo l p0 7 (by omega) (by omega)) (va_cwS 2 hts gX0_compare_X0_needUpTo rfl rfl rfl (by decide +kernel) ⟨Nat.le_of_ble_eq_true rfl, Nat.le_of_ble_eq_true rfl⟩) ⟨fun _ _ _ _ q => q, fun U hU hW => ⟨rfl, trivial⟩⟩ rfl rfl hl.1 rfl (lv_room (Nat.le_of_ble_eq_true rfl)) dX0_compare_14 ⟨Nat.zero_le _, Nat.zero_le _⟩) (fun _ => ?_)
  refine lv_iload hx hb dX0_compare_17 (lv_at hl 4 rfl) ?_
  refine lv_bipush (v := nI 7) hx hb dX0_compare_19 (by decide +kernel) ?_
  refine va_csv (W.runS (As := [.int (nI q0), .int (nI 7)]) (rest := []) ⟨hx, hb, hml, hown, hts⟩ (c_needUpTo l q0 7 (by omega) (by omega)) (va_cwS 2 hts gX0_compare_X0_needUpTo rfl rfl rfl (by decide +kernel) ⟨Nat.le_of_ble_eq_true rfl, Nat.le_of_ble_eq_true rfl⟩) ⟨fun _ _ _ _ q => q, fun U hU hW => ⟨rfl, trivial⟩⟩ rfl rfl hl.1 rfl (lv_room (Nat.le_of_ble_eq_true rfl)) dX0_compare_21 ⟨Nat.zero_le _, Nat.zero_le _⟩) (fun _ => ?_)
  refine lv_iconst (v := nI 0) hx hb dX0_compare_24 (by decide +kernel) ?_
  refine lv_istore (lv' := [(5, .int (nI 0)), (0, .ref (a 0)), (1, .int (nI tr)), (2, .int (nI kd)), (3, .int (nI p0)), (4, .int (nI q0))]) hx hb dX0_compare_25 hl (by decide) rfl (fun ls hl => ?_)
  have hl : lv_has ls 8 [(5, .int (nI (nN (nyC fn kd p0 q0) 0))), (0, .ref (a 0)), (1, .int (nI tr)), (2, .int (nI kd)), (3, .int (nI p0)), (4, .int (nI q0))] := hl
  refine lv_iconst (v := nI 0) hx hb dX0_compare_27 (by decide +kernel) ?_
  refine lv_istore (lv' := [(6, .int (nI 0)), (5, .int (nI (nN (nyC fn kd p0 q0) 0))), (0, .ref (a 0)), (1, .int (nI tr)), (2, .int (nI kd)), (3, .int (nI p0)), (4, .int (nI q0))]) hx hb dX0_compare_28 hl (by decide) rfl (fun ls hl => ?_)
  refine nc_loop 1024 (fun w H locs ls => va_P (dC, dI) vwCl (nW a k fn (nF ft 0 w (nvT ft tr (nyC fn kd p0 q0))) gn gt gm fl o) H ∧ va_S (nA0 a) s.heap H locs ∧ lv_has ls 8 [(6, .int (nI w)), (5, .int (nI (nN (nyC fn kd p0 q0) w))), (0, .ref (a 0)), (1, .int (nI tr)), (2, .int (nI kd)), (3, .int (nI p0)), (4, .int (nI q0))]) ⟨(by rw [nF_0]; exact hP), hS, (lv_sub hl [0, 1, 2, 3, 4, 5, 6] rfl)⟩ ?_
  intro w H locs ls hw hI ih
  obtain ⟨hP, hS, hl⟩ := hI
  refine lv_iload hx hb dX0_compare_30 (lv_at hl 0 rfl) ?_
  refine lv_sipush (v := nI 1024) hx hb dX0_compare_32 (by decide +kernel) ?_
  refine lv_icmp_ge (tgt := 97) hx hb dX0_compare_35 (by decide) (fun c1 => ?_) (fun c1 => ?_)
  · obtain rfl : w = 1024 := nHi (by decide) hw c1
    refine lv_iload hx hb dX0_compare_97 (lv_at hl 1 rfl) ?_
    exact W.iret hx hb hr (fun t ht hW => ⟨⟨_, (), rfl, rfl, by rw [ht]; exact hP, va_K.moved hW.alike hK⟩, hS.F ht⟩) hS.2.2 dX0_compare_99
  · have hlt : w < 1024 := nLo (by decide) hw c1
    refine lv_iload_n hx hb dX0_compare_38 rfl (lv_at hl 4 rfl) ?_
    refine lv_aload_n hx hb dX0_compare_39 rfl (lv_at hl 2 rfl) ?_
    refine va_get (D := (dC, dI)) (ci := 0) (v := .ref (a 1)) (C := RX0) (T := TX0) (N := 2) hx hb hts inX0_compare hown hK hP 0 rfl rfl 0 (by decide) (hts (.fieldLink RX0 9 "NumberCircuits" "numbers" "[S") (by decide +kernel)) (fun _ h9 => h9) rfl dX0_compare_40 ?_
    refine lv_iload_n hx hb dX0_compare_43 rfl (lv_at hl 5 rfl) ?_
    refine lv_iload hx hb dX0_compare_44 (lv_at hl 0 rfl) ?_
    refine vp_callSi (W.runS (As := [.int (nI p0), .int (nI w)]) (rest := [.ref (a 1), .int (nI kd)]) ⟨hx, hb, hml, hown, hts⟩ (c_place l p0 w) (va_cwS 2 hts gX0_compare_X0_place rfl rfl rfl (by decide +kernel) ⟨Nat.le_of_ble_eq_true rfl, Nat.le_of_ble_eq_true rfl⟩) ⟨fun _ _ _ _ q => q, fun U hU hW => ⟨rfl, trivial⟩⟩ rfl rfl hl.1 rfl (lv_room (Nat.le_of_ble_eq_true rfl)) dX0_compare_46 ⟨Nat.zero_le _, Nat.zero_le _⟩) (fun r_46_1 er_46_1 => ?_)
    subst er_46_1
    refine va_sald (i := nI (1024 * p0 + w)) hx hb hK hP 1 0 rfl rfl (vp_in_nI (by omega) (by decide)) dX0_compare_49 ?_
    refine lv_topi (fun x_50_2 ex_50_2 => ?_)
    obtain rfl : x_50_2 = fn (1024 * p0 + w) := by rw [ex_50_2]; rw [nI_clamp (show 1024 * p0 + w < 2 ^ 31 by omega)]
    refine lv_aload_n hx hb dX0_compare_50 rfl (lv_at hl 2 rfl) ?_
    refine va_get (D := (dC, dI)) (ci := 0) (v := .ref (a 1)) (C := RX0) (T := TX0) (N := 2) hx hb hts inX0_compare hown hK hP 0 rfl rfl 0 (by decide) (hts (.fieldLink RX0 9 "NumberCircuits" "numbers" "[S") (by decide +kernel)) (fun _ h9 => h9) rfl dX0_compare_51 ?_
    refine lv_iload hx hb dX0_compare_54 (lv_at hl 6 rfl) ?_
    refine lv_iload hx hb dX0_compare_56 (lv_at hl 0 rfl) ?_
    refine vp_callSi (W.runS (As := [.int (nI q0), .int (nI w)]) (rest := [.ref (a 1), .int (fn (1024 * p0 + w)), .int (nI kd)]) ⟨hx, hb, hml, hown, hts⟩ (c_place l q0 w) (va_cwS 2 hts gX0_compare_X0_place rfl rfl rfl (by decide +kernel) ⟨Nat.le_of_ble_eq_true rfl, Nat.le_of_ble_eq_true rfl⟩) ⟨fun _ _ _ _ q => q, fun U hU hW => ⟨rfl, trivial⟩⟩ rfl rfl hl.1 rfl (lv_room (Nat.le_of_ble_eq_true rfl)) dX0_compare_58 ⟨Nat.zero_le _, Nat.zero_le _⟩) (fun r_58_3 er_58_3 => ?_)
    subst er_58_3
    refine va_sald (i := nI (1024 * q0 + w)) hx hb hK hP 1 0 rfl rfl (vp_in_nI (by omega) (by decide)) dX0_compare_61 ?_
    refine lv_topi (fun x_62_4 ex_62_4 => ?_)
    obtain rfl : x_62_4 = fn (1024 * q0 + w) := by rw [ex_62_4]; rw [nI_clamp (show 1024 * q0 + w < 2 ^ 31 by omega)]
    refine vp_callSi (W.runS (As := [.int (nI kd), .int (fn (1024 * p0 + w)), .int (fn (1024 * q0 + w))]) (rest := []) ⟨hx, hb, hml, hown, hts⟩ (c_compared l kd (fn (1024 * p0 + w)) (fn (1024 * q0 + w)) hkd) (va_cwS 3 hts gX0_compare_X0_compared rfl rfl rfl (by decide +kernel) ⟨Nat.le_of_ble_eq_true rfl, Nat.le_of_ble_eq_true rfl⟩) ⟨fun _ _ _ _ q => q, fun U hU hW => ⟨rfl, trivial⟩⟩ rfl rfl hl.1 rfl (lv_room (Nat.le_of_ble_eq_true rfl)) dX0_compare_62 ⟨Nat.zero_le _, Nat.zero_le _⟩) (fun r_62_5 er_62_5 => ?_)
    subst er_62_5
    refine lv_istore (lv' := [(7, .int (nb ((nyC fn kd p0 q0) w))), (6, .int (nI w)), (5, .int (nI (nN (nyC fn kd p0 q0) w))), (0, .ref (a 0)), (1, .int (nI tr)), (2, .int (nI kd)), (3, .int (nI p0)), (4, .int (nI q0))]) hx hb dX0_compare_65 hl (by decide) rfl (fun ls hl => ?_)
    refine lv_aload_n hx hb dX0_compare_67 rfl (lv_at hl 3 rfl) ?_
    refine lv_iload_n hx hb dX0_compare_68 rfl (lv_at hl 4 rfl) ?_
    refine lv_iload hx hb dX0_compare_69 (lv_at hl 1 rfl) ?_
    refine lv_iload hx hb dX0_compare_71 (lv_at hl 0 rfl) ?_
    refine va_callv (va_runV (As := [.int (nI tr), .int (nI w), .int (nb ((nyC fn kd p0 q0) w))]) (rest := []) ⟨hx, hb, hml, hown, hts⟩ (c_setTruth l dC dI a k fn (nF ft 0 w (nvT ft tr (nyC fn kd p0 q0))) gn gt gm fl o hinj tr w htr hlt ((nyC fn kd p0 q0) w)) (cwV 3 hts gX0_compare_X0_setTruth rfl rfl rfl (by decide +kernel) ⟨Nat.le_of_ble_eq_true rfl, Nat.le_of_ble_eq_true rfl⟩) (nPreV hP hK (va_recv hK hP (ci := 0) (q0 := 0) rfl rfl)) rfl rfl hl.1 rfl (lv_room (Nat.le_of_ble_eq_true rfl)) dX0_compare_73 ⟨Nat.zero_le _, Nat.zero_le _⟩) hS (fun _ _ h => h) (fun _ h => h) (fun _ t H locs ht hvm _ hB _ _ hS => ?_)
    have hP : va_P (dC, dI) vwCl (nW a k fn (upd (nF ft 0 w (nvT ft tr (nyC fn kd p0 q0))) (nI w).toNatClampNeg (nS1 (nF ft 0 w (nvT ft tr (nyC fn kd p0 q0)) w) tr ((nyC fn kd p0 q0) w))) gn gt gm fl o) H := by rw [← ht]; exact hB.1
    have e_76_6 : upd (nF ft 0 w (nvT ft tr (nyC fn kd p0 q0))) (nI w).toNatClampNeg (nS1 (nF ft 0 w (nvT ft tr (nyC fn kd p0 q0)) w) tr ((nyC fn kd p0 q0) w)) = nF ft 0 (w + 1) (nvT ft tr (nyC fn kd p0 q0)) := nF_up0 (by omega) (by rw [nF_r0])
    have hP : va_P (dC, dI) vwCl (nW a k fn (nF ft 0 (w + 1) (nvT ft tr (nyC fn kd p0 q0))) gn gt gm fl o) H := by rw [← e_76_6]; exact hP
    refine lv_iload hx hb dX0_compare_76 (lv_at hl 2 rfl) ?_
    refine lv_iload hx hb dX0_compare_78 (lv_at hl 0 rfl) ?_
    refine lv_if_eq (tgt := 87) hx hb dX0_compare_80 (by decide) (fun c2 => ?_) (fun c2 => ?_)
    · refine lv_iconst (v := nI 0) hx hb dX0_compare_87 (by decide +kernel) ?_
      refine lv_iadd hx hb dX0_compare_88 ?_
      refine lv_topi (fun x_89_7 ex_89_7 => ?_)
      obtain rfl : x_89_7 = nI (nN (nyC fn kd p0 q0) (w + 1)) := by rw [ex_89_7]; rw [← nN_s, show (nyC fn kd p0 q0) w = false from nb_f c2]; rfl
      refine lv_istore (lv' := [(5, .int (nI (nN (nyC fn kd p0 q0) (w + 1)))), (7, .int (nb ((nyC fn kd p0 q0) w))), (6, .int (nI w)), (0, .ref (a 0)), (1, .int (nI tr)), (2, .int (nI kd)), (3, .int (nI p0)), (4, .int (nI q0))]) hx hb dX0_compare_89 hl (by decide) rfl (fun ls hl => ?_)
      refine lv_iinc (v := nI (w + 1)) (lv' := [(6, .int (nI (w + 1))), (5, .int (nI (nN (nyC fn kd p0 q0) (w + 1)))), (7, .int (nb ((nyC fn kd p0 q0) w))), (0, .ref (a 0)), (1, .int (nI tr)), (2, .int (nI kd)), (3, .int (nI p0)), (4, .int (nI q0))]) hx hb dX0_compare_91 hl (k := 2) rfl (nI_1 w) (by decide) rfl (fun ls hl => ?_)
      refine lv_goto (tgt := 30) hx hb dX0_compare_94 (by decide) ?_
      exact ih hlt _ _ _ ⟨hP, hS, (lv_sub hl [0, 1, 3, 4, 5, 6, 7] rfl)⟩
    · refine lv_iconst (v := nI 1) hx hb dX0_compare_83 (by decide +kernel) ?_
      refine lv_goto (tgt := 88) hx hb dX0_compare_84 (by decide) ?_
      refine lv_iadd hx hb dX0_compare_88 ?_
      refine lv_topi (fun x_89_7 ex_89_7 => ?_)
      obtain rfl : x_89_7 = nI (nN (nyC fn kd p0 q0) (w + 1)) := by rw [ex_89_7]; rw [← nN_s, show (nyC fn kd p0 q0) w = true from nb_t c2]; rfl
      refine lv_istore (lv' := [(5, .int (nI (nN (nyC fn kd p0 q0) (w + 1)))), (7, .int (nb ((nyC fn kd p0 q0) w))), (6, .int (nI w)), (0, .ref (a 0)), (1, .int (nI tr)), (2, .int (nI kd)), (3, .int (nI p0)), (4, .int (nI q0))]) hx hb dX0_compare_89 hl (by decide) rfl (fun ls hl => ?_)
      refine lv_iinc (v := nI (w + 1)) (lv' := [(6, .int (nI (w + 1))), (5, .int (nI (nN (nyC fn kd p0 q0) (w + 1)))), (7, .int (nb ((nyC fn kd p0 q0) w))), (0, .ref (a 0)), (1, .int (nI tr)), (2, .int (nI kd)), (3, .int (nI p0)), (4, .int (nI q0))]) hx hb dX0_compare_91 hl (k := 2) rfl (nI_1 w) (by decide) rfl (fun ls hl => ?_)
      refine lv_goto (tgt := 30) hx hb dX0_compare_94 (by decide) ?_
      exact ih hlt _ _ _ ⟨hP, hS, (lv_sub hl [0, 1, 3, 4, 5, 6, 7] rfl)⟩
set_option maxHeartbeats 4000000 in
set_option maxRecDepth 100000 in
theorem c_join (l : Launch) (dC : Nat → ClassId) (dI : Nat → Nat → Nat) (a : Nat → Nat) (k : Nat → ClassId) (fn ft gn gt gm : Nat → Int32) (fl : Int32) (o : Nat → Int64) (hinj : nInj a) (tr kd p0 q0 : Nat) (htr : tr < 8) (hkd : kd < 4) (hp0 : p0 < 8) (hq0 : q0 < 8) : Met l yX0_join wsX0_join ({ frames := 2, cells := 0, slots := 0, locals := 64 }) (va_Pc [.ref (a 0), .int (nI tr), .int (nI kd), .int (nI p0), .int (nI q0)] (nPw dC dI a k fn ft gn gt gm fl o)) (nQi (nI (nN (nyJ ft kd p0 q0) 1024)) (nPw dC dI a k fn (nF ft 0 1024 (nvT ft tr (nyJ ft kd p0 q0))) gn gt gm fl o) a) 0 0 (nA0 a) := by
  refine Met.ofW (cc := cX0_join) (maxL := 8) (ret := (some .int)) (by decide) rfl ?_
  intro p e s m args below meth c s₁ B hml hv
  obtain ⟨rfl, hP, hK⟩ := hv
  have hx := B.exec
  have hb := B.bytes
  have hr := B.returns
  have hts := atoms_spec (ws := wsX0_join) B.pre
  have hown : s.vm.findClass RX0 = some m.cls := findClass_of_methodNamed B.named
  have hlocks := B.notSynchronized
  have hS : va_S (nA0 a) s.heap s.heap [] := va_S.rf
  have hl := lv_entry ([.ref (a 0), .int (nI tr), .int (nI kd), .int (nI p0), .int (nI q0)]) (n := 8) (Nat.le_of_ble_eq_true rfl)
  rw [lg_entry_eq]
  generalize (lg_sl ([.ref (a 0), .int (nI tr), .int (nI kd), .int (nI p0), .int (nI q0)]) ++ List.replicate (8 - (lg_sl ([.ref (a 0), .int (nI tr), .int (nI kd), .int (nI p0), .int (nI q0)])).length) Slot.unset).toArray = ls at hl ⊢
  have hl : lv_has ls 8 [(0, .ref (a 0)), (1, .int (nI tr)), (2, .int (nI kd)), (3, .int (nI p0)), (4, .int (nI q0))] := hl
  refine lv_iload_n hx hb dX0_join_0 rfl (lv_at hl 1 rfl) ?_
  refine lv_bipush (v := nI 7) hx hb dX0_join_1 (by decide +kernel) ?_
  refine va_csv (W.runS (As := [.int (nI tr), .int (nI 7)]) (rest := []) ⟨hx, hb, hml, hown, hts⟩ (c_needUpTo l tr 7 (by omega) (by omega)) (va_cwS 2 hts gX0_join_X0_needUpTo rfl rfl rfl (by decide +kernel) ⟨Nat.le_of_ble_eq_true rfl, Nat.le_of_ble_eq_true rfl⟩) ⟨fun _ _ _ _ q => q, fun U hU hW => ⟨rfl, trivial⟩⟩ rfl rfl hl.1 rfl (lv_room (Nat.le_of_ble_eq_true rfl)) dX0_join_3 ⟨Nat.zero_le _, Nat.zero_le _⟩) (fun _ => ?_)
  refine lv_iload_n hx hb dX0_join_6 rfl (lv_at hl 2 rfl) ?_
  refine lv_iconst (v := nI 3) hx hb dX0_join_7 (by decide +kernel) ?_
  refine va_csv (W.runS (As := [.int (nI kd), .int (nI 3)]) (rest := []) ⟨hx, hb, hml, hown, hts⟩ (c_needUpTo l kd 3 (by omega) (by omega)) (va_cwS 2 hts gX0_join_X0_needUpTo rfl rfl rfl (by decide +kernel) ⟨Nat.le_of_ble_eq_true rfl, Nat.le_of_ble_eq_true rfl⟩) ⟨fun _ _ _ _ q => q, fun U hU hW => ⟨rfl, trivial⟩⟩ rfl rfl hl.1 rfl (lv_room (Nat.le_of_ble_eq_true rfl)) dX0_join_8 ⟨Nat.zero_le _, Nat.zero_le _⟩) (fun _ => ?_)
  refine lv_iload_n hx hb dX0_join_11 rfl (lv_at hl 3 rfl) ?_
  refine lv_bipush (v := nI 7) hx hb dX0_join_12 (by decide +kernel) ?_
  refine va_csv (W.runS (As := [.int (nI p0), .int (nI 7)]) (rest := []) ⟨hx, hb, hml, hown, hts⟩ (c_needUpTo l p0 7 (by omega) (by omega)) (va_cwS 2 hts gX0_join_X0_needUpTo rfl rfl rfl (by decide +kernel) ⟨Nat.le_of_ble_eq_true rfl, Nat.le_of_ble_eq_true rfl⟩) ⟨fun _ _ _ _ q => q, fun U hU hW => ⟨rfl, trivial⟩⟩ rfl rfl hl.1 rfl (lv_room (Nat.le_of_ble_eq_true rfl)) dX0_join_14 ⟨Nat.zero_le _, Nat.zero_le _⟩) (fun _ => ?_)
  refine lv_iload hx hb dX0_join_17 (lv_at hl 4 rfl) ?_
  refine lv_bipush (v := nI 7) hx hb dX0_join_19 (by decide +kernel) ?_
  refine va_csv (W.runS (As := [.int (nI q0), .int (nI 7)]) (rest := []) ⟨hx, hb, hml, hown, hts⟩ (c_needUpTo l q0 7 (by omega) (by omega)) (va_cwS 2 hts gX0_join_X0_needUpTo rfl rfl rfl (by decide +kernel) ⟨Nat.le_of_ble_eq_true rfl, Nat.le_of_ble_eq_true rfl⟩) ⟨fun _ _ _ _ q => q, fun U hU hW => ⟨rfl, trivial⟩⟩ rfl rfl hl.1 rfl (lv_room (Nat.le_of_ble_eq_true rfl)) dX0_join_21 ⟨Nat.zero_le _, Nat.zero_le _⟩) (fun _ => ?_)
  refine lv_iconst (v := nI 0) hx hb dX0_join_24 (by decide +kernel) ?_
  refine lv_istore (lv' := [(5, .int (nI 0)), (0, .ref (a 0)), (1, .int (nI tr)), (2, .int (nI kd)), (3, .int (nI p0)), (4, .int (nI q0))]) hx hb dX0_join_25 hl (by decide) rfl (fun ls hl => ?_)
  have hl : lv_has ls 8 [(5, .int (nI (nN (nyJ ft kd p0 q0) 0))), (0, .ref (a 0)), (1, .int (nI tr)), (2, .int (nI kd)), (3, .int (nI p0)), (4, .int (nI q0))] := hl
  refine lv_iconst (v := nI 0) hx hb dX0_join_27 (by decide +kernel) ?_
  refine lv_istore (lv' := [(6, .int (nI 0)), (5, .int (nI (nN (nyJ ft kd p0 q0) 0))), (0, .ref (a 0)), (1, .int (nI tr)), (2, .int (nI kd)), (3, .int (nI p0)), (4, .int (nI q0))]) hx hb dX0_join_28 hl (by decide) rfl (fun ls hl => ?_)
  refine nc_loop 1024 (fun w H locs ls => va_P (dC, dI) vwCl (nW a k fn (nF ft 0 w (nvT ft tr (nyJ ft kd p0 q0))) gn gt gm fl o) H ∧ va_S (nA0 a) s.heap H locs ∧ lv_has ls 8 [(6, .int (nI w)), (5, .int (nI (nN (nyJ ft kd p0 q0) w))), (0, .ref (a 0)), (1, .int (nI tr)), (2, .int (nI kd)), (3, .int (nI p0)), (4, .int (nI q0))]) ⟨(by rw [nF_0]; exact hP), hS, (lv_sub hl [0, 1, 2, 3, 4, 5, 6] rfl)⟩ ?_
  intro w H locs ls hw hI ih
  obtain ⟨hP, hS, hl⟩ := hI
  refine lv_iload hx hb dX0_join_30 (lv_at hl 0 rfl) ?_
  refine lv_sipush (v := nI 1024) hx hb dX0_join_32 (by decide +kernel) ?_
  refine lv_icmp_ge (tgt := 89) hx hb dX0_join_35 (by decide) (fun c1 => ?_) (fun c1 => ?_)
  · obtain rfl : w = 1024 := nHi (by decide) hw c1
    refine lv_iload hx hb dX0_join_89 (lv_at hl 1 rfl) ?_
    exact W.iret hx hb hr (fun t ht hW => ⟨⟨_, (), rfl, rfl, by rw [ht]; exact hP, va_K.moved hW.alike hK⟩, hS.F ht⟩) hS.2.2 dX0_join_91
  · have hlt : w < 1024 := nLo (by decide) hw c1
    refine lv_iload_n hx hb dX0_join_38 rfl (lv_at hl 4 rfl) ?_
    refine lv_aload_n hx hb dX0_join_39 rfl (lv_at hl 2 rfl) ?_
    refine lv_iload_n hx hb dX0_join_40 rfl (lv_at hl 5 rfl) ?_
    refine lv_iload hx hb dX0_join_41 (lv_at hl 0 rfl) ?_
    refine vp_callSi (W.runV (As := [.int (nI p0), .int (nI w)]) (rest := [.int (nI kd)]) ⟨hx, hb, hml, hown, hts⟩ (c_isYes l dC dI a k fn (nF ft 0 w (nvT ft tr (nyJ ft kd p0 q0))) gn gt gm fl o p0 w hp0 hlt) (cwV 2 hts gX0_join_X0_isYes rfl rfl rfl (by decide +kernel) ⟨Nat.le_of_ble_eq_true rfl, Nat.le_of_ble_eq_true rfl⟩) (nPreV hP hK (va_recv hK hP (ci := 0) (q0 := 0) rfl rfl)) rfl rfl hl.1 rfl (lv_room (Nat.le_of_ble_eq_true rfl)) dX0_join_43 ⟨Nat.zero_le _, Nat.zero_le _⟩) (fun r_43_1 er_43_1 => ?_)
    subst er_43_1
    refine lv_topi (fun x_46_2 ex_46_2 => ?_)
    obtain rfl : x_46_2 = nb (bt (ft w) p0) := by rw [ex_46_2]; rw [nF_r0]
    refine lv_aload_n hx hb dX0_join_46 rfl (lv_at hl 2 rfl) ?_
    refine lv_iload hx hb dX0_join_47 (lv_at hl 6 rfl) ?_
    refine lv_iload hx hb dX0_join_49 (lv_at hl 0 rfl) ?_
    refine vp_callSi (W.runV (As := [.int (nI q0), .int (nI w)]) (rest := [.int (nb (bt (ft w) p0)), .int (nI kd)]) ⟨hx, hb, hml, hown, hts⟩ (c_isYes l dC dI a k fn (nF ft 0 w (nvT ft tr (nyJ ft kd p0 q0))) gn gt gm fl o q0 w hq0 hlt) (cwV 2 hts gX0_join_X0_isYes rfl rfl rfl (by decide +kernel) ⟨Nat.le_of_ble_eq_true rfl, Nat.le_of_ble_eq_true rfl⟩) (nPreV hP hK (va_recv hK hP (ci := 0) (q0 := 0) rfl rfl)) rfl rfl hl.1 rfl (lv_room (Nat.le_of_ble_eq_true rfl)) dX0_join_51 ⟨Nat.zero_le _, Nat.zero_le _⟩) (fun r_51_3 er_51_3 => ?_)
    subst er_51_3
    refine lv_topi (fun x_54_4 ex_54_4 => ?_)
    obtain rfl : x_54_4 = nb (bt (ft w) q0) := by rw [ex_54_4]; rw [nF_r0]
    refine vp_callSi (W.runS (As := [.int (nI kd), .int (nb (bt (ft w) p0)), .int (nb (bt (ft w) q0))]) (rest := []) ⟨hx, hb, hml, hown, hts⟩ (c_joined l kd (bt (ft w) p0) (bt (ft w) q0) hkd) (va_cwS 3 hts gX0_join_X0_joined rfl rfl rfl (by decide +kernel) ⟨Nat.le_of_ble_eq_true rfl, Nat.le_of_ble_eq_true rfl⟩) ⟨fun _ _ _ _ q => q, fun U hU hW => ⟨rfl, trivial⟩⟩ rfl rfl hl.1 rfl (lv_room (Nat.le_of_ble_eq_true rfl)) dX0_join_54 ⟨Nat.zero_le _, Nat.zero_le _⟩) (fun r_54_5 er_54_5 => ?_)
    subst er_54_5
    refine lv_istore (lv' := [(7, .int (nb ((nyJ ft kd p0 q0) w))), (6, .int (nI w)), (5, .int (nI (nN (nyJ ft kd p0 q0) w))), (0, .ref (a 0)), (1, .int (nI tr)), (2, .int (nI kd)), (3, .int (nI p0)), (4, .int (nI q0))]) hx hb dX0_join_57 hl (by decide) rfl (fun ls hl => ?_)
    refine lv_aload_n hx hb dX0_join_59 rfl (lv_at hl 3 rfl) ?_
    refine lv_iload_n hx hb dX0_join_60 rfl (lv_at hl 4 rfl) ?_
    refine lv_iload hx hb dX0_join_61 (lv_at hl 1 rfl) ?_
    refine lv_iload hx hb dX0_join_63 (lv_at hl 0 rfl) ?_
    refine va_callv (va_runV (As := [.int (nI tr), .int (nI w), .int (nb ((nyJ ft kd p0 q0) w))]) (rest := []) ⟨hx, hb, hml, hown, hts⟩ (c_setTruth l dC dI a k fn (nF ft 0 w (nvT ft tr (nyJ ft kd p0 q0))) gn gt gm fl o hinj tr w htr hlt ((nyJ ft kd p0 q0) w)) (cwV 3 hts gX0_join_X0_setTruth rfl rfl rfl (by decide +kernel) ⟨Nat.le_of_ble_eq_true rfl, Nat.le_of_ble_eq_true rfl⟩) (nPreV hP hK (va_recv hK hP (ci := 0) (q0 := 0) rfl rfl)) rfl rfl hl.1 rfl (lv_room (Nat.le_of_ble_eq_true rfl)) dX0_join_65 ⟨Nat.zero_le _, Nat.zero_le _⟩) hS (fun _ _ h => h) (fun _ h => h) (fun _ t H locs ht hvm _ hB _ _ hS => ?_)
    have hP : va_P (dC, dI) vwCl (nW a k fn (upd (nF ft 0 w (nvT ft tr (nyJ ft kd p0 q0))) (nI w).toNatClampNeg (nS1 (nF ft 0 w (nvT ft tr (nyJ ft kd p0 q0)) w) tr ((nyJ ft kd p0 q0) w))) gn gt gm fl o) H := by rw [← ht]; exact hB.1
    have e_68_6 : upd (nF ft 0 w (nvT ft tr (nyJ ft kd p0 q0))) (nI w).toNatClampNeg (nS1 (nF ft 0 w (nvT ft tr (nyJ ft kd p0 q0)) w) tr ((nyJ ft kd p0 q0) w)) = nF ft 0 (w + 1) (nvT ft tr (nyJ ft kd p0 q0)) := nF_up0 (by omega) (by rw [nF_r0])
    have hP : va_P (dC, dI) vwCl (nW a k fn (nF ft 0 (w + 1) (nvT ft tr (nyJ ft kd p0 q0))) gn gt gm fl o) H := by rw [← e_68_6]; exact hP
    refine lv_iload hx hb dX0_join_68 (lv_at hl 2 rfl) ?_
    refine lv_iload hx hb dX0_join_70 (lv_at hl 0 rfl) ?_
    refine lv_if_eq (tgt := 79) hx hb dX0_join_72 (by decide) (fun c2 => ?_) (fun c2 => ?_)
    · refine lv_iconst (v := nI 0) hx hb dX0_join_79 (by decide +kernel) ?_
      refine lv_iadd hx hb dX0_join_80 ?_
      refine lv_topi (fun x_81_7 ex_81_7 => ?_)
      obtain rfl : x_81_7 = nI (nN (nyJ ft kd p0 q0) (w + 1)) := by rw [ex_81_7]; rw [← nN_s, show (nyJ ft kd p0 q0) w = false from nb_f c2]; rfl
      refine lv_istore (lv' := [(5, .int (nI (nN (nyJ ft kd p0 q0) (w + 1)))), (7, .int (nb ((nyJ ft kd p0 q0) w))), (6, .int (nI w)), (0, .ref (a 0)), (1, .int (nI tr)), (2, .int (nI kd)), (3, .int (nI p0)), (4, .int (nI q0))]) hx hb dX0_join_81 hl (by decide) rfl (fun ls hl => ?_)
      refine lv_iinc (v := nI (w + 1)) (lv' := [(6, .int (nI (w + 1))), (5, .int (nI (nN (nyJ ft kd p0 q0) (w + 1)))), (7, .int (nb ((nyJ ft kd p0 q0) w))), (0, .ref (a 0)), (1, .int (nI tr)), (2, .int (nI kd)), (3, .int (nI p0)), (4, .int (nI q0))]) hx hb dX0_join_83 hl (k := 2) rfl (nI_1 w) (by decide) rfl (fun ls hl => ?_)
      refine lv_goto (tgt := 30) hx hb dX0_join_86 (by decide) ?_
      exact ih hlt _ _ _ ⟨hP, hS, (lv_sub hl [0, 1, 3, 4, 5, 6, 7] rfl)⟩
    · refine lv_iconst (v := nI 1) hx hb dX0_join_75 (by decide +kernel) ?_
      refine lv_goto (tgt := 80) hx hb dX0_join_76 (by decide) ?_
      refine lv_iadd hx hb dX0_join_80 ?_
      refine lv_topi (fun x_81_7 ex_81_7 => ?_)
      obtain rfl : x_81_7 = nI (nN (nyJ ft kd p0 q0) (w + 1)) := by rw [ex_81_7]; rw [← nN_s, show (nyJ ft kd p0 q0) w = true from nb_t c2]; rfl
      refine lv_istore (lv' := [(5, .int (nI (nN (nyJ ft kd p0 q0) (w + 1)))), (7, .int (nb ((nyJ ft kd p0 q0) w))), (6, .int (nI w)), (0, .ref (a 0)), (1, .int (nI tr)), (2, .int (nI kd)), (3, .int (nI p0)), (4, .int (nI q0))]) hx hb dX0_join_81 hl (by decide) rfl (fun ls hl => ?_)
      refine lv_iinc (v := nI (w + 1)) (lv' := [(6, .int (nI (w + 1))), (5, .int (nI (nN (nyJ ft kd p0 q0) (w + 1)))), (7, .int (nb ((nyJ ft kd p0 q0) w))), (0, .ref (a 0)), (1, .int (nI tr)), (2, .int (nI kd)), (3, .int (nI p0)), (4, .int (nI q0))]) hx hb dX0_join_83 hl (k := 2) rfl (nI_1 w) (by decide) rfl (fun ls hl => ?_)
      refine lv_goto (tgt := 30) hx hb dX0_join_86 (by decide) ?_
      exact ih hlt _ _ _ ⟨hP, hS, (lv_sub hl [0, 1, 3, 4, 5, 6, 7] rfl)⟩
end
section
set_option maxHeartbeats 4000000 in
set_option maxRecDepth 100000 in
theorem c_choose (l : Launch) (dC : Nat → ClassId) (dI : Nat → Nat → Nat) (a : Nat → Nat) (k : Nat → ClassId) (fn ft gn gt gm : Nat → Int32) (fl : Int32) (o : Nat → Int64) (hinj : nInj a) (sl tr p0 q0 : Nat) (hsl : sl < 8) (htr : tr < 8) (hp0 : p0 < 8) (hq0 : q0 < 8) : Met l yX0_choose wsX0_choose ({ frames := 2, cells := 0, slots := 0, locals := 64 }) (va_Pc [.ref (a 0), .int (nI sl), .int (nI tr), .int (nI p0), .int (nI q0)] (nPw dC dI a k fn ft gn gt gm fl o)) (nQv (nPw dC dI a k (nF fn (1024 * sl) 1024 (nvH fn ft tr p0 q0)) ft gn gt gm fl o) a) 0 0 (nA0 a) := by
  refine Met.ofW (cc := cX0_choose) (maxL := 7) (ret := none) (by decide) rfl ?_
  intro p e s m args below meth c s₁ B hml hv
  obtain ⟨rfl, hP, hK⟩ := hv
  have hx := B.exec
  have hb := B.bytes
  have hr := B.returns
  have hts := atoms_spec (ws := wsX0_choose) B.pre
  have hown : s.vm.findClass RX0 = some m.cls := findClass_of_methodNamed B.named
  have hlocks := B.notSynchronized
  have hS : va_S (nA0 a) s.heap s.heap [] := va_S.rf
  have hl := lv_entry ([.ref (a 0), .int (nI sl), .int (nI tr), .int (nI p0), .int (nI q0)]) (n := 7) (Nat.le_of_ble_eq_true rfl)
  rw [lg_entry_eq]
  generalize (lg_sl ([.ref (a 0), .int (nI sl), .int (nI tr), .int (nI p0), .int (nI q0)]) ++ List.replicate (7 - (lg_sl ([.ref (a 0), .int (nI sl), .int (nI tr), .int (nI p0), .int (nI q0)])).length) Slot.unset).toArray = ls at hl ⊢
  have hl : lv_has ls 7 [(0, .ref (a 0)), (1, .int (nI sl)), (2, .int (nI tr)), (3, .int (nI p0)), (4, .int (nI q0))] := hl
  refine lv_iload_n hx hb dX0_choose_0 rfl (lv_at hl 1 rfl) ?_
  refine lv_bipush (v := nI 7) hx hb dX0_choose_1 (by decide +kernel) ?_
  refine va_csv (W.runS (As := [.int (nI sl), .int (nI 7)]) (rest := []) ⟨hx, hb, hml, hown, hts⟩ (c_needUpTo l sl 7 (by omega) (by omega)) (va_cwS 2 hts gX0_choose_X0_needUpTo rfl rfl rfl (by decide +kernel) ⟨Nat.le_of_ble_eq_true rfl, Nat.le_of_ble_eq_true rfl⟩) ⟨fun _ _ _ _ q => q, fun U hU hW => ⟨rfl, trivial⟩⟩ rfl rfl hl.1 rfl (lv_room (Nat.le_of_ble_eq_true rfl)) dX0_choose_3 ⟨Nat.zero_le _, Nat.zero_le _⟩) (fun _ => ?_)
  refine lv_iload_n hx hb dX0_choose_6 rfl (lv_at hl 2 rfl) ?_
  refine lv_bipush (v := nI 7) hx hb dX0_choose_7 (by decide +kernel) ?_
  refine va_csv (W.runS (As := [.int (nI tr), .int (nI 7)]) (rest := []) ⟨hx, hb, hml, hown, hts⟩ (c_needUpTo l tr 7 (by omega) (by omega)) (va_cwS 2 hts gX0_choose_X0_needUpTo rfl rfl rfl (by decide +kernel) ⟨Nat.le_of_ble_eq_true rfl, Nat.le_of_ble_eq_true rfl⟩) ⟨fun _ _ _ _ q => q, fun U hU hW => ⟨rfl, trivial⟩⟩ rfl rfl hl.1 rfl (lv_room (Nat.le_of_ble_eq_true rfl)) dX0_choose_9 ⟨Nat.zero_le _, Nat.zero_le _⟩) (fun _ => ?_)
  refine lv_iload_n hx hb dX0_choose_12 rfl (lv_at hl 3 rfl) ?_
  refine lv_bipush (v := nI 7) hx hb dX0_choose_13 (by decide +kernel) ?_
  refine va_csv (W.runS (As := [.int (nI p0), .int (nI 7)]) (rest := []) ⟨hx, hb, hml, hown, hts⟩ (c_needUpTo l p0 7 (by omega) (by omega)) (va_cwS 2 hts gX0_choose_X0_needUpTo rfl rfl rfl (by decide +kernel) ⟨Nat.le_of_ble_eq_true rfl, Nat.le_of_ble_eq_true rfl⟩) ⟨fun _ _ _ _ q => q, fun U hU hW => ⟨rfl, trivial⟩⟩ rfl rfl hl.1 rfl (lv_room (Nat.le_of_ble_eq_true rfl)) dX0_choose_15 ⟨Nat.zero_le _, Nat.zero_le _⟩) (fun _ => ?_)
  refine lv_iload hx hb dX0_choose_18 (lv_at hl 4 rfl) ?_
  refine lv_bipush (v := nI 7) hx hb dX0_choose_20 (by decide +kernel) ?_
  refine va_csv (W.runS (As := [.int (nI q0), .int (nI 7)]) (rest := []) ⟨hx, hb, hml, hown, hts⟩ (c_needUpTo l q0 7 (by omega) (by omega)) (va_cwS 2 hts gX0_choose_X0_needUpTo rfl rfl rfl (by decide +kernel) ⟨Nat.le_of_ble_eq_true rfl, Nat.le_of_ble_eq_true rfl⟩) ⟨fun _ _ _ _ q => q, fun U hU hW => ⟨rfl, trivial⟩⟩ rfl rfl hl.1 rfl (lv_room (Nat.le_of_ble_eq_true rfl)) dX0_choose_22 ⟨Nat.zero_le _, Nat.zero_le _⟩) (fun _ => ?_)
  refine lv_iconst (v := nI 0) hx hb dX0_choose_25 (by decide +kernel) ?_
  refine lv_istore (lv' := [(5, .int (nI 0)), (0, .ref (a 0)), (1, .int (nI sl)), (2, .int (nI tr)), (3, .int (nI p0)), (4, .int (nI q0))]) hx hb dX0_choose_26 hl (by decide) rfl (fun ls hl => ?_)
  refine nc_loop 1024 (fun w H locs ls => va_P (dC, dI) vwCl (nW a k (nF fn (1024 * sl) w (nvH fn ft tr p0 q0)) ft gn gt gm fl o) H ∧ va_S (nA0 a) s.heap H locs ∧ lv_has ls 7 [(5, .int (nI w)), (0, .ref (a 0)), (1, .int (nI sl)), (2, .int (nI tr)), (3, .int (nI p0)), (4, .int (nI q0))]) ⟨(by rw [nF_0]; exact hP), hS, (lv_sub hl [0, 1, 2, 3, 4, 5] rfl)⟩ ?_
  intro w H locs ls hw hI ih
  obtain ⟨hP, hS, hl⟩ := hI
  refine lv_iload hx hb dX0_choose_28 (lv_at hl 0 rfl) ?_
  refine lv_sipush (v := nI 1024) hx hb dX0_choose_30 (by decide +kernel) ?_
  refine lv_icmp_ge (tgt := 83) hx hb dX0_choose_33 (by decide) (fun c1 => ?_) (fun c1 => ?_)
  · obtain rfl : w = 1024 := nHi (by decide) hw c1
    exact W.vret hx hb hr (fun t ht hW => ⟨⟨(), rfl, trivial, by rw [ht]; exact hP, va_K.moved hW.alike hK⟩, hS.F ht⟩) hS.2.2 dX0_choose_83
  · have hlt : w < 1024 := nLo (by decide) hw c1
    refine lv_aload_n hx hb dX0_choose_36 rfl (lv_at hl 1 rfl) ?_
    refine lv_iload_n hx hb dX0_choose_37 rfl (lv_at hl 3 rfl) ?_
    refine lv_iload hx hb dX0_choose_38 (lv_at hl 0 rfl) ?_
    refine vp_callSi (W.runV (As := [.int (nI tr), .int (nI w)]) (rest := []) ⟨hx, hb, hml, hown, hts⟩ (c_isYes l dC dI a k (nF fn (1024 * sl) w (nvH fn ft tr p0 q0)) ft gn gt gm fl o tr w htr hlt) (cwV 2 hts gX0_choose_X0_isYes rfl rfl rfl (by decide +kernel) ⟨Nat.le_of_ble_eq_true rfl, Nat.le_of_ble_eq_true rfl⟩) (nPreV hP hK (va_recv hK hP (ci := 0) (q0 := 0) rfl rfl)) rfl rfl hl.1 rfl (lv_room (Nat.le_of_ble_eq_true rfl)) dX0_choose_40 ⟨Nat.zero_le _, Nat.zero_le _⟩) (fun r_40_1 er_40_1 => ?_)
    subst er_40_1
    refine lv_if_eq (tgt := 50) hx hb dX0_choose_43 (by decide) (fun c2 => ?_) (fun c2 => ?_)
    · have hbt : bt (ft w) tr = false := nb_f c2
      refine lv_iload hx hb dX0_choose_50 (lv_at hl 5 rfl) ?_
      refine lv_istore (lv' := [(6, .int (nI q0)), (5, .int (nI w)), (0, .ref (a 0)), (1, .int (nI sl)), (2, .int (nI tr)), (3, .int (nI p0)), (4, .int (nI q0))]) hx hb dX0_choose_52 hl (by decide) rfl (fun ls hl => ?_)
      refine lv_aload_n hx hb dX0_choose_54 rfl (lv_at hl 2 rfl) ?_
      refine va_get (D := (dC, dI)) (ci := 0) (v := .ref (a 1)) (C := RX0) (T := TX0) (N := 2) hx hb hts inX0_choose hown hK hP 0 rfl rfl 0 (by decide) (hts (.fieldLink RX0 9 "NumberCircuits" "numbers" "[S") (by decide +kernel)) (fun _ h9 => h9) rfl dX0_choose_55 ?_
      refine lv_iload_n hx hb dX0_choose_58 rfl (lv_at hl 3 rfl) ?_
      refine lv_iload hx hb dX0_choose_59 (lv_at hl 1 rfl) ?_
      refine vp_callSi (W.runS (As := [.int (nI sl), .int (nI w)]) (rest := [.ref (a 1)]) ⟨hx, hb, hml, hown, hts⟩ (c_place l sl w) (va_cwS 2 hts gX0_choose_X0_place rfl rfl rfl (by decide +kernel) ⟨Nat.le_of_ble_eq_true rfl, Nat.le_of_ble_eq_true rfl⟩) ⟨fun _ _ _ _ q => q, fun U hU hW => ⟨rfl, trivial⟩⟩ rfl rfl hl.1 rfl (lv_room (Nat.le_of_ble_eq_true rfl)) dX0_choose_61 ⟨Nat.zero_le _, Nat.zero_le _⟩) (fun r_61_2 er_61_2 => ?_)
      subst er_61_2
      refine lv_aload_n hx hb dX0_choose_64 rfl (lv_at hl 2 rfl) ?_
      refine va_get (D := (dC, dI)) (ci := 0) (v := .ref (a 1)) (C := RX0) (T := TX0) (N := 2) hx hb hts inX0_choose hown hK hP 0 rfl rfl 0 (by decide) (hts (.fieldLink RX0 9 "NumberCircuits" "numbers" "[S") (by decide +kernel)) (fun _ h9 => h9) rfl dX0_choose_65 ?_
      refine lv_iload hx hb dX0_choose_68 (lv_at hl 0 rfl) ?_
      refine lv_iload hx hb dX0_choose_70 (lv_at hl 1 rfl) ?_
      refine vp_callSi (W.runS (As := [.int (nI q0), .int (nI w)]) (rest := [.ref (a 1), .int (nI (1024 * sl + w)), .ref (a 1)]) ⟨hx, hb, hml, hown, hts⟩ (c_place l q0 w) (va_cwS 2 hts gX0_choose_X0_place rfl rfl rfl (by decide +kernel) ⟨Nat.le_of_ble_eq_true rfl, Nat.le_of_ble_eq_true rfl⟩) ⟨fun _ _ _ _ q => q, fun U hU hW => ⟨rfl, trivial⟩⟩ rfl rfl hl.1 rfl (lv_room (Nat.le_of_ble_eq_true rfl)) dX0_choose_72 ⟨Nat.zero_le _, Nat.zero_le _⟩) (fun r_72_3 er_72_3 => ?_)
      subst er_72_3
      refine va_sald (i := nI (1024 * q0 + w)) hx hb hK hP 1 0 rfl rfl (vp_in_nI (by omega) (by decide)) dX0_choose_75 ?_
      refine lv_topi (fun x_76_4 ex_76_4 => ?_)
      obtain rfl : x_76_4 = fn (1024 * q0 + w) := by rw [ex_76_4]; rw [nI_clamp (show 1024 * q0 + w < 2 ^ 31 by omega)]; exact nF_r hlt
      refine va_sast (i := nI (1024 * sl + w)) (x := fn (1024 * q0 + w)) hx hb hK hP (nDA hinj) hS 1 0 rfl rfl (vp_in_nI (by omega) (by decide)) dX0_choose_76 (fun H locs hP _ hS => ?_)
      have e_76_5 : upd (nF fn (1024 * sl) w (nvH fn ft tr p0 q0)) (nI (1024 * sl + w)).toNatClampNeg (vp_nar .short (fn (1024 * q0 + w))) = nF fn (1024 * sl) (w + 1) (nvH fn ft tr p0 q0) := nF_up (by omega) (by unfold nvH; rw [hbt]; rfl)
      have hP : va_P (dC, dI) vwCl (nW a k (nF fn (1024 * sl) (w + 1) (nvH fn ft tr p0 q0)) ft gn gt gm fl o) H := by rw [← e_76_5]; exact hP
      refine lv_iinc (v := nI (w + 1)) (lv' := [(5, .int (nI (w + 1))), (6, .int (nI q0)), (0, .ref (a 0)), (1, .int (nI sl)), (2, .int (nI tr)), (3, .int (nI p0)), (4, .int (nI q0))]) hx hb dX0_choose_77 hl (k := 1) rfl (nI_1 w) (by decide) rfl (fun ls hl => ?_)
      refine lv_goto (tgt := 28) hx hb dX0_choose_80 (by decide) ?_
      exact ih hlt _ _ _ ⟨hP, hS, (lv_sub hl [0, 2, 3, 4, 5, 6] rfl)⟩
    · have hbt : bt (ft w) tr = true := nb_t c2
      refine lv_iload_n hx hb dX0_choose_46 rfl (lv_at hl 4 rfl) ?_
      refine lv_goto (tgt := 52) hx hb dX0_choose_47 (by decide) ?_
      refine lv_istore (lv' := [(6, .int (nI p0)), (5, .int (nI w)), (0, .ref (a 0)), (1, .int (nI sl)), (2, .int (nI tr)), (3, .int (nI p0)), (4, .int (nI q0))]) hx hb dX0_choose_52 hl (by decide) rfl (fun ls hl => ?_)
      refine lv_aload_n hx hb dX0_choose_54 rfl (lv_at hl 2 rfl) ?_
      refine va_get (D := (dC, dI)) (ci := 0) (v := .ref (a 1)) (C := RX0) (T := TX0) (N := 2) hx hb hts inX0_choose hown hK hP 0 rfl rfl 0 (by decide) (hts (.fieldLink RX0 9 "NumberCircuits" "numbers" "[S") (by decide +kernel)) (fun _ h9 => h9) rfl dX0_choose_55 ?_
      refine lv_iload_n hx hb dX0_choose_58 rfl (lv_at hl 3 rfl) ?_
      refine lv_iload hx hb dX0_choose_59 (lv_at hl 1 rfl) ?_
      refine vp_callSi (W.runS (As := [.int (nI sl), .int (nI w)]) (rest := [.ref (a 1)]) ⟨hx, hb, hml, hown, hts⟩ (c_place l sl w) (va_cwS 2 hts gX0_choose_X0_place rfl rfl rfl (by decide +kernel) ⟨Nat.le_of_ble_eq_true rfl, Nat.le_of_ble_eq_true rfl⟩) ⟨fun _ _ _ _ q => q, fun U hU hW => ⟨rfl, trivial⟩⟩ rfl rfl hl.1 rfl (lv_room (Nat.le_of_ble_eq_true rfl)) dX0_choose_61 ⟨Nat.zero_le _, Nat.zero_le _⟩) (fun r_61_2 er_61_2 => ?_)
      subst er_61_2
      refine lv_aload_n hx hb dX0_choose_64 rfl (lv_at hl 2 rfl) ?_
      refine va_get (D := (dC, dI)) (ci := 0) (v := .ref (a 1)) (C := RX0) (T := TX0) (N := 2) hx hb hts inX0_choose hown hK hP 0 rfl rfl 0 (by decide) (hts (.fieldLink RX0 9 "NumberCircuits" "numbers" "[S") (by decide +kernel)) (fun _ h9 => h9) rfl dX0_choose_65 ?_
      refine lv_iload hx hb dX0_choose_68 (lv_at hl 0 rfl) ?_
      refine lv_iload hx hb dX0_choose_70 (lv_at hl 1 rfl) ?_
      refine vp_callSi (W.runS (As := [.int (nI p0), .int (nI w)]) (rest := [.ref (a 1), .int (nI (1024 * sl + w)), .ref (a 1)]) ⟨hx, hb, hml, hown, hts⟩ (c_place l p0 w) (va_cwS 2 hts gX0_choose_X0_place rfl rfl rfl (by decide +kernel) ⟨Nat.le_of_ble_eq_true rfl, Nat.le_of_ble_eq_true rfl⟩) ⟨fun _ _ _ _ q => q, fun U hU hW => ⟨rfl, trivial⟩⟩ rfl rfl hl.1 rfl (lv_room (Nat.le_of_ble_eq_true rfl)) dX0_choose_72 ⟨Nat.zero_le _, Nat.zero_le _⟩) (fun r_72_3 er_72_3 => ?_)
      subst er_72_3
      refine va_sald (i := nI (1024 * p0 + w)) hx hb hK hP 1 0 rfl rfl (vp_in_nI (by omega) (by decide)) dX0_choose_75 ?_
      refine lv_topi (fun x_76_4 ex_76_4 => ?_)
      obtain rfl : x_76_4 = fn (1024 * p0 + w) := by rw [ex_76_4]; rw [nI_clamp (show 1024 * p0 + w < 2 ^ 31 by omega)]; exact nF_r hlt
      refine va_sast (i := nI (1024 * sl + w)) (x := fn (1024 * p0 + w)) hx hb hK hP (nDA hinj) hS 1 0 rfl rfl (vp_in_nI (by omega) (by decide)) dX0_choose_76 (fun H locs hP _ hS => ?_)
      have e_76_5 : upd (nF fn (1024 * sl) w (nvH fn ft tr p0 q0)) (nI (1024 * sl + w)).toNatClampNeg (vp_nar .short (fn (1024 * p0 + w))) = nF fn (1024 * sl) (w + 1) (nvH fn ft tr p0 q0) := nF_up (by omega) (by unfold nvH; rw [hbt]; rfl)
      have hP : va_P (dC, dI) vwCl (nW a k (nF fn (1024 * sl) (w + 1) (nvH fn ft tr p0 q0)) ft gn gt gm fl o) H := by rw [← e_76_5]; exact hP
      refine lv_iinc (v := nI (w + 1)) (lv' := [(5, .int (nI (w + 1))), (6, .int (nI p0)), (0, .ref (a 0)), (1, .int (nI sl)), (2, .int (nI tr)), (3, .int (nI p0)), (4, .int (nI q0))]) hx hb dX0_choose_77 hl (k := 1) rfl (nI_1 w) (by decide) rfl (fun ls hl => ?_)
      refine lv_goto (tgt := 28) hx hb dX0_choose_80 (by decide) ?_
      exact ih hlt _ _ _ ⟨hP, hS, (lv_sub hl [0, 2, 3, 4, 5, 6] rfl)⟩
set_option maxHeartbeats 4000000 in
set_option maxRecDepth 100000 in
theorem c_value (l : Launch) (dC : Nat → ClassId) (dI : Nat → Nat → Nat) (a : Nat → Nat) (k : Nat → ClassId) (fn ft gn gt gm : Nat → Int32) (fl : Int32) (o : Nat → Int64) (sl wy : Nat) (hsl : sl < 8) (hwy : wy < 1024) : Met l yX0_value wsX0_value ({ frames := 2, cells := 0, slots := 0, locals := 64 }) (va_Pc [.ref (a 0), .int (nI sl), .int (nI wy)] (nPw dC dI a k fn ft gn gt gm fl o)) (vp_Si (fun r => r = fn (1024 * sl + wy))) 0 0 (fun _ => False) := by
  refine Met.ofW (cc := cX0_value) (maxL := 3) (ret := (some .int)) (by decide) rfl ?_
  intro p e s m args below meth c s₁ B hml hv
  obtain ⟨rfl, hP, hK⟩ := hv
  have hx := B.exec
  have hb := B.bytes
  have hr := B.returns
  have hts := atoms_spec (ws := wsX0_value) B.pre
  have hown : s.vm.findClass RX0 = some m.cls := findClass_of_methodNamed B.named
  have hlocks := B.notSynchronized
  have hl := lv_entry ([.ref (a 0), .int (nI sl), .int (nI wy)]) (n := 3) (Nat.le_of_ble_eq_true rfl)
  rw [lg_entry_eq]
  generalize (lg_sl ([.ref (a 0), .int (nI sl), .int (nI wy)]) ++ List.replicate (3 - (lg_sl ([.ref (a 0), .int (nI sl), .int (nI wy)])).length) Slot.unset).toArray = ls at hl ⊢
  have hl : lv_has ls 3 [(0, .ref (a 0)), (1, .int (nI sl)), (2, .int (nI wy))] := hl
  refine lv_iload_n hx hb dX0_value_0 rfl (lv_at hl 1 rfl) ?_
  refine lv_bipush (v := nI 7) hx hb dX0_value_1 (by decide +kernel) ?_
  refine va_csv (W.runS (As := [.int (nI sl), .int (nI 7)]) (rest := []) ⟨hx, hb, hml, hown, hts⟩ (c_needUpTo l sl 7 (by omega) (by omega)) (va_cwS 2 hts gX0_value_X0_needUpTo rfl rfl rfl (by decide +kernel) ⟨Nat.le_of_ble_eq_true rfl, Nat.le_of_ble_eq_true rfl⟩) ⟨fun _ _ _ _ q => q, fun U hU hW => ⟨rfl, trivial⟩⟩ rfl rfl hl.1 rfl (lv_room (Nat.le_of_ble_eq_true rfl)) dX0_value_3 ⟨Nat.zero_le _, Nat.zero_le _⟩) (fun _ => ?_)
  refine lv_iload_n hx hb dX0_value_6 rfl (lv_at hl 2 rfl) ?_
  refine lv_sipush (v := nI 1023) hx hb dX0_value_7 (by decide +kernel) ?_
  refine va_csv (W.runS (As := [.int (nI wy), .int (nI 1023)]) (rest := []) ⟨hx, hb, hml, hown, hts⟩ (c_needUpTo l wy 1023 (by omega) (by omega)) (va_cwS 2 hts gX0_value_X0_needUpTo rfl rfl rfl (by decide +kernel) ⟨Nat.le_of_ble_eq_true rfl, Nat.le_of_ble_eq_true rfl⟩) ⟨fun _ _ _ _ q => q, fun U hU hW => ⟨rfl, trivial⟩⟩ rfl rfl hl.1 rfl (lv_room (Nat.le_of_ble_eq_true rfl)) dX0_value_10 ⟨Nat.zero_le _, Nat.zero_le _⟩) (fun _ => ?_)
  refine lv_aload_n hx hb dX0_value_13 rfl (lv_at hl 0 rfl) ?_
  refine va_get (D := (dC, dI)) (ci := 0) (v := .ref (a 1)) (C := RX0) (T := TX0) (N := 2) hx hb hts inX0_value hown hK hP 0 rfl rfl 0 (by decide) (hts (.fieldLink RX0 9 "NumberCircuits" "numbers" "[S") (by decide +kernel)) (fun _ h9 => h9) rfl dX0_value_14 ?_
  refine lv_iload_n hx hb dX0_value_17 rfl (lv_at hl 1 rfl) ?_
  refine lv_iload_n hx hb dX0_value_18 rfl (lv_at hl 2 rfl) ?_
  refine vp_callSi (W.runS (As := [.int (nI sl), .int (nI wy)]) (rest := [.ref (a 1)]) ⟨hx, hb, hml, hown, hts⟩ (c_place l sl wy) (va_cwS 2 hts gX0_value_X0_place rfl rfl rfl (by decide +kernel) ⟨Nat.le_of_ble_eq_true rfl, Nat.le_of_ble_eq_true rfl⟩) ⟨fun _ _ _ _ q => q, fun U hU hW => ⟨rfl, trivial⟩⟩ rfl rfl hl.1 rfl (lv_room (Nat.le_of_ble_eq_true rfl)) dX0_value_19 ⟨Nat.zero_le _, Nat.zero_le _⟩) (fun r_19_1 er_19_1 => ?_)
  subst er_19_1
  refine va_sald (i := nI (1024 * sl + wy)) hx hb hK hP 1 0 rfl rfl (vp_in_nI (by omega) (by decide)) dX0_value_22 ?_
  refine lv_topi (fun x_23_2 ex_23_2 => ?_)
  obtain rfl : x_23_2 = fn (1024 * sl + wy) := by rw [ex_23_2]; rw [nI_clamp (show 1024 * sl + wy < 2 ^ 31 by omega)]
  exact W.iret hx hb hr (fun t ht hW => ⟨_, rfl, rfl, ht⟩) (fun _ h => absurd h List.not_mem_nil) dX0_value_23
set_option maxHeartbeats 4000000 in
set_option maxRecDepth 100000 in
theorem c_way (l : Launch) (dC : Nat → ClassId) (dI : Nat → Nat → Nat) (a : Nat → Nat) (k : Nat → ClassId) (fn ft gn gt gm : Nat → Int32) (fl : Int32) (o : Nat → Int64) (tr w0 : Nat) (htr : tr < 8) (hw0 : w0 < 1024) (hy0 : bt (ft w0) tr = true) (hn0 : ∀ j, j < w0 → bt (ft j) tr = false) : Met l yX0_way wsX0_way ({ frames := 2, cells := 0, slots := 0, locals := 64 }) (va_Pc [.ref (a 0), .int (nI tr)] (nPw dC dI a k fn ft gn gt gm fl o)) (vp_Si (fun r => r = nI w0)) 0 0 (fun _ => False) := by
  refine Met.ofW (cc := cX0_way) (maxL := 3) (ret := (some .int)) (by decide) rfl ?_
  intro p e s m args below meth c s₁ B hml hv
  obtain ⟨rfl, hP, hK⟩ := hv
  have hx := B.exec
  have hb := B.bytes
  have hr := B.returns
  have hts := atoms_spec (ws := wsX0_way) B.pre
  have hown : s.vm.findClass RX0 = some m.cls := findClass_of_methodNamed B.named
  have hlocks := B.notSynchronized
  have hl := lv_entry ([.ref (a 0), .int (nI tr)]) (n := 3) (Nat.le_of_ble_eq_true rfl)
  rw [lg_entry_eq]
  generalize (lg_sl ([.ref (a 0), .int (nI tr)]) ++ List.replicate (3 - (lg_sl ([.ref (a 0), .int (nI tr)])).length) Slot.unset).toArray = ls at hl ⊢
  have hl : lv_has ls 3 [(0, .ref (a 0)), (1, .int (nI tr))] := hl
  refine lv_iload_n hx hb dX0_way_0 rfl (lv_at hl 1 rfl) ?_
  refine lv_bipush (v := nI 7) hx hb dX0_way_1 (by decide +kernel) ?_
  refine va_csv (W.runS (As := [.int (nI tr), .int (nI 7)]) (rest := []) ⟨hx, hb, hml, hown, hts⟩ (c_needUpTo l tr 7 (by omega) (by omega)) (va_cwS 2 hts gX0_way_X0_needUpTo rfl rfl rfl (by decide +kernel) ⟨Nat.le_of_ble_eq_true rfl, Nat.le_of_ble_eq_true rfl⟩) ⟨fun _ _ _ _ q => q, fun U hU hW => ⟨rfl, trivial⟩⟩ rfl rfl hl.1 rfl (lv_room (Nat.le_of_ble_eq_true rfl)) dX0_way_3 ⟨Nat.zero_le _, Nat.zero_le _⟩) (fun _ => ?_)
  refine lv_iconst (v := nI 0) hx hb dX0_way_6 (by decide +kernel) ?_
  refine lv_istore_n (lv' := [(2, .int (nI 0)), (0, .ref (a 0)), (1, .int (nI tr))]) hx hb dX0_way_7 rfl hl (by decide) rfl (fun ls hl => ?_)
  refine nc_loop 1024 (fun w H locs ls => H = s.heap ∧ locs = [] ∧ (w ≤ w0) ∧ lv_has ls 3 [(2, .int (nI w)), (0, .ref (a 0)), (1, .int (nI tr))]) ⟨rfl, rfl, Nat.zero_le _, (lv_sub hl [0, 1, 2] rfl)⟩ ?_
  intro w H locs ls hw hI ih
  obtain ⟨rfl, rfl, hwl, hl⟩ := hI
  refine lv_iload_n hx hb dX0_way_8 rfl (lv_at hl 0 rfl) ?_
  refine lv_sipush (v := nI 1024) hx hb dX0_way_9 (by decide +kernel) ?_
  refine lv_icmp_ge (tgt := 32) hx hb dX0_way_12 (by decide) (fun c1 => ?_) (fun c1 => ?_)
  · exact absurd (nHi (by decide) hw c1) (by omega)
  · have hlt : w < 1024 := nLo (by decide) hw c1
    refine lv_aload_n hx hb dX0_way_15 rfl (lv_at hl 1 rfl) ?_
    refine lv_iload_n hx hb dX0_way_16 rfl (lv_at hl 2 rfl) ?_
    refine lv_iload_n hx hb dX0_way_17 rfl (lv_at hl 0 rfl) ?_
    refine vp_callSi (W.runV (As := [.int (nI tr), .int (nI w)]) (rest := []) ⟨hx, hb, hml, hown, hts⟩ (c_isYes l dC dI a k fn ft gn gt gm fl o tr w htr hlt) (cwV 2 hts gX0_way_X0_isYes rfl rfl rfl (by decide +kernel) ⟨Nat.le_of_ble_eq_true rfl, Nat.le_of_ble_eq_true rfl⟩) (nPreV hP hK (va_recv hK hP (ci := 0) (q0 := 0) rfl rfl)) rfl rfl hl.1 rfl (lv_room (Nat.le_of_ble_eq_true rfl)) dX0_way_18 ⟨Nat.zero_le _, Nat.zero_le _⟩) (fun r_18_1 er_18_1 => ?_)
    subst er_18_1
    refine lv_if_eq (tgt := 26) hx hb dX0_way_21 (by decide) (fun c2 => ?_) (fun c2 => ?_)
    · have hne : w ≠ w0 := fun h => by rw [h, hy0] at c2; exact absurd c2 (by decide +kernel)
      refine lv_iinc (v := nI (w + 1)) (lv' := [(2, .int (nI (w + 1))), (0, .ref (a 0)), (1, .int (nI tr))]) hx hb dX0_way_26 hl (k := 0) rfl (nI_1 w) (by decide) rfl (fun ls hl => ?_)
      refine lv_goto (tgt := 8) hx hb dX0_way_29 (by decide) ?_
      exact ih hlt _ _ _ ⟨rfl, rfl, (by omega), (lv_sub hl [0, 1, 2] rfl)⟩
    · obtain rfl : w = w0 := by
        rcases Nat.lt_or_ge w w0 with q | q
        · rw [hn0 w q] at c2; exact absurd (by decide +kernel) c2
        · omega
      refine lv_iload_n hx hb dX0_way_24 rfl (lv_at hl 0 rfl) ?_
      exact W.iret hx hb hr (fun t ht hW => ⟨_, rfl, rfl, ht⟩) (fun _ h => absurd h List.not_mem_nil) dX0_way_25
set_option maxHeartbeats 4000000 in
set_option maxRecDepth 100000 in
theorem c_same (l : Launch) (dC : Nat → ClassId) (dI : Nat → Nat → Nat) (a : Nat → Nat) (k : Nat → ClassId) (fn ft gn gt gm : Nat → Int32) (fl : Int32) (o : Nat → Int64) (p0 q0 : Nat) (hp0 : p0 < 8) (hq0 : q0 < 8) : Met l yX0_same wsX0_same ({ frames := 2, cells := 0, slots := 0, locals := 64 }) (va_Pc [.ref (a 0), .int (nI p0), .int (nI q0)] (nPw dC dI a k fn ft gn gt gm fl o)) (vp_Si (fun r => r = nb (nAll (nqS fn p0 q0) 1024))) 0 0 (fun _ => False) := by
  refine Met.ofW (cc := cX0_same) (maxL := 4) (ret := (some .boolean)) (by decide) rfl ?_
  intro p e s m args below meth c s₁ B hml hv
  obtain ⟨rfl, hP, hK⟩ := hv
  have hx := B.exec
  have hb := B.bytes
  have hr := B.returns
  have hts := atoms_spec (ws := wsX0_same) B.pre
  have hown : s.vm.findClass RX0 = some m.cls := findClass_of_methodNamed B.named
  have hlocks := B.notSynchronized
  have hl := lv_entry ([.ref (a 0), .int (nI p0), .int (nI q0)]) (n := 4) (Nat.le_of_ble_eq_true rfl)
  rw [lg_entry_eq]
  generalize (lg_sl ([.ref (a 0), .int (nI p0), .int (nI q0)]) ++ List.replicate (4 - (lg_sl ([.ref (a 0), .int (nI p0), .int (nI q0)])).length) Slot.unset).toArray = ls at hl ⊢
  have hl : lv_has ls 4 [(0, .ref (a 0)), (1, .int (nI p0)), (2, .int (nI q0))] := hl
  refine lv_iload_n hx hb dX0_same_0 rfl (lv_at hl 1 rfl) ?_
  refine lv_bipush (v := nI 7) hx hb dX0_same_1 (by decide +kernel) ?_
  refine va_csv (W.runS (As := [.int (nI p0), .int (nI 7)]) (rest := []) ⟨hx, hb, hml, hown, hts⟩ (c_needUpTo l p0 7 (by omega) (by omega)) (va_cwS 2 hts gX0_same_X0_needUpTo rfl rfl rfl (by decide +kernel) ⟨Nat.le_of_ble_eq_true rfl, Nat.le_of_ble_eq_true rfl⟩) ⟨fun _ _ _ _ q => q, fun U hU hW => ⟨rfl, trivial⟩⟩ rfl rfl hl.1 rfl (lv_room (Nat.le_of_ble_eq_true rfl)) dX0_same_3 ⟨Nat.zero_le _, Nat.zero_le _⟩) (fun _ => ?_)
  refine lv_iload_n hx hb dX0_same_6 rfl (lv_at hl 2 rfl) ?_
  refine lv_bipush (v := nI 7) hx hb dX0_same_7 (by decide +kernel) ?_
  refine va_csv (W.runS (As := [.int (nI q0), .int (nI 7)]) (rest := []) ⟨hx, hb, hml, hown, hts⟩ (c_needUpTo l q0 7 (by omega) (by omega)) (va_cwS 2 hts gX0_same_X0_needUpTo rfl rfl rfl (by decide +kernel) ⟨Nat.le_of_ble_eq_true rfl, Nat.le_of_ble_eq_true rfl⟩) ⟨fun _ _ _ _ q => q, fun U hU hW => ⟨rfl, trivial⟩⟩ rfl rfl hl.1 rfl (lv_room (Nat.le_of_ble_eq_true rfl)) dX0_same_9 ⟨Nat.zero_le _, Nat.zero_le _⟩) (fun _ => ?_)
  refine lv_iconst (v := nI 0) hx hb dX0_same_12 (by decide +kernel) ?_
  refine lv_istore_n (lv' := [(3, .int (nI 0)), (0, .ref (a 0)), (1, .int (nI p0)), (2, .int (nI q0))]) hx hb dX0_same_13 rfl hl (by decide) rfl (fun ls hl => ?_)
  refine nc_loop 1024 (fun w H locs ls => H = s.heap ∧ locs = [] ∧ (∀ j, j < w → (nqS fn p0 q0) j = true) ∧ lv_has ls 4 [(3, .int (nI w)), (0, .ref (a 0)), (1, .int (nI p0)), (2, .int (nI q0))]) ⟨rfl, rfl, (fun j hj => absurd hj (by omega)), (lv_sub hl [0, 1, 2, 3] rfl)⟩ ?_
  intro w H locs ls hw hI ih
  obtain ⟨rfl, rfl, hq, hl⟩ := hI
  refine lv_iload_n hx hb dX0_same_14 rfl (lv_at hl 0 rfl) ?_
  refine lv_sipush (v := nI 1024) hx hb dX0_same_15 (by decide +kernel) ?_
  refine lv_icmp_ge (tgt := 52) hx hb dX0_same_18 (by decide) (fun c1 => ?_) (fun c1 => ?_)
  · obtain rfl : w = 1024 := nHi (by decide) hw c1
    refine lv_iconst (v := nI 1) hx hb dX0_same_52 (by decide +kernel) ?_
    exact W.zret hx hb hr (by decide +kernel) (fun t ht hW => ⟨_, rfl, (by rw [nAll_t 1024 hq]; rfl), ht⟩) (fun _ h => absurd h List.not_mem_nil) dX0_same_53
  · have hlt : w < 1024 := nLo (by decide) hw c1
    refine lv_aload_n hx hb dX0_same_21 rfl (lv_at hl 1 rfl) ?_
    refine va_get (D := (dC, dI)) (ci := 0) (v := .ref (a 1)) (C := RX0) (T := TX0) (N := 2) hx hb hts inX0_same hown hK hP 0 rfl rfl 0 (by decide) (hts (.fieldLink RX0 9 "NumberCircuits" "numbers" "[S") (by decide +kernel)) (fun _ h9 => h9) rfl dX0_same_22 ?_
    refine lv_iload_n hx hb dX0_same_25 rfl (lv_at hl 2 rfl) ?_
    refine lv_iload_n hx hb dX0_same_26 rfl (lv_at hl 0 rfl) ?_
    refine vp_callSi (W.runS (As := [.int (nI p0), .int (nI w)]) (rest := [.ref (a 1)]) ⟨hx, hb, hml, hown, hts⟩ (c_place l p0 w) (va_cwS 2 hts gX0_same_X0_place rfl rfl rfl (by decide +kernel) ⟨Nat.le_of_ble_eq_true rfl, Nat.le_of_ble_eq_true rfl⟩) ⟨fun _ _ _ _ q => q, fun U hU hW => ⟨rfl, trivial⟩⟩ rfl rfl hl.1 rfl (lv_room (Nat.le_of_ble_eq_true rfl)) dX0_same_27 ⟨Nat.zero_le _, Nat.zero_le _⟩) (fun r_27_1 er_27_1 => ?_)
    subst er_27_1
    refine va_sald (i := nI (1024 * p0 + w)) hx hb hK hP 1 0 rfl rfl (vp_in_nI (by omega) (by decide)) dX0_same_30 ?_
    refine lv_topi (fun x_31_2 ex_31_2 => ?_)
    obtain rfl : x_31_2 = fn (1024 * p0 + w) := by rw [ex_31_2]; rw [nI_clamp (show 1024 * p0 + w < 2 ^ 31 by omega)]
    refine lv_aload_n hx hb dX0_same_31 rfl (lv_at hl 1 rfl) ?_
    refine va_get (D := (dC, dI)) (ci := 0) (v := .ref (a 1)) (C := RX0) (T := TX0) (N := 2) hx hb hts inX0_same hown hK hP 0 rfl rfl 0 (by decide) (hts (.fieldLink RX0 9 "NumberCircuits" "numbers" "[S") (by decide +kernel)) (fun _ h9 => h9) rfl dX0_same_32 ?_
    refine lv_iload_n hx hb dX0_same_35 rfl (lv_at hl 3 rfl) ?_
    refine lv_iload_n hx hb dX0_same_36 rfl (lv_at hl 0 rfl) ?_
    refine vp_callSi (W.runS (As := [.int (nI q0), .int (nI w)]) (rest := [.ref (a 1), .int (fn (1024 * p0 + w))]) ⟨hx, hb, hml, hown, hts⟩ (c_place l q0 w) (va_cwS 2 hts gX0_same_X0_place rfl rfl rfl (by decide +kernel) ⟨Nat.le_of_ble_eq_true rfl, Nat.le_of_ble_eq_true rfl⟩) ⟨fun _ _ _ _ q => q, fun U hU hW => ⟨rfl, trivial⟩⟩ rfl rfl hl.1 rfl (lv_room (Nat.le_of_ble_eq_true rfl)) dX0_same_37 ⟨Nat.zero_le _, Nat.zero_le _⟩) (fun r_37_3 er_37_3 => ?_)
    subst er_37_3
    refine va_sald (i := nI (1024 * q0 + w)) hx hb hK hP 1 0 rfl rfl (vp_in_nI (by omega) (by decide)) dX0_same_40 ?_
    refine lv_topi (fun x_41_4 ex_41_4 => ?_)
    obtain rfl : x_41_4 = fn (1024 * q0 + w) := by rw [ex_41_4]; rw [nI_clamp (show 1024 * q0 + w < 2 ^ 31 by omega)]
    refine lv_icmp_eq (tgt := 46) hx hb dX0_same_41 (by decide) (fun c2 => ?_) (fun c2 => ?_)
    · refine lv_iinc (v := nI (w + 1)) (lv' := [(3, .int (nI (w + 1))), (0, .ref (a 0)), (1, .int (nI p0)), (2, .int (nI q0))]) hx hb dX0_same_46 hl (k := 0) rfl (nI_1 w) (by decide) rfl (fun ls hl => ?_)
      refine lv_goto (tgt := 14) hx hb dX0_same_49 (by decide) ?_
      exact ih hlt _ _ _ ⟨rfl, rfl, lt_s hq (decide_eq_true c2), (lv_sub hl [0, 1, 2, 3] rfl)⟩
    · refine lv_iconst (v := nI 0) hx hb dX0_same_44 (by decide +kernel) ?_
      exact W.zret hx hb hr (by decide +kernel) (fun t ht hW => ⟨_, rfl, (by rw [nAll_f (w := w) (decide_eq_false c2) 1024 hlt]; rfl), ht⟩) (fun _ h => absurd h List.not_mem_nil) dX0_same_45
set_option maxHeartbeats 4000000 in
set_option maxRecDepth 100000 in
theorem c_tidy (l : Launch) (dC : Nat → ClassId) (dI : Nat → Nat → Nat) (a : Nat → Nat) (k : Nat → ClassId) (fn ft gn gt gm : Nat → Int32) (fl : Int32) (o : Nat → Int64) (wh : Nat) (hwh : wh < 3) : Met l yX0_tidy wsX0_tidy ({ frames := 2, cells := 0, slots := 0, locals := 64 }) (va_Pc [.ref (a 0), .int (nI wh)] (nPw dC dI a k fn ft gn gt gm fl o)) (vp_Si (fun r => r = nI (nN (nqT fn) 8))) 0 0 (fun _ => False) := by
  refine Met.ofW (cc := cX0_tidy) (maxL := 4) (ret := (some .int)) (by decide) rfl ?_
  intro p e s m args below meth c s₁ B hml hv
  obtain ⟨rfl, hP, hK⟩ := hv
  have hx := B.exec
  have hb := B.bytes
  have hr := B.returns
  have hts := atoms_spec (ws := wsX0_tidy) B.pre
  have hown : s.vm.findClass RX0 = some m.cls := findClass_of_methodNamed B.named
  have hlocks := B.notSynchronized
  have hl := lv_entry ([.ref (a 0), .int (nI wh)]) (n := 4) (Nat.le_of_ble_eq_true rfl)
  rw [lg_entry_eq]
  generalize (lg_sl ([.ref (a 0), .int (nI wh)]) ++ List.replicate (4 - (lg_sl ([.ref (a 0), .int (nI wh)])).length) Slot.unset).toArray = ls at hl ⊢
  have hl : lv_has ls 4 [(0, .ref (a 0)), (1, .int (nI wh))] := hl
  refine lv_iload_n hx hb dX0_tidy_0 rfl (lv_at hl 1 rfl) ?_
  refine lv_iconst (v := nI 2) hx hb dX0_tidy_1 (by decide +kernel) ?_
  refine va_csv (W.runS (As := [.int (nI wh), .int (nI 2)]) (rest := []) ⟨hx, hb, hml, hown, hts⟩ (c_needUpTo l wh 2 (by omega) (by omega)) (va_cwS 2 hts gX0_tidy_X0_needUpTo rfl rfl rfl (by decide +kernel) ⟨Nat.le_of_ble_eq_true rfl, Nat.le_of_ble_eq_true rfl⟩) ⟨fun _ _ _ _ q => q, fun U hU hW => ⟨rfl, trivial⟩⟩ rfl rfl hl.1 rfl (lv_room (Nat.le_of_ble_eq_true rfl)) dX0_tidy_2 ⟨Nat.zero_le _, Nat.zero_le _⟩) (fun _ => ?_)
  refine lv_iconst (v := nI 0) hx hb dX0_tidy_5 (by decide +kernel) ?_
  refine lv_istore_n (lv' := [(2, .int (nI 0)), (0, .ref (a 0)), (1, .int (nI wh))]) hx hb dX0_tidy_6 rfl hl (by decide) rfl (fun ls hl => ?_)
  have hl : lv_has ls 4 [(2, .int (nI (nN (nqT fn) 0))), (0, .ref (a 0)), (1, .int (nI wh))] := hl
  refine lv_iconst (v := nI 0) hx hb dX0_tidy_7 (by decide +kernel) ?_
  refine lv_istore_n (lv' := [(3, .int (nI 0)), (2, .int (nI (nN (nqT fn) 0))), (0, .ref (a 0)), (1, .int (nI wh))]) hx hb dX0_tidy_8 rfl hl (by decide) rfl (fun ls hl => ?_)
  refine nc_loop 8 (fun w H locs ls => H = s.heap ∧ locs = [] ∧ lv_has ls 4 [(3, .int (nI w)), (2, .int (nI (nN (nqT fn) w))), (0, .ref (a 0)), (1, .int (nI wh))]) ⟨rfl, rfl, (lv_sub hl [0, 1, 2, 3] rfl)⟩ ?_
  intro w H locs ls hw hI ih
  obtain ⟨rfl, rfl, hl⟩ := hI
  refine lv_iload_n hx hb dX0_tidy_9 rfl (lv_at hl 0 rfl) ?_
  refine lv_bipush (v := nI 8) hx hb dX0_tidy_10 (by decide +kernel) ?_
  refine lv_icmp_ge (tgt := 37) hx hb dX0_tidy_12 (by decide) (fun c1 => ?_) (fun c1 => ?_)
  · obtain rfl : w = 8 := nHi (by decide) hw c1
    refine lv_iload_n hx hb dX0_tidy_37 rfl (lv_at hl 1 rfl) ?_
    exact W.iret hx hb hr (fun t ht hW => ⟨_, rfl, rfl, ht⟩) (fun _ h => absurd h List.not_mem_nil) dX0_tidy_38
  · have hlt : w < 8 := nLo (by decide) hw c1
    refine lv_iload_n hx hb dX0_tidy_15 rfl (lv_at hl 1 rfl) ?_
    refine lv_aload_n hx hb dX0_tidy_16 rfl (lv_at hl 2 rfl) ?_
    refine lv_iload_n hx hb dX0_tidy_17 rfl (lv_at hl 0 rfl) ?_
    refine vp_callSi (W.runV (As := [.int (nI w)]) (rest := [.int (nI (nN (nqT fn) w))]) ⟨hx, hb, hml, hown, hts⟩ (c_isZero l dC dI a k fn ft gn gt gm fl o w hlt) (cwV 1 hts gX0_tidy_X0_isZeroEverywhere rfl rfl rfl (by decide +kernel) ⟨Nat.le_of_ble_eq_true rfl, Nat.le_of_ble_eq_true rfl⟩) (nPreV hP hK (va_recv hK hP (ci := 0) (q0 := 0) rfl rfl)) rfl rfl hl.1 rfl (lv_room (Nat.le_of_ble_eq_true rfl)) dX0_tidy_18 ⟨Nat.zero_le _, Nat.zero_le _⟩) (fun r_18_1 er_18_1 => ?_)
    subst er_18_1
    refine lv_if_eq (tgt := 28) hx hb dX0_tidy_21 (by decide) (fun c2 => ?_) (fun c2 => ?_)
    · refine lv_iconst (v := nI 1) hx hb dX0_tidy_28 (by decide +kernel) ?_
      refine lv_iadd hx hb dX0_tidy_29 ?_
      refine lv_topi (fun x_30_2 ex_30_2 => ?_)
      obtain rfl : x_30_2 = nI (nN (nqT fn) (w + 1)) := by rw [ex_30_2]; rw [← nN_s, show (nqT fn) w = true from nqT_t (nb_f c2)]; rfl
      refine lv_istore_n (lv' := [(2, .int (nI (nN (nqT fn) (w + 1)))), (3, .int (nI w)), (0, .ref (a 0)), (1, .int (nI wh))]) hx hb dX0_tidy_30 rfl hl (by decide) rfl (fun ls hl => ?_)
      refine lv_iinc (v := nI (w + 1)) (lv' := [(3, .int (nI (w + 1))), (2, .int (nI (nN (nqT fn) (w + 1)))), (0, .ref (a 0)), (1, .int (nI wh))]) hx hb dX0_tidy_31 hl (k := 1) rfl (nI_1 w) (by decide) rfl (fun ls hl => ?_)
      refine lv_goto (tgt := 9) hx hb dX0_tidy_34 (by decide) ?_
      exact ih hlt _ _ _ ⟨rfl, rfl, (lv_sub hl [0, 1, 2, 3] rfl)⟩
    · refine lv_iconst (v := nI 0) hx hb dX0_tidy_24 (by decide +kernel) ?_
      refine lv_goto (tgt := 29) hx hb dX0_tidy_25 (by decide) ?_
      refine lv_iadd hx hb dX0_tidy_29 ?_
      refine lv_topi (fun x_30_2 ex_30_2 => ?_)
      obtain rfl : x_30_2 = nI (nN (nqT fn) (w + 1)) := by rw [ex_30_2]; rw [← nN_s, show (nqT fn) w = false from nqT_f (nb_t c2)]; rfl
      refine lv_istore_n (lv' := [(2, .int (nI (nN (nqT fn) (w + 1)))), (3, .int (nI w)), (0, .ref (a 0)), (1, .int (nI wh))]) hx hb dX0_tidy_30 rfl hl (by decide) rfl (fun ls hl => ?_)
      refine lv_iinc (v := nI (w + 1)) (lv' := [(3, .int (nI (w + 1))), (2, .int (nI (nN (nqT fn) (w + 1)))), (0, .ref (a 0)), (1, .int (nI wh))]) hx hb dX0_tidy_31 hl (k := 1) rfl (nI_1 w) (by decide) rfl (fun ls hl => ?_)
      refine lv_goto (tgt := 9) hx hb dX0_tidy_34 (by decide) ?_
      exact ih hlt _ _ _ ⟨rfl, rfl, (lv_sub hl [0, 1, 2, 3] rfl)⟩
end
section
abbrev cX1_fail : ByteArray := prog_3_method_3_code
def yX1_fail : MethodName := ⟨RX1, "fail", "(I)I"⟩
abbrev cX1_result : ByteArray := prog_3_method_7_code
def yX1_result : MethodName := ⟨RX1, "result", "(III)I"⟩
abbrev cX1_yes : ByteArray := prog_3_method_9_code
def yX1_yes : MethodName := ⟨RX1, "yes", "(I)I"⟩
abbrev cX1_unknown : ByteArray := prog_3_method_6_code
def yX1_unknown : MethodName := ⟨RX1, "unknown", "(IIII)V"⟩
abbrev cX1_reckon : ByteArray := prog_3_method_8_code
def yX1_reckon : MethodName := ⟨RX1, "reckon", "(IIII)V"⟩
abbrev cX1_compare : ByteArray := prog_3_method_10_code
def yX1_compare : MethodName := ⟨RX1, "compare", "(IIII)I"⟩
abbrev cX1_choose : ByteArray := prog_3_method_11_code
def yX1_choose : MethodName := ⟨RX1, "choose", "(IIII)V"⟩
abbrev cX1_join : ByteArray := prog_3_method_12_code
def yX1_join : MethodName := ⟨RX1, "join", "(IIII)I"⟩
abbrev cX1_value : ByteArray := prog_3_method_13_code
def yX1_value : MethodName := ⟨RX1, "value", "(II)I"⟩
abbrev cX1_way : ByteArray := prog_3_method_14_code
def yX1_way : MethodName := ⟨RX1, "way", "(I)I"⟩
abbrev cX1_same : ByteArray := prog_3_method_15_code
def yX1_same : MethodName := ⟨RX1, "same", "(II)Z"⟩
abbrev cX1_tidy : ByteArray := prog_3_method_16_code
def yX1_tidy : MethodName := ⟨RX1, "tidy", "(I)I"⟩
def wsX1_fail : List Cond := .code yX1_fail cX1_fail 2 (some .int) :: ([.fieldLink RX1 20 "NumberCircuitsModel" "failed" "I"] ++ wsX10)
def wsX1_result : List Cond := .code yX1_result cX1_result 4 (some .int) :: ([])
def wsX1_yes : List Cond := .code yX1_yes cX1_yes 4 (some .int) :: ([.fieldLink RX1 13 "NumberCircuitsModel" "truths" "[Z"] ++ wsX10)
def wsX1_unknown : List Cond := .code yX1_unknown cX1_unknown 6 none :: ([.fieldLink RX1 20 "NumberCircuitsModel" "failed" "I", .fieldLink RX1 7 "NumberCircuitsModel" "numbers" "[I"] ++ wsX10 ++ wsV RX1 24 RX1 yX1_out wsX1_out)
def wsX1_reckon : List Cond := .code yX1_reckon cX1_reckon 6 none :: ([.fieldLink RX1 20 "NumberCircuitsModel" "failed" "I", .fieldLink RX1 7 "NumberCircuitsModel" "numbers" "[I", .fieldLink RX1 17 "NumberCircuitsModel" "made" "[I"] ++ wsX10 ++ wsV RX1 24 RX1 yX1_out wsX1_out ++ wsV RX1 28 RX1 yX1_result wsX1_result)
def wsX1_compare : List Cond := .code yX1_compare cX1_compare 8 (some .int) :: ([.fieldLink RX1 20 "NumberCircuitsModel" "failed" "I", .fieldLink RX1 7 "NumberCircuitsModel" "numbers" "[I", .fieldLink RX1 13 "NumberCircuitsModel" "truths" "[Z"] ++ wsX10 ++ wsV RX1 24 RX1 yX1_out wsX1_out ++ wsV RX1 32 RX1 yX1_fail wsX1_fail ++ wsV RX1 36 RX1 yX1_yes wsX1_yes)
def wsX1_choose : List Cond := .code yX1_choose cX1_choose 6 none :: ([.fieldLink RX1 20 "NumberCircuitsModel" "failed" "I", .fieldLink RX1 7 "NumberCircuitsModel" "numbers" "[I", .fieldLink RX1 13 "NumberCircuitsModel" "truths" "[Z", .fieldLink RX1 17 "NumberCircuitsModel" "made" "[I"] ++ wsX10 ++ wsV RX1 24 RX1 yX1_out wsX1_out)
def wsX1_join : List Cond := .code yX1_join cX1_join 8 (some .int) :: ([.fieldLink RX1 20 "NumberCircuitsModel" "failed" "I", .fieldLink RX1 13 "NumberCircuitsModel" "truths" "[Z", .fieldLink RX1 17 "NumberCircuitsModel" "made" "[I"] ++ wsX10 ++ wsV RX1 24 RX1 yX1_out wsX1_out ++ wsV RX1 32 RX1 yX1_fail wsX1_fail ++ wsV RX1 36 RX1 yX1_yes wsX1_yes)
def wsX1_value : List Cond := .code yX1_value cX1_value 3 (some .int) :: ([.fieldLink RX1 20 "NumberCircuitsModel" "failed" "I", .fieldLink RX1 7 "NumberCircuitsModel" "numbers" "[I"] ++ wsX10 ++ wsV RX1 24 RX1 yX1_out wsX1_out ++ wsV RX1 32 RX1 yX1_fail wsX1_fail)
def wsX1_way : List Cond := .code yX1_way cX1_way 3 (some .int) :: ([.fieldLink RX1 20 "NumberCircuitsModel" "failed" "I", .fieldLink RX1 13 "NumberCircuitsModel" "truths" "[Z"] ++ wsX10 ++ wsV RX1 24 RX1 yX1_out wsX1_out ++ wsV RX1 32 RX1 yX1_fail wsX1_fail)
def wsX1_same : List Cond := .code yX1_same cX1_same 4 (some .boolean) :: ([.fieldLink RX1 20 "NumberCircuitsModel" "failed" "I", .fieldLink RX1 7 "NumberCircuitsModel" "numbers" "[I"] ++ wsX10 ++ wsV RX1 24 RX1 yX1_out wsX1_out ++ wsV RX1 32 RX1 yX1_fail wsX1_fail)
def wsX1_tidy : List Cond := .code yX1_tidy cX1_tidy 6 (some .int) :: ([.fieldLink RX1 20 "NumberCircuitsModel" "failed" "I", .fieldLink RX1 7 "NumberCircuitsModel" "numbers" "[I"] ++ wsX10 ++ wsV RX1 24 RX1 yX1_out wsX1_out ++ wsV RX1 32 RX1 yX1_fail wsX1_fail)
theorem inX1_fail : ∀ w ∈ wsX10, w ∈ wsX1_fail := by decide +kernel
theorem dX1_fail_0 : decode cX1_fail 0 = .ok (.aload_n 0, 1) := by decide +kernel
theorem dX1_fail_1 : decode cX1_fail 1 = .ok (.iload_n 1, 1) := by decide +kernel
theorem dX1_fail_2 : decode cX1_fail 2 = .ok (.putfield 20, 3) := by decide +kernel
theorem dX1_fail_5 : decode cX1_fail 5 = .ok (.iconst 0, 1) := by decide +kernel
theorem dX1_fail_6 : decode cX1_fail 6 = .ok (.ireturn, 1) := by decide +kernel
theorem dX1_result_0 : decode cX1_result 0 = .ok (.iload_n 1, 1) := by decide +kernel
theorem dX1_result_1 : decode cX1_result 1 = .ok (.tableswitch 75 0 4 #[35, 40, 45, 50, 63], 35) := by decide +kernel
theorem dX1_result_36 : decode cX1_result 36 = .ok (.iload_n 2, 1) := by decide +kernel
theorem dX1_result_37 : decode cX1_result 37 = .ok (.iload_n 3, 1) := by decide +kernel
theorem dX1_result_38 : decode cX1_result 38 = .ok (.iadd, 1) := by decide +kernel
theorem dX1_result_39 : decode cX1_result 39 = .ok (.i2s, 1) := by decide +kernel
theorem dX1_result_40 : decode cX1_result 40 = .ok (.ireturn, 1) := by decide +kernel
theorem dX1_result_41 : decode cX1_result 41 = .ok (.iload_n 2, 1) := by decide +kernel
theorem dX1_result_42 : decode cX1_result 42 = .ok (.iload_n 3, 1) := by decide +kernel
theorem dX1_result_43 : decode cX1_result 43 = .ok (.isub, 1) := by decide +kernel
theorem dX1_result_44 : decode cX1_result 44 = .ok (.i2s, 1) := by decide +kernel
theorem dX1_result_45 : decode cX1_result 45 = .ok (.ireturn, 1) := by decide +kernel
theorem dX1_result_46 : decode cX1_result 46 = .ok (.iload_n 2, 1) := by decide +kernel
theorem dX1_result_47 : decode cX1_result 47 = .ok (.iload_n 3, 1) := by decide +kernel
theorem dX1_result_48 : decode cX1_result 48 = .ok (.imul, 1) := by decide +kernel
theorem dX1_result_49 : decode cX1_result 49 = .ok (.i2s, 1) := by decide +kernel
theorem dX1_result_50 : decode cX1_result 50 = .ok (.ireturn, 1) := by decide +kernel
theorem dX1_result_51 : decode cX1_result 51 = .ok (.iload_n 3, 1) := by decide +kernel
theorem dX1_result_52 : decode cX1_result 52 = .ok (.ifCond .ne 7, 3) := by decide +kernel
theorem dX1_result_55 : decode cX1_result 55 = .ok (.iconst 0, 1) := by decide +kernel
theorem dX1_result_56 : decode cX1_result 56 = .ok (.goto 7, 3) := by decide +kernel
theorem dX1_result_59 : decode cX1_result 59 = .ok (.iload_n 2, 1) := by decide +kernel
theorem dX1_result_60 : decode cX1_result 60 = .ok (.iload_n 3, 1) := by decide +kernel
theorem dX1_result_61 : decode cX1_result 61 = .ok (.idiv, 1) := by decide +kernel
theorem dX1_result_62 : decode cX1_result 62 = .ok (.i2s, 1) := by decide +kernel
theorem dX1_result_63 : decode cX1_result 63 = .ok (.ireturn, 1) := by decide +kernel
theorem dX1_result_64 : decode cX1_result 64 = .ok (.iload_n 3, 1) := by decide +kernel
theorem dX1_result_65 : decode cX1_result 65 = .ok (.ifCond .ne 7, 3) := by decide +kernel
theorem dX1_result_68 : decode cX1_result 68 = .ok (.iconst 0, 1) := by decide +kernel
theorem dX1_result_69 : decode cX1_result 69 = .ok (.goto 6, 3) := by decide +kernel
theorem dX1_result_72 : decode cX1_result 72 = .ok (.iload_n 2, 1) := by decide +kernel
theorem dX1_result_73 : decode cX1_result 73 = .ok (.iload_n 3, 1) := by decide +kernel
theorem dX1_result_74 : decode cX1_result 74 = .ok (.irem, 1) := by decide +kernel
theorem dX1_result_75 : decode cX1_result 75 = .ok (.ireturn, 1) := by decide +kernel
theorem dX1_result_76 : decode cX1_result 76 = .ok (.iload_n 3, 1) := by decide +kernel
theorem dX1_result_77 : decode cX1_result 77 = .ok (.ineg, 1) := by decide +kernel
theorem dX1_result_78 : decode cX1_result 78 = .ok (.i2s, 1) := by decide +kernel
theorem dX1_result_79 : decode cX1_result 79 = .ok (.ireturn, 1) := by decide +kernel
theorem inX1_yes : ∀ w ∈ wsX10, w ∈ wsX1_yes := by decide +kernel
theorem dX1_yes_0 : decode cX1_yes 0 = .ok (.iconst 0, 1) := by decide +kernel
theorem dX1_yes_1 : decode cX1_yes 1 = .ok (.istore_n 2, 1) := by decide +kernel
theorem dX1_yes_2 : decode cX1_yes 2 = .ok (.iconst 0, 1) := by decide +kernel
theorem dX1_yes_3 : decode cX1_yes 3 = .ok (.istore_n 3, 1) := by decide +kernel
theorem dX1_yes_4 : decode cX1_yes 4 = .ok (.iload_n 3, 1) := by decide +kernel
theorem dX1_yes_5 : decode cX1_yes 5 = .ok (.sipush 1024, 3) := by decide +kernel
theorem dX1_yes_8 : decode cX1_yes 8 = .ok (.if_icmp .ge 32, 3) := by decide +kernel
theorem dX1_yes_11 : decode cX1_yes 11 = .ok (.iload_n 2, 1) := by decide +kernel
theorem dX1_yes_12 : decode cX1_yes 12 = .ok (.aload_n 0, 1) := by decide +kernel
theorem dX1_yes_13 : decode cX1_yes 13 = .ok (.getfield 13, 3) := by decide +kernel
theorem dX1_yes_16 : decode cX1_yes 16 = .ok (.sipush 1024, 3) := by decide +kernel
theorem dX1_yes_19 : decode cX1_yes 19 = .ok (.iload_n 1, 1) := by decide +kernel
theorem dX1_yes_20 : decode cX1_yes 20 = .ok (.imul, 1) := by decide +kernel
theorem dX1_yes_21 : decode cX1_yes 21 = .ok (.iload_n 3, 1) := by decide +kernel
theorem dX1_yes_22 : decode cX1_yes 22 = .ok (.iadd, 1) := by decide +kernel
theorem dX1_yes_23 : decode cX1_yes 23 = .ok (.baload, 1) := by decide +kernel
theorem dX1_yes_24 : decode cX1_yes 24 = .ok (.ifCond .eq 7, 3) := by decide +kernel
theorem dX1_yes_27 : decode cX1_yes 27 = .ok (.iconst 1, 1) := by decide +kernel
theorem dX1_yes_28 : decode cX1_yes 28 = .ok (.goto 4, 3) := by decide +kernel
theorem dX1_yes_31 : decode cX1_yes 31 = .ok (.iconst 0, 1) := by decide +kernel
theorem dX1_yes_32 : decode cX1_yes 32 = .ok (.iadd, 1) := by decide +kernel
theorem dX1_yes_33 : decode cX1_yes 33 = .ok (.istore_n 2, 1) := by decide +kernel
theorem dX1_yes_34 : decode cX1_yes 34 = .ok (.iinc 3 1, 3) := by decide +kernel
theorem dX1_yes_37 : decode cX1_yes 37 = .ok (.goto (-33), 3) := by decide +kernel
theorem dX1_yes_40 : decode cX1_yes 40 = .ok (.iload_n 2, 1) := by decide +kernel
theorem dX1_yes_41 : decode cX1_yes 41 = .ok (.ireturn, 1) := by decide +kernel
set_option maxRecDepth 20000 in
theorem gX1_unknown_X1_out : GoodIn wsX1_unknown (wsV RX1 24 RX1 yX1_out wsX1_out) := goodIn_sub (by decide +kernel) (by decide +kernel)
theorem inX1_unknown : ∀ w ∈ wsX10, w ∈ wsX1_unknown := by decide +kernel
theorem dX1_unknown_0 : decode cX1_unknown 0 = .ok (.aload_n 0, 1) := by decide +kernel
theorem dX1_unknown_1 : decode cX1_unknown 1 = .ok (.iconst 0, 1) := by decide +kernel
theorem dX1_unknown_2 : decode cX1_unknown 2 = .ok (.putfield 20, 3) := by decide +kernel
theorem dX1_unknown_5 : decode cX1_unknown 5 = .ok (.aload_n 0, 1) := by decide +kernel
theorem dX1_unknown_6 : decode cX1_unknown 6 = .ok (.iload_n 1, 1) := by decide +kernel
theorem dX1_unknown_7 : decode cX1_unknown 7 = .ok (.bipush 8, 2) := by decide +kernel
theorem dX1_unknown_9 : decode cX1_unknown 9 = .ok (.invokevirtual 24, 3) := by decide +kernel
theorem dX1_unknown_12 : decode cX1_unknown 12 = .ok (.ifCond .ne 31, 3) := by decide +kernel
theorem dX1_unknown_15 : decode cX1_unknown 15 = .ok (.aload_n 0, 1) := by decide +kernel
theorem dX1_unknown_16 : decode cX1_unknown 16 = .ok (.iload_n 2, 1) := by decide +kernel
theorem dX1_unknown_17 : decode cX1_unknown 17 = .ok (.bipush 11, 2) := by decide +kernel
theorem dX1_unknown_19 : decode cX1_unknown 19 = .ok (.invokevirtual 24, 3) := by decide +kernel
theorem dX1_unknown_22 : decode cX1_unknown 22 = .ok (.ifCond .ne 21, 3) := by decide +kernel
theorem dX1_unknown_25 : decode cX1_unknown 25 = .ok (.aload_n 0, 1) := by decide +kernel
theorem dX1_unknown_26 : decode cX1_unknown 26 = .ok (.iload_n 3, 1) := by decide +kernel
theorem dX1_unknown_27 : decode cX1_unknown 27 = .ok (.bipush 11, 2) := by decide +kernel
theorem dX1_unknown_29 : decode cX1_unknown 29 = .ok (.invokevirtual 24, 3) := by decide +kernel
theorem dX1_unknown_32 : decode cX1_unknown 32 = .ok (.ifCond .ne 11, 3) := by decide +kernel
theorem dX1_unknown_35 : decode cX1_unknown 35 = .ok (.iload_n 2, 1) := by decide +kernel
theorem dX1_unknown_36 : decode cX1_unknown 36 = .ok (.iload_n 3, 1) := by decide +kernel
theorem dX1_unknown_37 : decode cX1_unknown 37 = .ok (.iadd, 1) := by decide +kernel
theorem dX1_unknown_38 : decode cX1_unknown 38 = .ok (.bipush 10, 2) := by decide +kernel
theorem dX1_unknown_40 : decode cX1_unknown 40 = .ok (.if_icmp .le 11, 3) := by decide +kernel
theorem dX1_unknown_43 : decode cX1_unknown 43 = .ok (.aload_n 0, 1) := by decide +kernel
theorem dX1_unknown_44 : decode cX1_unknown 44 = .ok (.iconst 1, 1) := by decide +kernel
theorem dX1_unknown_45 : decode cX1_unknown 45 = .ok (.putfield 20, 3) := by decide +kernel
theorem dX1_unknown_48 : decode cX1_unknown 48 = .ok (.goto 47, 3) := by decide +kernel
theorem dX1_unknown_51 : decode cX1_unknown 51 = .ok (.iconst 0, 1) := by decide +kernel
theorem dX1_unknown_52 : decode cX1_unknown 52 = .ok (.istore 5, 2) := by decide +kernel
theorem dX1_unknown_54 : decode cX1_unknown 54 = .ok (.iload 5, 2) := by decide +kernel
theorem dX1_unknown_56 : decode cX1_unknown 56 = .ok (.sipush 1024, 3) := by decide +kernel
theorem dX1_unknown_59 : decode cX1_unknown 59 = .ok (.if_icmp .ge 36, 3) := by decide +kernel
theorem dX1_unknown_62 : decode cX1_unknown 62 = .ok (.aload_n 0, 1) := by decide +kernel
theorem dX1_unknown_63 : decode cX1_unknown 63 = .ok (.getfield 7, 3) := by decide +kernel
theorem dX1_unknown_66 : decode cX1_unknown 66 = .ok (.sipush 1024, 3) := by decide +kernel
theorem dX1_unknown_69 : decode cX1_unknown 69 = .ok (.iload_n 1, 1) := by decide +kernel
theorem dX1_unknown_70 : decode cX1_unknown 70 = .ok (.imul, 1) := by decide +kernel
theorem dX1_unknown_71 : decode cX1_unknown 71 = .ok (.iload 5, 2) := by decide +kernel
theorem dX1_unknown_73 : decode cX1_unknown 73 = .ok (.iadd, 1) := by decide +kernel
theorem dX1_unknown_74 : decode cX1_unknown 74 = .ok (.iload 5, 2) := by decide +kernel
theorem dX1_unknown_76 : decode cX1_unknown 76 = .ok (.iload_n 2, 1) := by decide +kernel
theorem dX1_unknown_77 : decode cX1_unknown 77 = .ok (.ishr, 1) := by decide +kernel
theorem dX1_unknown_78 : decode cX1_unknown 78 = .ok (.iconst 1, 1) := by decide +kernel
theorem dX1_unknown_79 : decode cX1_unknown 79 = .ok (.iload_n 3, 1) := by decide +kernel
theorem dX1_unknown_80 : decode cX1_unknown 80 = .ok (.ishl, 1) := by decide +kernel
theorem dX1_unknown_81 : decode cX1_unknown 81 = .ok (.iconst 1, 1) := by decide +kernel
theorem dX1_unknown_82 : decode cX1_unknown 82 = .ok (.isub, 1) := by decide +kernel
theorem dX1_unknown_83 : decode cX1_unknown 83 = .ok (.iand, 1) := by decide +kernel
theorem dX1_unknown_84 : decode cX1_unknown 84 = .ok (.iload 4, 2) := by decide +kernel
theorem dX1_unknown_86 : decode cX1_unknown 86 = .ok (.iadd, 1) := by decide +kernel
theorem dX1_unknown_87 : decode cX1_unknown 87 = .ok (.i2s, 1) := by decide +kernel
theorem dX1_unknown_88 : decode cX1_unknown 88 = .ok (.iastore, 1) := by decide +kernel
theorem dX1_unknown_89 : decode cX1_unknown 89 = .ok (.iinc 5 1, 3) := by decide +kernel
theorem dX1_unknown_92 : decode cX1_unknown 92 = .ok (.goto (-38), 3) := by decide +kernel
theorem dX1_unknown_95 : decode cX1_unknown 95 = .ok (.return_, 1) := by decide +kernel
set_option maxRecDepth 20000 in
theorem gX1_reckon_X1_out : GoodIn wsX1_reckon (wsV RX1 24 RX1 yX1_out wsX1_out) := goodIn_sub (by decide +kernel) (by decide +kernel)
set_option maxRecDepth 20000 in
theorem gX1_reckon_X1_result : GoodIn wsX1_reckon (wsV RX1 28 RX1 yX1_result wsX1_result) := goodIn_sub (by decide +kernel) (by decide +kernel)
theorem inX1_reckon : ∀ w ∈ wsX10, w ∈ wsX1_reckon := by decide +kernel
theorem dX1_reckon_0 : decode cX1_reckon 0 = .ok (.aload_n 0, 1) := by decide +kernel
theorem dX1_reckon_1 : decode cX1_reckon 1 = .ok (.iconst 0, 1) := by decide +kernel
theorem dX1_reckon_2 : decode cX1_reckon 2 = .ok (.putfield 20, 3) := by decide +kernel
theorem dX1_reckon_5 : decode cX1_reckon 5 = .ok (.aload_n 0, 1) := by decide +kernel
theorem dX1_reckon_6 : decode cX1_reckon 6 = .ok (.iload_n 1, 1) := by decide +kernel
theorem dX1_reckon_7 : decode cX1_reckon 7 = .ok (.bipush 8, 2) := by decide +kernel
theorem dX1_reckon_9 : decode cX1_reckon 9 = .ok (.invokevirtual 24, 3) := by decide +kernel
theorem dX1_reckon_12 : decode cX1_reckon 12 = .ok (.ifCond .ne 34, 3) := by decide +kernel
theorem dX1_reckon_15 : decode cX1_reckon 15 = .ok (.aload_n 0, 1) := by decide +kernel
theorem dX1_reckon_16 : decode cX1_reckon 16 = .ok (.iload_n 2, 1) := by decide +kernel
theorem dX1_reckon_17 : decode cX1_reckon 17 = .ok (.bipush 6, 2) := by decide +kernel
theorem dX1_reckon_19 : decode cX1_reckon 19 = .ok (.invokevirtual 24, 3) := by decide +kernel
theorem dX1_reckon_22 : decode cX1_reckon 22 = .ok (.ifCond .ne 24, 3) := by decide +kernel
theorem dX1_reckon_25 : decode cX1_reckon 25 = .ok (.aload_n 0, 1) := by decide +kernel
theorem dX1_reckon_26 : decode cX1_reckon 26 = .ok (.iload_n 3, 1) := by decide +kernel
theorem dX1_reckon_27 : decode cX1_reckon 27 = .ok (.bipush 8, 2) := by decide +kernel
theorem dX1_reckon_29 : decode cX1_reckon 29 = .ok (.invokevirtual 24, 3) := by decide +kernel
theorem dX1_reckon_32 : decode cX1_reckon 32 = .ok (.ifCond .ne 14, 3) := by decide +kernel
theorem dX1_reckon_35 : decode cX1_reckon 35 = .ok (.aload_n 0, 1) := by decide +kernel
theorem dX1_reckon_36 : decode cX1_reckon 36 = .ok (.iload 4, 2) := by decide +kernel
theorem dX1_reckon_38 : decode cX1_reckon 38 = .ok (.bipush 8, 2) := by decide +kernel
theorem dX1_reckon_40 : decode cX1_reckon 40 = .ok (.invokevirtual 24, 3) := by decide +kernel
theorem dX1_reckon_43 : decode cX1_reckon 43 = .ok (.ifCond .eq 11, 3) := by decide +kernel
theorem dX1_reckon_46 : decode cX1_reckon 46 = .ok (.aload_n 0, 1) := by decide +kernel
theorem dX1_reckon_47 : decode cX1_reckon 47 = .ok (.iconst 1, 1) := by decide +kernel
theorem dX1_reckon_48 : decode cX1_reckon 48 = .ok (.putfield 20, 3) := by decide +kernel
theorem dX1_reckon_51 : decode cX1_reckon 51 = .ok (.goto 96, 3) := by decide +kernel
theorem dX1_reckon_54 : decode cX1_reckon 54 = .ok (.iconst 0, 1) := by decide +kernel
theorem dX1_reckon_55 : decode cX1_reckon 55 = .ok (.istore 5, 2) := by decide +kernel
theorem dX1_reckon_57 : decode cX1_reckon 57 = .ok (.iload 5, 2) := by decide +kernel
theorem dX1_reckon_59 : decode cX1_reckon 59 = .ok (.sipush 1024, 3) := by decide +kernel
theorem dX1_reckon_62 : decode cX1_reckon 62 = .ok (.if_icmp .ge 48, 3) := by decide +kernel
theorem dX1_reckon_65 : decode cX1_reckon 65 = .ok (.aload_n 0, 1) := by decide +kernel
theorem dX1_reckon_66 : decode cX1_reckon 66 = .ok (.getfield 17, 3) := by decide +kernel
theorem dX1_reckon_69 : decode cX1_reckon 69 = .ok (.iload 5, 2) := by decide +kernel
theorem dX1_reckon_71 : decode cX1_reckon 71 = .ok (.aload_n 0, 1) := by decide +kernel
theorem dX1_reckon_72 : decode cX1_reckon 72 = .ok (.iload_n 2, 1) := by decide +kernel
theorem dX1_reckon_73 : decode cX1_reckon 73 = .ok (.aload_n 0, 1) := by decide +kernel
theorem dX1_reckon_74 : decode cX1_reckon 74 = .ok (.getfield 7, 3) := by decide +kernel
theorem dX1_reckon_77 : decode cX1_reckon 77 = .ok (.sipush 1024, 3) := by decide +kernel
theorem dX1_reckon_80 : decode cX1_reckon 80 = .ok (.iload_n 3, 1) := by decide +kernel
theorem dX1_reckon_81 : decode cX1_reckon 81 = .ok (.imul, 1) := by decide +kernel
theorem dX1_reckon_82 : decode cX1_reckon 82 = .ok (.iload 5, 2) := by decide +kernel
theorem dX1_reckon_84 : decode cX1_reckon 84 = .ok (.iadd, 1) := by decide +kernel
theorem dX1_reckon_85 : decode cX1_reckon 85 = .ok (.iaload, 1) := by decide +kernel
theorem dX1_reckon_86 : decode cX1_reckon 86 = .ok (.aload_n 0, 1) := by decide +kernel
theorem dX1_reckon_87 : decode cX1_reckon 87 = .ok (.getfield 7, 3) := by decide +kernel
theorem dX1_reckon_90 : decode cX1_reckon 90 = .ok (.sipush 1024, 3) := by decide +kernel
theorem dX1_reckon_93 : decode cX1_reckon 93 = .ok (.iload 4, 2) := by decide +kernel
theorem dX1_reckon_95 : decode cX1_reckon 95 = .ok (.imul, 1) := by decide +kernel
theorem dX1_reckon_96 : decode cX1_reckon 96 = .ok (.iload 5, 2) := by decide +kernel
theorem dX1_reckon_98 : decode cX1_reckon 98 = .ok (.iadd, 1) := by decide +kernel
theorem dX1_reckon_99 : decode cX1_reckon 99 = .ok (.iaload, 1) := by decide +kernel
theorem dX1_reckon_100 : decode cX1_reckon 100 = .ok (.invokevirtual 28, 3) := by decide +kernel
theorem dX1_reckon_103 : decode cX1_reckon 103 = .ok (.iastore, 1) := by decide +kernel
theorem dX1_reckon_104 : decode cX1_reckon 104 = .ok (.iinc 5 1, 3) := by decide +kernel
theorem dX1_reckon_107 : decode cX1_reckon 107 = .ok (.goto (-50), 3) := by decide +kernel
theorem dX1_reckon_110 : decode cX1_reckon 110 = .ok (.iconst 0, 1) := by decide +kernel
theorem dX1_reckon_111 : decode cX1_reckon 111 = .ok (.istore 5, 2) := by decide +kernel
theorem dX1_reckon_113 : decode cX1_reckon 113 = .ok (.iload 5, 2) := by decide +kernel
theorem dX1_reckon_115 : decode cX1_reckon 115 = .ok (.sipush 1024, 3) := by decide +kernel
theorem dX1_reckon_118 : decode cX1_reckon 118 = .ok (.if_icmp .ge 29, 3) := by decide +kernel
theorem dX1_reckon_121 : decode cX1_reckon 121 = .ok (.aload_n 0, 1) := by decide +kernel
theorem dX1_reckon_122 : decode cX1_reckon 122 = .ok (.getfield 7, 3) := by decide +kernel
theorem dX1_reckon_125 : decode cX1_reckon 125 = .ok (.sipush 1024, 3) := by decide +kernel
theorem dX1_reckon_128 : decode cX1_reckon 128 = .ok (.iload_n 1, 1) := by decide +kernel
theorem dX1_reckon_129 : decode cX1_reckon 129 = .ok (.imul, 1) := by decide +kernel
theorem dX1_reckon_130 : decode cX1_reckon 130 = .ok (.iload 5, 2) := by decide +kernel
theorem dX1_reckon_132 : decode cX1_reckon 132 = .ok (.iadd, 1) := by decide +kernel
theorem dX1_reckon_133 : decode cX1_reckon 133 = .ok (.aload_n 0, 1) := by decide +kernel
theorem dX1_reckon_134 : decode cX1_reckon 134 = .ok (.getfield 17, 3) := by decide +kernel
theorem dX1_reckon_137 : decode cX1_reckon 137 = .ok (.iload 5, 2) := by decide +kernel
theorem dX1_reckon_139 : decode cX1_reckon 139 = .ok (.iaload, 1) := by decide +kernel
theorem dX1_reckon_140 : decode cX1_reckon 140 = .ok (.iastore, 1) := by decide +kernel
theorem dX1_reckon_141 : decode cX1_reckon 141 = .ok (.iinc 5 1, 3) := by decide +kernel
theorem dX1_reckon_144 : decode cX1_reckon 144 = .ok (.goto (-31), 3) := by decide +kernel
theorem dX1_reckon_147 : decode cX1_reckon 147 = .ok (.return_, 1) := by decide +kernel
set_option maxRecDepth 20000 in
theorem gX1_compare_X1_out : GoodIn wsX1_compare (wsV RX1 24 RX1 yX1_out wsX1_out) := goodIn_sub (by decide +kernel) (by decide +kernel)
set_option maxRecDepth 20000 in
theorem gX1_compare_X1_fail : GoodIn wsX1_compare (wsV RX1 32 RX1 yX1_fail wsX1_fail) := goodIn_sub (by decide +kernel) (by decide +kernel)
set_option maxRecDepth 20000 in
theorem gX1_compare_X1_yes : GoodIn wsX1_compare (wsV RX1 36 RX1 yX1_yes wsX1_yes) := goodIn_sub (by decide +kernel) (by decide +kernel)
theorem inX1_compare : ∀ w ∈ wsX10, w ∈ wsX1_compare := by decide +kernel
theorem dX1_compare_0 : decode cX1_compare 0 = .ok (.aload_n 0, 1) := by decide +kernel
theorem dX1_compare_1 : decode cX1_compare 1 = .ok (.iconst 0, 1) := by decide +kernel
theorem dX1_compare_2 : decode cX1_compare 2 = .ok (.putfield 20, 3) := by decide +kernel
theorem dX1_compare_5 : decode cX1_compare 5 = .ok (.aload_n 0, 1) := by decide +kernel
theorem dX1_compare_6 : decode cX1_compare 6 = .ok (.iload_n 1, 1) := by decide +kernel
theorem dX1_compare_7 : decode cX1_compare 7 = .ok (.bipush 8, 2) := by decide +kernel
theorem dX1_compare_9 : decode cX1_compare 9 = .ok (.invokevirtual 24, 3) := by decide +kernel
theorem dX1_compare_12 : decode cX1_compare 12 = .ok (.ifCond .ne 33, 3) := by decide +kernel
theorem dX1_compare_15 : decode cX1_compare 15 = .ok (.aload_n 0, 1) := by decide +kernel
theorem dX1_compare_16 : decode cX1_compare 16 = .ok (.iload_n 2, 1) := by decide +kernel
theorem dX1_compare_17 : decode cX1_compare 17 = .ok (.iconst 4, 1) := by decide +kernel
theorem dX1_compare_18 : decode cX1_compare 18 = .ok (.invokevirtual 24, 3) := by decide +kernel
theorem dX1_compare_21 : decode cX1_compare 21 = .ok (.ifCond .ne 24, 3) := by decide +kernel
theorem dX1_compare_24 : decode cX1_compare 24 = .ok (.aload_n 0, 1) := by decide +kernel
theorem dX1_compare_25 : decode cX1_compare 25 = .ok (.iload_n 3, 1) := by decide +kernel
theorem dX1_compare_26 : decode cX1_compare 26 = .ok (.bipush 8, 2) := by decide +kernel
theorem dX1_compare_28 : decode cX1_compare 28 = .ok (.invokevirtual 24, 3) := by decide +kernel
theorem dX1_compare_31 : decode cX1_compare 31 = .ok (.ifCond .ne 14, 3) := by decide +kernel
theorem dX1_compare_34 : decode cX1_compare 34 = .ok (.aload_n 0, 1) := by decide +kernel
theorem dX1_compare_35 : decode cX1_compare 35 = .ok (.iload 4, 2) := by decide +kernel
theorem dX1_compare_37 : decode cX1_compare 37 = .ok (.bipush 8, 2) := by decide +kernel
theorem dX1_compare_39 : decode cX1_compare 39 = .ok (.invokevirtual 24, 3) := by decide +kernel
theorem dX1_compare_42 : decode cX1_compare 42 = .ok (.ifCond .eq 9, 3) := by decide +kernel
theorem dX1_compare_45 : decode cX1_compare 45 = .ok (.aload_n 0, 1) := by decide +kernel
theorem dX1_compare_46 : decode cX1_compare 46 = .ok (.iconst 1, 1) := by decide +kernel
theorem dX1_compare_47 : decode cX1_compare 47 = .ok (.invokevirtual 32, 3) := by decide +kernel
theorem dX1_compare_50 : decode cX1_compare 50 = .ok (.ireturn, 1) := by decide +kernel
theorem dX1_compare_51 : decode cX1_compare 51 = .ok (.iconst 0, 1) := by decide +kernel
theorem dX1_compare_52 : decode cX1_compare 52 = .ok (.istore 5, 2) := by decide +kernel
theorem dX1_compare_54 : decode cX1_compare 54 = .ok (.iload 5, 2) := by decide +kernel
theorem dX1_compare_56 : decode cX1_compare 56 = .ok (.sipush 1024, 3) := by decide +kernel
theorem dX1_compare_59 : decode cX1_compare 59 = .ok (.if_icmp .ge 124, 3) := by decide +kernel
theorem dX1_compare_62 : decode cX1_compare 62 = .ok (.aload_n 0, 1) := by decide +kernel
theorem dX1_compare_63 : decode cX1_compare 63 = .ok (.getfield 7, 3) := by decide +kernel
theorem dX1_compare_66 : decode cX1_compare 66 = .ok (.sipush 1024, 3) := by decide +kernel
theorem dX1_compare_69 : decode cX1_compare 69 = .ok (.iload_n 3, 1) := by decide +kernel
theorem dX1_compare_70 : decode cX1_compare 70 = .ok (.imul, 1) := by decide +kernel
theorem dX1_compare_71 : decode cX1_compare 71 = .ok (.iload 5, 2) := by decide +kernel
theorem dX1_compare_73 : decode cX1_compare 73 = .ok (.iadd, 1) := by decide +kernel
theorem dX1_compare_74 : decode cX1_compare 74 = .ok (.iaload, 1) := by decide +kernel
theorem dX1_compare_75 : decode cX1_compare 75 = .ok (.istore 6, 2) := by decide +kernel
theorem dX1_compare_77 : decode cX1_compare 77 = .ok (.aload_n 0, 1) := by decide +kernel
theorem dX1_compare_78 : decode cX1_compare 78 = .ok (.getfield 7, 3) := by decide +kernel
theorem dX1_compare_81 : decode cX1_compare 81 = .ok (.sipush 1024, 3) := by decide +kernel
theorem dX1_compare_84 : decode cX1_compare 84 = .ok (.iload 4, 2) := by decide +kernel
theorem dX1_compare_86 : decode cX1_compare 86 = .ok (.imul, 1) := by decide +kernel
theorem dX1_compare_87 : decode cX1_compare 87 = .ok (.iload 5, 2) := by decide +kernel
theorem dX1_compare_89 : decode cX1_compare 89 = .ok (.iadd, 1) := by decide +kernel
theorem dX1_compare_90 : decode cX1_compare 90 = .ok (.iaload, 1) := by decide +kernel
theorem dX1_compare_91 : decode cX1_compare 91 = .ok (.istore 7, 2) := by decide +kernel
theorem dX1_compare_93 : decode cX1_compare 93 = .ok (.aload_n 0, 1) := by decide +kernel
theorem dX1_compare_94 : decode cX1_compare 94 = .ok (.getfield 13, 3) := by decide +kernel
theorem dX1_compare_97 : decode cX1_compare 97 = .ok (.sipush 1024, 3) := by decide +kernel
theorem dX1_compare_100 : decode cX1_compare 100 = .ok (.iload_n 1, 1) := by decide +kernel
theorem dX1_compare_101 : decode cX1_compare 101 = .ok (.imul, 1) := by decide +kernel
theorem dX1_compare_102 : decode cX1_compare 102 = .ok (.iload 5, 2) := by decide +kernel
theorem dX1_compare_104 : decode cX1_compare 104 = .ok (.iadd, 1) := by decide +kernel
theorem dX1_compare_105 : decode cX1_compare 105 = .ok (.iload_n 2, 1) := by decide +kernel
theorem dX1_compare_106 : decode cX1_compare 106 = .ok (.ifCond .ne 18, 3) := by decide +kernel
theorem dX1_compare_109 : decode cX1_compare 109 = .ok (.iload 6, 2) := by decide +kernel
theorem dX1_compare_111 : decode cX1_compare 111 = .ok (.iload 7, 2) := by decide +kernel
theorem dX1_compare_113 : decode cX1_compare 113 = .ok (.if_icmp .ne 7, 3) := by decide +kernel
theorem dX1_compare_116 : decode cX1_compare 116 = .ok (.iconst 1, 1) := by decide +kernel
theorem dX1_compare_117 : decode cX1_compare 117 = .ok (.goto 59, 3) := by decide +kernel
theorem dX1_compare_120 : decode cX1_compare 120 = .ok (.iconst 0, 1) := by decide +kernel
theorem dX1_compare_121 : decode cX1_compare 121 = .ok (.goto 55, 3) := by decide +kernel
theorem dX1_compare_124 : decode cX1_compare 124 = .ok (.iload_n 2, 1) := by decide +kernel
theorem dX1_compare_125 : decode cX1_compare 125 = .ok (.iconst 1, 1) := by decide +kernel
theorem dX1_compare_126 : decode cX1_compare 126 = .ok (.if_icmp .ne 18, 3) := by decide +kernel
theorem dX1_compare_129 : decode cX1_compare 129 = .ok (.iload 6, 2) := by decide +kernel
theorem dX1_compare_131 : decode cX1_compare 131 = .ok (.iload 7, 2) := by decide +kernel
theorem dX1_compare_133 : decode cX1_compare 133 = .ok (.if_icmp .eq 7, 3) := by decide +kernel
theorem dX1_compare_136 : decode cX1_compare 136 = .ok (.iconst 1, 1) := by decide +kernel
theorem dX1_compare_137 : decode cX1_compare 137 = .ok (.goto 39, 3) := by decide +kernel
theorem dX1_compare_140 : decode cX1_compare 140 = .ok (.iconst 0, 1) := by decide +kernel
theorem dX1_compare_141 : decode cX1_compare 141 = .ok (.goto 35, 3) := by decide +kernel
theorem dX1_compare_144 : decode cX1_compare 144 = .ok (.iload_n 2, 1) := by decide +kernel
theorem dX1_compare_145 : decode cX1_compare 145 = .ok (.iconst 2, 1) := by decide +kernel
theorem dX1_compare_146 : decode cX1_compare 146 = .ok (.if_icmp .ne 18, 3) := by decide +kernel
theorem dX1_compare_149 : decode cX1_compare 149 = .ok (.iload 6, 2) := by decide +kernel
theorem dX1_compare_151 : decode cX1_compare 151 = .ok (.iload 7, 2) := by decide +kernel
theorem dX1_compare_153 : decode cX1_compare 153 = .ok (.if_icmp .ge 7, 3) := by decide +kernel
theorem dX1_compare_156 : decode cX1_compare 156 = .ok (.iconst 1, 1) := by decide +kernel
theorem dX1_compare_157 : decode cX1_compare 157 = .ok (.goto 19, 3) := by decide +kernel
theorem dX1_compare_160 : decode cX1_compare 160 = .ok (.iconst 0, 1) := by decide +kernel
theorem dX1_compare_161 : decode cX1_compare 161 = .ok (.goto 15, 3) := by decide +kernel
theorem dX1_compare_164 : decode cX1_compare 164 = .ok (.iload 6, 2) := by decide +kernel
theorem dX1_compare_166 : decode cX1_compare 166 = .ok (.iload 7, 2) := by decide +kernel
theorem dX1_compare_168 : decode cX1_compare 168 = .ok (.if_icmp .gt 7, 3) := by decide +kernel
theorem dX1_compare_171 : decode cX1_compare 171 = .ok (.iconst 1, 1) := by decide +kernel
theorem dX1_compare_172 : decode cX1_compare 172 = .ok (.goto 4, 3) := by decide +kernel
theorem dX1_compare_175 : decode cX1_compare 175 = .ok (.iconst 0, 1) := by decide +kernel
theorem dX1_compare_176 : decode cX1_compare 176 = .ok (.bastore, 1) := by decide +kernel
theorem dX1_compare_177 : decode cX1_compare 177 = .ok (.iinc 5 1, 3) := by decide +kernel
theorem dX1_compare_180 : decode cX1_compare 180 = .ok (.goto (-126), 3) := by decide +kernel
theorem dX1_compare_183 : decode cX1_compare 183 = .ok (.aload_n 0, 1) := by decide +kernel
theorem dX1_compare_184 : decode cX1_compare 184 = .ok (.iload_n 1, 1) := by decide +kernel
theorem dX1_compare_185 : decode cX1_compare 185 = .ok (.invokevirtual 36, 3) := by decide +kernel
theorem dX1_compare_188 : decode cX1_compare 188 = .ok (.ireturn, 1) := by decide +kernel
set_option maxRecDepth 20000 in
theorem gX1_choose_X1_out : GoodIn wsX1_choose (wsV RX1 24 RX1 yX1_out wsX1_out) := goodIn_sub (by decide +kernel) (by decide +kernel)
theorem inX1_choose : ∀ w ∈ wsX10, w ∈ wsX1_choose := by decide +kernel
theorem dX1_choose_0 : decode cX1_choose 0 = .ok (.aload_n 0, 1) := by decide +kernel
theorem dX1_choose_1 : decode cX1_choose 1 = .ok (.iconst 0, 1) := by decide +kernel
theorem dX1_choose_2 : decode cX1_choose 2 = .ok (.putfield 20, 3) := by decide +kernel
theorem dX1_choose_5 : decode cX1_choose 5 = .ok (.aload_n 0, 1) := by decide +kernel
theorem dX1_choose_6 : decode cX1_choose 6 = .ok (.iload_n 1, 1) := by decide +kernel
theorem dX1_choose_7 : decode cX1_choose 7 = .ok (.bipush 8, 2) := by decide +kernel
theorem dX1_choose_9 : decode cX1_choose 9 = .ok (.invokevirtual 24, 3) := by decide +kernel
theorem dX1_choose_12 : decode cX1_choose 12 = .ok (.ifCond .ne 34, 3) := by decide +kernel
theorem dX1_choose_15 : decode cX1_choose 15 = .ok (.aload_n 0, 1) := by decide +kernel
theorem dX1_choose_16 : decode cX1_choose 16 = .ok (.iload_n 2, 1) := by decide +kernel
theorem dX1_choose_17 : decode cX1_choose 17 = .ok (.bipush 8, 2) := by decide +kernel
theorem dX1_choose_19 : decode cX1_choose 19 = .ok (.invokevirtual 24, 3) := by decide +kernel
theorem dX1_choose_22 : decode cX1_choose 22 = .ok (.ifCond .ne 24, 3) := by decide +kernel
theorem dX1_choose_25 : decode cX1_choose 25 = .ok (.aload_n 0, 1) := by decide +kernel
theorem dX1_choose_26 : decode cX1_choose 26 = .ok (.iload_n 3, 1) := by decide +kernel
theorem dX1_choose_27 : decode cX1_choose 27 = .ok (.bipush 8, 2) := by decide +kernel
theorem dX1_choose_29 : decode cX1_choose 29 = .ok (.invokevirtual 24, 3) := by decide +kernel
theorem dX1_choose_32 : decode cX1_choose 32 = .ok (.ifCond .ne 14, 3) := by decide +kernel
theorem dX1_choose_35 : decode cX1_choose 35 = .ok (.aload_n 0, 1) := by decide +kernel
theorem dX1_choose_36 : decode cX1_choose 36 = .ok (.iload 4, 2) := by decide +kernel
theorem dX1_choose_38 : decode cX1_choose 38 = .ok (.bipush 8, 2) := by decide +kernel
theorem dX1_choose_40 : decode cX1_choose 40 = .ok (.invokevirtual 24, 3) := by decide +kernel
theorem dX1_choose_43 : decode cX1_choose 43 = .ok (.ifCond .eq 11, 3) := by decide +kernel
theorem dX1_choose_46 : decode cX1_choose 46 = .ok (.aload_n 0, 1) := by decide +kernel
theorem dX1_choose_47 : decode cX1_choose 47 = .ok (.iconst 1, 1) := by decide +kernel
theorem dX1_choose_48 : decode cX1_choose 48 = .ok (.putfield 20, 3) := by decide +kernel
theorem dX1_choose_51 : decode cX1_choose 51 = .ok (.goto 98, 3) := by decide +kernel
theorem dX1_choose_54 : decode cX1_choose 54 = .ok (.iconst 0, 1) := by decide +kernel
theorem dX1_choose_55 : decode cX1_choose 55 = .ok (.istore 5, 2) := by decide +kernel
theorem dX1_choose_57 : decode cX1_choose 57 = .ok (.iload 5, 2) := by decide +kernel
theorem dX1_choose_59 : decode cX1_choose 59 = .ok (.sipush 1024, 3) := by decide +kernel
theorem dX1_choose_62 : decode cX1_choose 62 = .ok (.if_icmp .ge 50, 3) := by decide +kernel
theorem dX1_choose_65 : decode cX1_choose 65 = .ok (.aload_n 0, 1) := by decide +kernel
theorem dX1_choose_66 : decode cX1_choose 66 = .ok (.getfield 17, 3) := by decide +kernel
theorem dX1_choose_69 : decode cX1_choose 69 = .ok (.iload 5, 2) := by decide +kernel
theorem dX1_choose_71 : decode cX1_choose 71 = .ok (.aload_n 0, 1) := by decide +kernel
theorem dX1_choose_72 : decode cX1_choose 72 = .ok (.getfield 7, 3) := by decide +kernel
theorem dX1_choose_75 : decode cX1_choose 75 = .ok (.sipush 1024, 3) := by decide +kernel
theorem dX1_choose_78 : decode cX1_choose 78 = .ok (.aload_n 0, 1) := by decide +kernel
theorem dX1_choose_79 : decode cX1_choose 79 = .ok (.getfield 13, 3) := by decide +kernel
theorem dX1_choose_82 : decode cX1_choose 82 = .ok (.sipush 1024, 3) := by decide +kernel
theorem dX1_choose_85 : decode cX1_choose 85 = .ok (.iload_n 2, 1) := by decide +kernel
theorem dX1_choose_86 : decode cX1_choose 86 = .ok (.imul, 1) := by decide +kernel
theorem dX1_choose_87 : decode cX1_choose 87 = .ok (.iload 5, 2) := by decide +kernel
theorem dX1_choose_89 : decode cX1_choose 89 = .ok (.iadd, 1) := by decide +kernel
theorem dX1_choose_90 : decode cX1_choose 90 = .ok (.baload, 1) := by decide +kernel
theorem dX1_choose_91 : decode cX1_choose 91 = .ok (.ifCond .eq 7, 3) := by decide +kernel
theorem dX1_choose_94 : decode cX1_choose 94 = .ok (.iload_n 3, 1) := by decide +kernel
theorem dX1_choose_95 : decode cX1_choose 95 = .ok (.goto 5, 3) := by decide +kernel
theorem dX1_choose_98 : decode cX1_choose 98 = .ok (.iload 4, 2) := by decide +kernel
theorem dX1_choose_100 : decode cX1_choose 100 = .ok (.imul, 1) := by decide +kernel
theorem dX1_choose_101 : decode cX1_choose 101 = .ok (.iload 5, 2) := by decide +kernel
theorem dX1_choose_103 : decode cX1_choose 103 = .ok (.iadd, 1) := by decide +kernel
theorem dX1_choose_104 : decode cX1_choose 104 = .ok (.iaload, 1) := by decide +kernel
theorem dX1_choose_105 : decode cX1_choose 105 = .ok (.iastore, 1) := by decide +kernel
theorem dX1_choose_106 : decode cX1_choose 106 = .ok (.iinc 5 1, 3) := by decide +kernel
theorem dX1_choose_109 : decode cX1_choose 109 = .ok (.goto (-52), 3) := by decide +kernel
theorem dX1_choose_112 : decode cX1_choose 112 = .ok (.iconst 0, 1) := by decide +kernel
theorem dX1_choose_113 : decode cX1_choose 113 = .ok (.istore 5, 2) := by decide +kernel
theorem dX1_choose_115 : decode cX1_choose 115 = .ok (.iload 5, 2) := by decide +kernel
theorem dX1_choose_117 : decode cX1_choose 117 = .ok (.sipush 1024, 3) := by decide +kernel
theorem dX1_choose_120 : decode cX1_choose 120 = .ok (.if_icmp .ge 29, 3) := by decide +kernel
theorem dX1_choose_123 : decode cX1_choose 123 = .ok (.aload_n 0, 1) := by decide +kernel
theorem dX1_choose_124 : decode cX1_choose 124 = .ok (.getfield 7, 3) := by decide +kernel
theorem dX1_choose_127 : decode cX1_choose 127 = .ok (.sipush 1024, 3) := by decide +kernel
theorem dX1_choose_130 : decode cX1_choose 130 = .ok (.iload_n 1, 1) := by decide +kernel
theorem dX1_choose_131 : decode cX1_choose 131 = .ok (.imul, 1) := by decide +kernel
theorem dX1_choose_132 : decode cX1_choose 132 = .ok (.iload 5, 2) := by decide +kernel
theorem dX1_choose_134 : decode cX1_choose 134 = .ok (.iadd, 1) := by decide +kernel
theorem dX1_choose_135 : decode cX1_choose 135 = .ok (.aload_n 0, 1) := by decide +kernel
theorem dX1_choose_136 : decode cX1_choose 136 = .ok (.getfield 17, 3) := by decide +kernel
theorem dX1_choose_139 : decode cX1_choose 139 = .ok (.iload 5, 2) := by decide +kernel
theorem dX1_choose_141 : decode cX1_choose 141 = .ok (.iaload, 1) := by decide +kernel
theorem dX1_choose_142 : decode cX1_choose 142 = .ok (.iastore, 1) := by decide +kernel
theorem dX1_choose_143 : decode cX1_choose 143 = .ok (.iinc 5 1, 3) := by decide +kernel
theorem dX1_choose_146 : decode cX1_choose 146 = .ok (.goto (-31), 3) := by decide +kernel
theorem dX1_choose_149 : decode cX1_choose 149 = .ok (.return_, 1) := by decide +kernel
set_option maxRecDepth 20000 in
theorem gX1_join_X1_out : GoodIn wsX1_join (wsV RX1 24 RX1 yX1_out wsX1_out) := goodIn_sub (by decide +kernel) (by decide +kernel)
set_option maxRecDepth 20000 in
theorem gX1_join_X1_fail : GoodIn wsX1_join (wsV RX1 32 RX1 yX1_fail wsX1_fail) := goodIn_sub (by decide +kernel) (by decide +kernel)
set_option maxRecDepth 20000 in
theorem gX1_join_X1_yes : GoodIn wsX1_join (wsV RX1 36 RX1 yX1_yes wsX1_yes) := goodIn_sub (by decide +kernel) (by decide +kernel)
theorem inX1_join : ∀ w ∈ wsX10, w ∈ wsX1_join := by decide +kernel
theorem dX1_join_0 : decode cX1_join 0 = .ok (.aload_n 0, 1) := by decide +kernel
theorem dX1_join_1 : decode cX1_join 1 = .ok (.iconst 0, 1) := by decide +kernel
theorem dX1_join_2 : decode cX1_join 2 = .ok (.putfield 20, 3) := by decide +kernel
theorem dX1_join_5 : decode cX1_join 5 = .ok (.aload_n 0, 1) := by decide +kernel
theorem dX1_join_6 : decode cX1_join 6 = .ok (.iload_n 1, 1) := by decide +kernel
theorem dX1_join_7 : decode cX1_join 7 = .ok (.bipush 8, 2) := by decide +kernel
theorem dX1_join_9 : decode cX1_join 9 = .ok (.invokevirtual 24, 3) := by decide +kernel
theorem dX1_join_12 : decode cX1_join 12 = .ok (.ifCond .ne 33, 3) := by decide +kernel
theorem dX1_join_15 : decode cX1_join 15 = .ok (.aload_n 0, 1) := by decide +kernel
theorem dX1_join_16 : decode cX1_join 16 = .ok (.iload_n 2, 1) := by decide +kernel
theorem dX1_join_17 : decode cX1_join 17 = .ok (.iconst 4, 1) := by decide +kernel
theorem dX1_join_18 : decode cX1_join 18 = .ok (.invokevirtual 24, 3) := by decide +kernel
theorem dX1_join_21 : decode cX1_join 21 = .ok (.ifCond .ne 24, 3) := by decide +kernel
theorem dX1_join_24 : decode cX1_join 24 = .ok (.aload_n 0, 1) := by decide +kernel
theorem dX1_join_25 : decode cX1_join 25 = .ok (.iload_n 3, 1) := by decide +kernel
theorem dX1_join_26 : decode cX1_join 26 = .ok (.bipush 8, 2) := by decide +kernel
theorem dX1_join_28 : decode cX1_join 28 = .ok (.invokevirtual 24, 3) := by decide +kernel
theorem dX1_join_31 : decode cX1_join 31 = .ok (.ifCond .ne 14, 3) := by decide +kernel
theorem dX1_join_34 : decode cX1_join 34 = .ok (.aload_n 0, 1) := by decide +kernel
theorem dX1_join_35 : decode cX1_join 35 = .ok (.iload 4, 2) := by decide +kernel
theorem dX1_join_37 : decode cX1_join 37 = .ok (.bipush 8, 2) := by decide +kernel
theorem dX1_join_39 : decode cX1_join 39 = .ok (.invokevirtual 24, 3) := by decide +kernel
theorem dX1_join_42 : decode cX1_join 42 = .ok (.ifCond .eq 9, 3) := by decide +kernel
theorem dX1_join_45 : decode cX1_join 45 = .ok (.aload_n 0, 1) := by decide +kernel
theorem dX1_join_46 : decode cX1_join 46 = .ok (.iconst 1, 1) := by decide +kernel
theorem dX1_join_47 : decode cX1_join 47 = .ok (.invokevirtual 32, 3) := by decide +kernel
theorem dX1_join_50 : decode cX1_join 50 = .ok (.ireturn, 1) := by decide +kernel
theorem dX1_join_51 : decode cX1_join 51 = .ok (.iconst 0, 1) := by decide +kernel
theorem dX1_join_52 : decode cX1_join 52 = .ok (.istore 5, 2) := by decide +kernel
theorem dX1_join_54 : decode cX1_join 54 = .ok (.iload 5, 2) := by decide +kernel
theorem dX1_join_56 : decode cX1_join 56 = .ok (.sipush 1024, 3) := by decide +kernel
theorem dX1_join_59 : decode cX1_join 59 = .ok (.if_icmp .ge 107, 3) := by decide +kernel
theorem dX1_join_62 : decode cX1_join 62 = .ok (.aload_n 0, 1) := by decide +kernel
theorem dX1_join_63 : decode cX1_join 63 = .ok (.getfield 13, 3) := by decide +kernel
theorem dX1_join_66 : decode cX1_join 66 = .ok (.sipush 1024, 3) := by decide +kernel
theorem dX1_join_69 : decode cX1_join 69 = .ok (.iload_n 3, 1) := by decide +kernel
theorem dX1_join_70 : decode cX1_join 70 = .ok (.imul, 1) := by decide +kernel
theorem dX1_join_71 : decode cX1_join 71 = .ok (.iload 5, 2) := by decide +kernel
theorem dX1_join_73 : decode cX1_join 73 = .ok (.iadd, 1) := by decide +kernel
theorem dX1_join_74 : decode cX1_join 74 = .ok (.baload, 1) := by decide +kernel
theorem dX1_join_75 : decode cX1_join 75 = .ok (.istore 6, 2) := by decide +kernel
theorem dX1_join_77 : decode cX1_join 77 = .ok (.aload_n 0, 1) := by decide +kernel
theorem dX1_join_78 : decode cX1_join 78 = .ok (.getfield 13, 3) := by decide +kernel
theorem dX1_join_81 : decode cX1_join 81 = .ok (.sipush 1024, 3) := by decide +kernel
theorem dX1_join_84 : decode cX1_join 84 = .ok (.iload 4, 2) := by decide +kernel
theorem dX1_join_86 : decode cX1_join 86 = .ok (.imul, 1) := by decide +kernel
theorem dX1_join_87 : decode cX1_join 87 = .ok (.iload 5, 2) := by decide +kernel
theorem dX1_join_89 : decode cX1_join 89 = .ok (.iadd, 1) := by decide +kernel
theorem dX1_join_90 : decode cX1_join 90 = .ok (.baload, 1) := by decide +kernel
theorem dX1_join_91 : decode cX1_join 91 = .ok (.istore 7, 2) := by decide +kernel
theorem dX1_join_93 : decode cX1_join 93 = .ok (.aload_n 0, 1) := by decide +kernel
theorem dX1_join_94 : decode cX1_join 94 = .ok (.getfield 17, 3) := by decide +kernel
theorem dX1_join_97 : decode cX1_join 97 = .ok (.iload 5, 2) := by decide +kernel
theorem dX1_join_99 : decode cX1_join 99 = .ok (.iload_n 2, 1) := by decide +kernel
theorem dX1_join_100 : decode cX1_join 100 = .ok (.ifCond .ne 16, 3) := by decide +kernel
theorem dX1_join_103 : decode cX1_join 103 = .ok (.iload 6, 2) := by decide +kernel
theorem dX1_join_105 : decode cX1_join 105 = .ok (.ifCond .eq 53, 3) := by decide +kernel
theorem dX1_join_108 : decode cX1_join 108 = .ok (.iload 7, 2) := by decide +kernel
theorem dX1_join_110 : decode cX1_join 110 = .ok (.ifCond .eq 48, 3) := by decide +kernel
theorem dX1_join_113 : decode cX1_join 113 = .ok (.goto 41, 3) := by decide +kernel
theorem dX1_join_116 : decode cX1_join 116 = .ok (.iload_n 2, 1) := by decide +kernel
theorem dX1_join_117 : decode cX1_join 117 = .ok (.iconst 1, 1) := by decide +kernel
theorem dX1_join_118 : decode cX1_join 118 = .ok (.if_icmp .ne 16, 3) := by decide +kernel
theorem dX1_join_121 : decode cX1_join 121 = .ok (.iload 6, 2) := by decide +kernel
theorem dX1_join_123 : decode cX1_join 123 = .ok (.ifCond .ne 31, 3) := by decide +kernel
theorem dX1_join_126 : decode cX1_join 126 = .ok (.iload 7, 2) := by decide +kernel
theorem dX1_join_128 : decode cX1_join 128 = .ok (.ifCond .eq 30, 3) := by decide +kernel
theorem dX1_join_131 : decode cX1_join 131 = .ok (.goto 23, 3) := by decide +kernel
theorem dX1_join_134 : decode cX1_join 134 = .ok (.iload_n 2, 1) := by decide +kernel
theorem dX1_join_135 : decode cX1_join 135 = .ok (.iconst 2, 1) := by decide +kernel
theorem dX1_join_136 : decode cX1_join 136 = .ok (.if_icmp .ne 13, 3) := by decide +kernel
theorem dX1_join_139 : decode cX1_join 139 = .ok (.iload 6, 2) := by decide +kernel
theorem dX1_join_141 : decode cX1_join 141 = .ok (.iload 7, 2) := by decide +kernel
theorem dX1_join_143 : decode cX1_join 143 = .ok (.if_icmp .eq 15, 3) := by decide +kernel
theorem dX1_join_146 : decode cX1_join 146 = .ok (.goto 8, 3) := by decide +kernel
theorem dX1_join_149 : decode cX1_join 149 = .ok (.iload 6, 2) := by decide +kernel
theorem dX1_join_151 : decode cX1_join 151 = .ok (.ifCond .ne 7, 3) := by decide +kernel
theorem dX1_join_154 : decode cX1_join 154 = .ok (.iconst 1, 1) := by decide +kernel
theorem dX1_join_155 : decode cX1_join 155 = .ok (.goto 4, 3) := by decide +kernel
theorem dX1_join_158 : decode cX1_join 158 = .ok (.iconst 0, 1) := by decide +kernel
theorem dX1_join_159 : decode cX1_join 159 = .ok (.iastore, 1) := by decide +kernel
theorem dX1_join_160 : decode cX1_join 160 = .ok (.iinc 5 1, 3) := by decide +kernel
theorem dX1_join_163 : decode cX1_join 163 = .ok (.goto (-109), 3) := by decide +kernel
theorem dX1_join_166 : decode cX1_join 166 = .ok (.iconst 0, 1) := by decide +kernel
theorem dX1_join_167 : decode cX1_join 167 = .ok (.istore 5, 2) := by decide +kernel
theorem dX1_join_169 : decode cX1_join 169 = .ok (.iload 5, 2) := by decide +kernel
theorem dX1_join_171 : decode cX1_join 171 = .ok (.sipush 1024, 3) := by decide +kernel
theorem dX1_join_174 : decode cX1_join 174 = .ok (.if_icmp .ge 38, 3) := by decide +kernel
theorem dX1_join_177 : decode cX1_join 177 = .ok (.aload_n 0, 1) := by decide +kernel
theorem dX1_join_178 : decode cX1_join 178 = .ok (.getfield 13, 3) := by decide +kernel
theorem dX1_join_181 : decode cX1_join 181 = .ok (.sipush 1024, 3) := by decide +kernel
theorem dX1_join_184 : decode cX1_join 184 = .ok (.iload_n 1, 1) := by decide +kernel
theorem dX1_join_185 : decode cX1_join 185 = .ok (.imul, 1) := by decide +kernel
theorem dX1_join_186 : decode cX1_join 186 = .ok (.iload 5, 2) := by decide +kernel
theorem dX1_join_188 : decode cX1_join 188 = .ok (.iadd, 1) := by decide +kernel
theorem dX1_join_189 : decode cX1_join 189 = .ok (.aload_n 0, 1) := by decide +kernel
theorem dX1_join_190 : decode cX1_join 190 = .ok (.getfield 17, 3) := by decide +kernel
theorem dX1_join_193 : decode cX1_join 193 = .ok (.iload 5, 2) := by decide +kernel
theorem dX1_join_195 : decode cX1_join 195 = .ok (.iaload, 1) := by decide +kernel
theorem dX1_join_196 : decode cX1_join 196 = .ok (.iconst 1, 1) := by decide +kernel
theorem dX1_join_197 : decode cX1_join 197 = .ok (.if_icmp .ne 7, 3) := by decide +kernel
theorem dX1_join_200 : decode cX1_join 200 = .ok (.iconst 1, 1) := by decide +kernel
theorem dX1_join_201 : decode cX1_join 201 = .ok (.goto 4, 3) := by decide +kernel
theorem dX1_join_204 : decode cX1_join 204 = .ok (.iconst 0, 1) := by decide +kernel
theorem dX1_join_205 : decode cX1_join 205 = .ok (.bastore, 1) := by decide +kernel
theorem dX1_join_206 : decode cX1_join 206 = .ok (.iinc 5 1, 3) := by decide +kernel
theorem dX1_join_209 : decode cX1_join 209 = .ok (.goto (-40), 3) := by decide +kernel
theorem dX1_join_212 : decode cX1_join 212 = .ok (.aload_n 0, 1) := by decide +kernel
theorem dX1_join_213 : decode cX1_join 213 = .ok (.iload_n 1, 1) := by decide +kernel
theorem dX1_join_214 : decode cX1_join 214 = .ok (.invokevirtual 36, 3) := by decide +kernel
theorem dX1_join_217 : decode cX1_join 217 = .ok (.ireturn, 1) := by decide +kernel
set_option maxRecDepth 20000 in
theorem gX1_value_X1_out : GoodIn wsX1_value (wsV RX1 24 RX1 yX1_out wsX1_out) := goodIn_sub (by decide +kernel) (by decide +kernel)
set_option maxRecDepth 20000 in
theorem gX1_value_X1_fail : GoodIn wsX1_value (wsV RX1 32 RX1 yX1_fail wsX1_fail) := goodIn_sub (by decide +kernel) (by decide +kernel)
theorem inX1_value : ∀ w ∈ wsX10, w ∈ wsX1_value := by decide +kernel
theorem dX1_value_0 : decode cX1_value 0 = .ok (.aload_n 0, 1) := by decide +kernel
theorem dX1_value_1 : decode cX1_value 1 = .ok (.iconst 0, 1) := by decide +kernel
theorem dX1_value_2 : decode cX1_value 2 = .ok (.putfield 20, 3) := by decide +kernel
theorem dX1_value_5 : decode cX1_value 5 = .ok (.aload_n 0, 1) := by decide +kernel
theorem dX1_value_6 : decode cX1_value 6 = .ok (.iload_n 1, 1) := by decide +kernel
theorem dX1_value_7 : decode cX1_value 7 = .ok (.bipush 8, 2) := by decide +kernel
theorem dX1_value_9 : decode cX1_value 9 = .ok (.invokevirtual 24, 3) := by decide +kernel
theorem dX1_value_12 : decode cX1_value 12 = .ok (.ifCond .ne 14, 3) := by decide +kernel
theorem dX1_value_15 : decode cX1_value 15 = .ok (.aload_n 0, 1) := by decide +kernel
theorem dX1_value_16 : decode cX1_value 16 = .ok (.iload_n 2, 1) := by decide +kernel
theorem dX1_value_17 : decode cX1_value 17 = .ok (.sipush 1024, 3) := by decide +kernel
theorem dX1_value_20 : decode cX1_value 20 = .ok (.invokevirtual 24, 3) := by decide +kernel
theorem dX1_value_23 : decode cX1_value 23 = .ok (.ifCond .eq 9, 3) := by decide +kernel
theorem dX1_value_26 : decode cX1_value 26 = .ok (.aload_n 0, 1) := by decide +kernel
theorem dX1_value_27 : decode cX1_value 27 = .ok (.iconst 1, 1) := by decide +kernel
theorem dX1_value_28 : decode cX1_value 28 = .ok (.invokevirtual 32, 3) := by decide +kernel
theorem dX1_value_31 : decode cX1_value 31 = .ok (.ireturn, 1) := by decide +kernel
theorem dX1_value_32 : decode cX1_value 32 = .ok (.aload_n 0, 1) := by decide +kernel
theorem dX1_value_33 : decode cX1_value 33 = .ok (.getfield 7, 3) := by decide +kernel
theorem dX1_value_36 : decode cX1_value 36 = .ok (.sipush 1024, 3) := by decide +kernel
theorem dX1_value_39 : decode cX1_value 39 = .ok (.iload_n 1, 1) := by decide +kernel
theorem dX1_value_40 : decode cX1_value 40 = .ok (.imul, 1) := by decide +kernel
theorem dX1_value_41 : decode cX1_value 41 = .ok (.iload_n 2, 1) := by decide +kernel
theorem dX1_value_42 : decode cX1_value 42 = .ok (.iadd, 1) := by decide +kernel
theorem dX1_value_43 : decode cX1_value 43 = .ok (.iaload, 1) := by decide +kernel
theorem dX1_value_44 : decode cX1_value 44 = .ok (.ireturn, 1) := by decide +kernel
set_option maxRecDepth 20000 in
theorem gX1_way_X1_out : GoodIn wsX1_way (wsV RX1 24 RX1 yX1_out wsX1_out) := goodIn_sub (by decide +kernel) (by decide +kernel)
set_option maxRecDepth 20000 in
theorem gX1_way_X1_fail : GoodIn wsX1_way (wsV RX1 32 RX1 yX1_fail wsX1_fail) := goodIn_sub (by decide +kernel) (by decide +kernel)
theorem inX1_way : ∀ w ∈ wsX10, w ∈ wsX1_way := by decide +kernel
theorem dX1_way_0 : decode cX1_way 0 = .ok (.aload_n 0, 1) := by decide +kernel
theorem dX1_way_1 : decode cX1_way 1 = .ok (.iconst 0, 1) := by decide +kernel
theorem dX1_way_2 : decode cX1_way 2 = .ok (.putfield 20, 3) := by decide +kernel
theorem dX1_way_5 : decode cX1_way 5 = .ok (.aload_n 0, 1) := by decide +kernel
theorem dX1_way_6 : decode cX1_way 6 = .ok (.iload_n 1, 1) := by decide +kernel
theorem dX1_way_7 : decode cX1_way 7 = .ok (.bipush 8, 2) := by decide +kernel
theorem dX1_way_9 : decode cX1_way 9 = .ok (.invokevirtual 24, 3) := by decide +kernel
theorem dX1_way_12 : decode cX1_way 12 = .ok (.ifCond .eq 9, 3) := by decide +kernel
theorem dX1_way_15 : decode cX1_way 15 = .ok (.aload_n 0, 1) := by decide +kernel
theorem dX1_way_16 : decode cX1_way 16 = .ok (.iconst 1, 1) := by decide +kernel
theorem dX1_way_17 : decode cX1_way 17 = .ok (.invokevirtual 32, 3) := by decide +kernel
theorem dX1_way_20 : decode cX1_way 20 = .ok (.ireturn, 1) := by decide +kernel
theorem dX1_way_21 : decode cX1_way 21 = .ok (.iconst 0, 1) := by decide +kernel
theorem dX1_way_22 : decode cX1_way 22 = .ok (.istore_n 2, 1) := by decide +kernel
theorem dX1_way_23 : decode cX1_way 23 = .ok (.iload_n 2, 1) := by decide +kernel
theorem dX1_way_24 : decode cX1_way 24 = .ok (.sipush 1024, 3) := by decide +kernel
theorem dX1_way_27 : decode cX1_way 27 = .ok (.if_icmp .ge 26, 3) := by decide +kernel
theorem dX1_way_30 : decode cX1_way 30 = .ok (.aload_n 0, 1) := by decide +kernel
theorem dX1_way_31 : decode cX1_way 31 = .ok (.getfield 13, 3) := by decide +kernel
theorem dX1_way_34 : decode cX1_way 34 = .ok (.sipush 1024, 3) := by decide +kernel
theorem dX1_way_37 : decode cX1_way 37 = .ok (.iload_n 1, 1) := by decide +kernel
theorem dX1_way_38 : decode cX1_way 38 = .ok (.imul, 1) := by decide +kernel
theorem dX1_way_39 : decode cX1_way 39 = .ok (.iload_n 2, 1) := by decide +kernel
theorem dX1_way_40 : decode cX1_way 40 = .ok (.iadd, 1) := by decide +kernel
theorem dX1_way_41 : decode cX1_way 41 = .ok (.baload, 1) := by decide +kernel
theorem dX1_way_42 : decode cX1_way 42 = .ok (.ifCond .eq 5, 3) := by decide +kernel
theorem dX1_way_45 : decode cX1_way 45 = .ok (.iload_n 2, 1) := by decide +kernel
theorem dX1_way_46 : decode cX1_way 46 = .ok (.ireturn, 1) := by decide +kernel
theorem dX1_way_47 : decode cX1_way 47 = .ok (.iinc 2 1, 3) := by decide +kernel
theorem dX1_way_50 : decode cX1_way 50 = .ok (.goto (-27), 3) := by decide +kernel
theorem dX1_way_53 : decode cX1_way 53 = .ok (.aload_n 0, 1) := by decide +kernel
theorem dX1_way_54 : decode cX1_way 54 = .ok (.iconst 2, 1) := by decide +kernel
theorem dX1_way_55 : decode cX1_way 55 = .ok (.invokevirtual 32, 3) := by decide +kernel
theorem dX1_way_58 : decode cX1_way 58 = .ok (.ireturn, 1) := by decide +kernel
set_option maxRecDepth 20000 in
theorem gX1_same_X1_out : GoodIn wsX1_same (wsV RX1 24 RX1 yX1_out wsX1_out) := goodIn_sub (by decide +kernel) (by decide +kernel)
set_option maxRecDepth 20000 in
theorem gX1_same_X1_fail : GoodIn wsX1_same (wsV RX1 32 RX1 yX1_fail wsX1_fail) := goodIn_sub (by decide +kernel) (by decide +kernel)
theorem inX1_same : ∀ w ∈ wsX10, w ∈ wsX1_same := by decide +kernel
theorem dX1_same_0 : decode cX1_same 0 = .ok (.aload_n 0, 1) := by decide +kernel
theorem dX1_same_1 : decode cX1_same 1 = .ok (.iconst 0, 1) := by decide +kernel
theorem dX1_same_2 : decode cX1_same 2 = .ok (.putfield 20, 3) := by decide +kernel
theorem dX1_same_5 : decode cX1_same 5 = .ok (.aload_n 0, 1) := by decide +kernel
theorem dX1_same_6 : decode cX1_same 6 = .ok (.iload_n 1, 1) := by decide +kernel
theorem dX1_same_7 : decode cX1_same 7 = .ok (.bipush 8, 2) := by decide +kernel
theorem dX1_same_9 : decode cX1_same 9 = .ok (.invokevirtual 24, 3) := by decide +kernel
theorem dX1_same_12 : decode cX1_same 12 = .ok (.ifCond .ne 13, 3) := by decide +kernel
theorem dX1_same_15 : decode cX1_same 15 = .ok (.aload_n 0, 1) := by decide +kernel
theorem dX1_same_16 : decode cX1_same 16 = .ok (.iload_n 2, 1) := by decide +kernel
theorem dX1_same_17 : decode cX1_same 17 = .ok (.bipush 8, 2) := by decide +kernel
theorem dX1_same_19 : decode cX1_same 19 = .ok (.invokevirtual 24, 3) := by decide +kernel
theorem dX1_same_22 : decode cX1_same 22 = .ok (.ifCond .eq 17, 3) := by decide +kernel
theorem dX1_same_25 : decode cX1_same 25 = .ok (.aload_n 0, 1) := by decide +kernel
theorem dX1_same_26 : decode cX1_same 26 = .ok (.iconst 1, 1) := by decide +kernel
theorem dX1_same_27 : decode cX1_same 27 = .ok (.invokevirtual 32, 3) := by decide +kernel
theorem dX1_same_30 : decode cX1_same 30 = .ok (.ifCond .le 7, 3) := by decide +kernel
theorem dX1_same_33 : decode cX1_same 33 = .ok (.iconst 1, 1) := by decide +kernel
theorem dX1_same_34 : decode cX1_same 34 = .ok (.goto 4, 3) := by decide +kernel
theorem dX1_same_37 : decode cX1_same 37 = .ok (.iconst 0, 1) := by decide +kernel
theorem dX1_same_38 : decode cX1_same 38 = .ok (.ireturn, 1) := by decide +kernel
theorem dX1_same_39 : decode cX1_same 39 = .ok (.iconst 0, 1) := by decide +kernel
theorem dX1_same_40 : decode cX1_same 40 = .ok (.istore_n 3, 1) := by decide +kernel
theorem dX1_same_41 : decode cX1_same 41 = .ok (.iload_n 3, 1) := by decide +kernel
theorem dX1_same_42 : decode cX1_same 42 = .ok (.sipush 1024, 3) := by decide +kernel
theorem dX1_same_45 : decode cX1_same 45 = .ok (.if_icmp .ge 38, 3) := by decide +kernel
theorem dX1_same_48 : decode cX1_same 48 = .ok (.aload_n 0, 1) := by decide +kernel
theorem dX1_same_49 : decode cX1_same 49 = .ok (.getfield 7, 3) := by decide +kernel
theorem dX1_same_52 : decode cX1_same 52 = .ok (.sipush 1024, 3) := by decide +kernel
theorem dX1_same_55 : decode cX1_same 55 = .ok (.iload_n 1, 1) := by decide +kernel
theorem dX1_same_56 : decode cX1_same 56 = .ok (.imul, 1) := by decide +kernel
theorem dX1_same_57 : decode cX1_same 57 = .ok (.iload_n 3, 1) := by decide +kernel
theorem dX1_same_58 : decode cX1_same 58 = .ok (.iadd, 1) := by decide +kernel
theorem dX1_same_59 : decode cX1_same 59 = .ok (.iaload, 1) := by decide +kernel
theorem dX1_same_60 : decode cX1_same 60 = .ok (.aload_n 0, 1) := by decide +kernel
theorem dX1_same_61 : decode cX1_same 61 = .ok (.getfield 7, 3) := by decide +kernel
theorem dX1_same_64 : decode cX1_same 64 = .ok (.sipush 1024, 3) := by decide +kernel
theorem dX1_same_67 : decode cX1_same 67 = .ok (.iload_n 2, 1) := by decide +kernel
theorem dX1_same_68 : decode cX1_same 68 = .ok (.imul, 1) := by decide +kernel
theorem dX1_same_69 : decode cX1_same 69 = .ok (.iload_n 3, 1) := by decide +kernel
theorem dX1_same_70 : decode cX1_same 70 = .ok (.iadd, 1) := by decide +kernel
theorem dX1_same_71 : decode cX1_same 71 = .ok (.iaload, 1) := by decide +kernel
theorem dX1_same_72 : decode cX1_same 72 = .ok (.if_icmp .eq 5, 3) := by decide +kernel
theorem dX1_same_75 : decode cX1_same 75 = .ok (.iconst 0, 1) := by decide +kernel
theorem dX1_same_76 : decode cX1_same 76 = .ok (.ireturn, 1) := by decide +kernel
theorem dX1_same_77 : decode cX1_same 77 = .ok (.iinc 3 1, 3) := by decide +kernel
theorem dX1_same_80 : decode cX1_same 80 = .ok (.goto (-39), 3) := by decide +kernel
theorem dX1_same_83 : decode cX1_same 83 = .ok (.iconst 1, 1) := by decide +kernel
theorem dX1_same_84 : decode cX1_same 84 = .ok (.ireturn, 1) := by decide +kernel
set_option maxRecDepth 20000 in
theorem gX1_tidy_X1_out : GoodIn wsX1_tidy (wsV RX1 24 RX1 yX1_out wsX1_out) := goodIn_sub (by decide +kernel) (by decide +kernel)
set_option maxRecDepth 20000 in
theorem gX1_tidy_X1_fail : GoodIn wsX1_tidy (wsV RX1 32 RX1 yX1_fail wsX1_fail) := goodIn_sub (by decide +kernel) (by decide +kernel)
theorem inX1_tidy : ∀ w ∈ wsX10, w ∈ wsX1_tidy := by decide +kernel
theorem dX1_tidy_0 : decode cX1_tidy 0 = .ok (.aload_n 0, 1) := by decide +kernel
theorem dX1_tidy_1 : decode cX1_tidy 1 = .ok (.iconst 0, 1) := by decide +kernel
theorem dX1_tidy_2 : decode cX1_tidy 2 = .ok (.putfield 20, 3) := by decide +kernel
theorem dX1_tidy_5 : decode cX1_tidy 5 = .ok (.aload_n 0, 1) := by decide +kernel
theorem dX1_tidy_6 : decode cX1_tidy 6 = .ok (.iload_n 1, 1) := by decide +kernel
theorem dX1_tidy_7 : decode cX1_tidy 7 = .ok (.iconst 3, 1) := by decide +kernel
theorem dX1_tidy_8 : decode cX1_tidy 8 = .ok (.invokevirtual 24, 3) := by decide +kernel
theorem dX1_tidy_11 : decode cX1_tidy 11 = .ok (.ifCond .eq 9, 3) := by decide +kernel
theorem dX1_tidy_14 : decode cX1_tidy 14 = .ok (.aload_n 0, 1) := by decide +kernel
theorem dX1_tidy_15 : decode cX1_tidy 15 = .ok (.iconst 1, 1) := by decide +kernel
theorem dX1_tidy_16 : decode cX1_tidy 16 = .ok (.invokevirtual 32, 3) := by decide +kernel
theorem dX1_tidy_19 : decode cX1_tidy 19 = .ok (.ireturn, 1) := by decide +kernel
theorem dX1_tidy_20 : decode cX1_tidy 20 = .ok (.iconst 0, 1) := by decide +kernel
theorem dX1_tidy_21 : decode cX1_tidy 21 = .ok (.istore_n 2, 1) := by decide +kernel
theorem dX1_tidy_22 : decode cX1_tidy 22 = .ok (.iconst 0, 1) := by decide +kernel
theorem dX1_tidy_23 : decode cX1_tidy 23 = .ok (.istore_n 3, 1) := by decide +kernel
theorem dX1_tidy_24 : decode cX1_tidy 24 = .ok (.iload_n 3, 1) := by decide +kernel
theorem dX1_tidy_25 : decode cX1_tidy 25 = .ok (.bipush 8, 2) := by decide +kernel
theorem dX1_tidy_27 : decode cX1_tidy 27 = .ok (.if_icmp .ge 61, 3) := by decide +kernel
theorem dX1_tidy_30 : decode cX1_tidy 30 = .ok (.iconst 0, 1) := by decide +kernel
theorem dX1_tidy_31 : decode cX1_tidy 31 = .ok (.istore 4, 2) := by decide +kernel
theorem dX1_tidy_33 : decode cX1_tidy 33 = .ok (.iconst 0, 1) := by decide +kernel
theorem dX1_tidy_34 : decode cX1_tidy 34 = .ok (.istore 5, 2) := by decide +kernel
theorem dX1_tidy_36 : decode cX1_tidy 36 = .ok (.iload 5, 2) := by decide +kernel
theorem dX1_tidy_38 : decode cX1_tidy 38 = .ok (.sipush 1024, 3) := by decide +kernel
theorem dX1_tidy_41 : decode cX1_tidy 41 = .ok (.if_icmp .ge 28, 3) := by decide +kernel
theorem dX1_tidy_44 : decode cX1_tidy 44 = .ok (.aload_n 0, 1) := by decide +kernel
theorem dX1_tidy_45 : decode cX1_tidy 45 = .ok (.getfield 7, 3) := by decide +kernel
theorem dX1_tidy_48 : decode cX1_tidy 48 = .ok (.sipush 1024, 3) := by decide +kernel
theorem dX1_tidy_51 : decode cX1_tidy 51 = .ok (.iload_n 3, 1) := by decide +kernel
theorem dX1_tidy_52 : decode cX1_tidy 52 = .ok (.imul, 1) := by decide +kernel
theorem dX1_tidy_53 : decode cX1_tidy 53 = .ok (.iload 5, 2) := by decide +kernel
theorem dX1_tidy_55 : decode cX1_tidy 55 = .ok (.iadd, 1) := by decide +kernel
theorem dX1_tidy_56 : decode cX1_tidy 56 = .ok (.iaload, 1) := by decide +kernel
theorem dX1_tidy_57 : decode cX1_tidy 57 = .ok (.ifCond .eq 6, 3) := by decide +kernel
theorem dX1_tidy_60 : decode cX1_tidy 60 = .ok (.iconst 1, 1) := by decide +kernel
theorem dX1_tidy_61 : decode cX1_tidy 61 = .ok (.istore 4, 2) := by decide +kernel
theorem dX1_tidy_63 : decode cX1_tidy 63 = .ok (.iinc 5 1, 3) := by decide +kernel
theorem dX1_tidy_66 : decode cX1_tidy 66 = .ok (.goto (-30), 3) := by decide +kernel
theorem dX1_tidy_69 : decode cX1_tidy 69 = .ok (.iload_n 2, 1) := by decide +kernel
theorem dX1_tidy_70 : decode cX1_tidy 70 = .ok (.iload 4, 2) := by decide +kernel
theorem dX1_tidy_72 : decode cX1_tidy 72 = .ok (.ifCond .eq 7, 3) := by decide +kernel
theorem dX1_tidy_75 : decode cX1_tidy 75 = .ok (.iconst 1, 1) := by decide +kernel
theorem dX1_tidy_76 : decode cX1_tidy 76 = .ok (.goto 4, 3) := by decide +kernel
theorem dX1_tidy_79 : decode cX1_tidy 79 = .ok (.iconst 0, 1) := by decide +kernel
theorem dX1_tidy_80 : decode cX1_tidy 80 = .ok (.iadd, 1) := by decide +kernel
theorem dX1_tidy_81 : decode cX1_tidy 81 = .ok (.istore_n 2, 1) := by decide +kernel
theorem dX1_tidy_82 : decode cX1_tidy 82 = .ok (.iinc 3 1, 3) := by decide +kernel
theorem dX1_tidy_85 : decode cX1_tidy 85 = .ok (.goto (-61), 3) := by decide +kernel
theorem dX1_tidy_88 : decode cX1_tidy 88 = .ok (.iload_n 2, 1) := by decide +kernel
theorem dX1_tidy_89 : decode cX1_tidy 89 = .ok (.ireturn, 1) := by decide +kernel
theorem inX1_thrown : ∀ w ∈ wsX10, w ∈ wsX1_thrown := by decide +kernel
theorem inX1_constant : ∀ w ∈ wsX10, w ∈ wsX1_constant := by decide +kernel
end
section
set_option maxHeartbeats 4000000 in
set_option maxRecDepth 100000 in
theorem m_thrown (l : Launch) (dC : Nat → ClassId) (dI : Nat → Nat → Nat) (a : Nat → Nat) (k : Nat → ClassId) (fn ft gn gt gm : Nat → Int32) (fl : Int32) (o : Nat → Int64)  : Met l yX1_thrown wsX1_thrown ({ frames := 0, cells := 0, slots := 0, locals := 0 }) (va_Pc [.ref (a 3)] (nPw dC dI a k fn ft gn gt gm fl o)) (vp_Si (fun r => r = fl)) 0 0 (fun _ => False) := by
  refine Met.ofW (cc := cX1_thrown) (maxL := 1) (ret := (some .int)) (by decide) rfl ?_
  intro p e s m args below meth c s₁ B hml hv
  obtain ⟨rfl, hP, hK⟩ := hv
  have hx := B.exec
  have hb := B.bytes
  have hr := B.returns
  have hts := atoms_spec (ws := wsX1_thrown) B.pre
  have hown : s.vm.findClass RX1 = some m.cls := findClass_of_methodNamed B.named
  have hlocks := B.notSynchronized
  have hl := lv_entry ([.ref (a 3)]) (n := 1) (Nat.le_of_ble_eq_true rfl)
  rw [lg_entry_eq]
  generalize (lg_sl ([.ref (a 3)]) ++ List.replicate (1 - (lg_sl ([.ref (a 3)])).length) Slot.unset).toArray = ls at hl ⊢
  have hl : lv_has ls 1 [(0, .ref (a 3))] := hl
  refine lv_aload_n hx hb dX1_thrown_0 rfl (lv_at hl 0 rfl) ?_
  refine va_get (D := (dC, dI)) (ci := 1) (v := .int fl) (C := RX1) (T := TX1) (N := 4) hx hb hts inX1_thrown hown hK hP 3 rfl rfl 0 (by decide) (hts (.fieldLink RX1 20 "NumberCircuitsModel" "failed" "I") (by decide +kernel)) (fun _ h9 => h9) rfl dX1_thrown_1 ?_
  exact W.iret hx hb hr (fun t ht hW => ⟨_, rfl, rfl, ht⟩) (fun _ h => absurd h List.not_mem_nil) dX1_thrown_4
set_option maxHeartbeats 4000000 in
set_option maxRecDepth 100000 in
theorem m_fail (l : Launch) (dC : Nat → ClassId) (dI : Nat → Nat → Nat) (a : Nat → Nat) (k : Nat → ClassId) (fn ft gn gt gm : Nat → Int32) (fl : Int32) (o : Nat → Int64) (hinj : nInj a) (cd : Int32) : Met l yX1_fail wsX1_fail ({ frames := 0, cells := 0, slots := 0, locals := 0 }) (va_Pc [.ref (a 3), .int cd] (nPw dC dI a k fn ft gn gt gm fl o)) (nQi (nI 0) (nPw dC dI a k fn ft gn gt gm cd o) a) 0 0 (nA0 a) := by
  refine Met.ofW (cc := cX1_fail) (maxL := 2) (ret := (some .int)) (by decide) rfl ?_
  intro p e s m args below meth c s₁ B hml hv
  obtain ⟨rfl, hP, hK⟩ := hv
  have hx := B.exec
  have hb := B.bytes
  have hr := B.returns
  have hts := atoms_spec (ws := wsX1_fail) B.pre
  have hown : s.vm.findClass RX1 = some m.cls := findClass_of_methodNamed B.named
  have hlocks := B.notSynchronized
  have hS : va_S (nA0 a) s.heap s.heap [] := va_S.rf
  have hl := lv_entry ([.ref (a 3), .int cd]) (n := 2) (Nat.le_of_ble_eq_true rfl)
  rw [lg_entry_eq]
  generalize (lg_sl ([.ref (a 3), .int cd]) ++ List.replicate (2 - (lg_sl ([.ref (a 3), .int cd])).length) Slot.unset).toArray = ls at hl ⊢
  have hl : lv_has ls 2 [(0, .ref (a 3)), (1, .int cd)] := hl
  refine lv_aload_n hx hb dX1_fail_0 rfl (lv_at hl 0 rfl) ?_
  refine lv_iload_n hx hb dX1_fail_1 rfl (lv_at hl 1 rfl) ?_
  refine va_put (D := (dC, dI)) (ci := 1) (v := .int cd) (ty := .int) (C := RX1) (T := TX1) (N := 4) hx hb hts inX1_fail tyX1 tyX1_ok nmX1 hown hK hP (nDA hinj) hS 3 rfl rfl 0 (by decide) (hts (.fieldLink RX1 20 "NumberCircuitsModel" "failed" "I") (by decide +kernel)) (fun _ h9 => h9) rfl (by decide +kernel) rfl rfl (Nat.le_of_ble_eq_true rfl) dX1_fail_2 (fun H locs hP _ hS => ?_)
  have hP : va_P (dC, dI) vwCl (nW a k fn ft gn gt gm cd o) H := hP
  refine lv_iconst (v := nI 0) hx hb dX1_fail_5 (by decide +kernel) ?_
  exact W.iret hx hb hr (fun t ht hW => ⟨⟨_, (), rfl, rfl, by rw [ht]; exact hP, va_K.moved hW.alike hK⟩, hS.F ht⟩) hS.2.2 dX1_fail_6
def nO (x : Int32) (n : Nat) : Bool := decide (x < 0) || !decide (x < nI n)
theorem nO_in {j n : Nat} (h : j < n) (hn : n < 2 ^ 31) : nO (nI j) n = false := by
  unfold nO
  rw [decide_eq_false (nI_pos (by omega)), decide_eq_true (nI_lt h hn)]; rfl
theorem nO_of {x : Int32} {n : Nat} (h : nO x n = false) (hn : n < 2 ^ 31) : ∃ j : Nat, j < n ∧ x = nI j := by
  unfold nO at h
  obtain ⟨h1, h2⟩ := Bool.or_eq_false_iff.mp h
  obtain ⟨j, hj, rfl⟩ := nI_of (of_decide_eq_false h1)
  have h3 : nI j < nI n := of_decide_eq_true (nnot h2)
  exact ⟨j, (nI_ltI hj hn).mp h3, rfl⟩
set_option maxHeartbeats 4000000 in
set_option maxRecDepth 100000 in
theorem m_out (l : Launch) (dC : Nat → ClassId) (dI : Nat → Nat → Nat) (a : Nat → Nat) (k : Nat → ClassId) (fn ft gn gt gm : Nat → Int32) (fl : Int32) (o : Nat → Int64) (x : Int32) (n : Nat) : Met l yX1_out wsX1_out ({ frames := 0, cells := 0, slots := 0, locals := 0 }) (va_Pc [.ref (a 3), .int x, .int (nI n)] (nPw dC dI a k fn ft gn gt gm fl o)) (vp_Si (fun r => r = nb (nO x n))) 0 0 (fun _ => False) := by
  refine Met.ofW (cc := cX1_out) (maxL := 3) (ret := (some .boolean)) (by decide) rfl ?_
  intro p e s m args below meth c s₁ B hml hv
  obtain ⟨rfl, hP, hK⟩ := hv
  have hx := B.exec
  have hb := B.bytes
  have hr := B.returns
  have hts := atoms_spec (ws := wsX1_out) B.pre
  have hown : s.vm.findClass RX1 = some m.cls := findClass_of_methodNamed B.named
  have hlocks := B.notSynchronized
  have hl := lv_entry ([.ref (a 3), .int x, .int (nI n)]) (n := 3) (Nat.le_of_ble_eq_true rfl)
  rw [lg_entry_eq]
  generalize (lg_sl ([.ref (a 3), .int x, .int (nI n)]) ++ List.replicate (3 - (lg_sl ([.ref (a 3), .int x, .int (nI n)])).length) Slot.unset).toArray = ls at hl ⊢
  have hl : lv_has ls 3 [(0, .ref (a 3)), (1, .int x), (2, .int (nI n))] := hl
  refine lv_iload_n hx hb dX1_out_0 rfl (lv_at hl 1 rfl) ?_
  refine lv_if_lt (tgt := 9) hx hb dX1_out_1 (by decide) (fun c1 => ?_) (fun c1 => ?_)
  · refine lv_iconst (v := nI 1) hx hb dX1_out_9 (by decide +kernel) ?_
    refine lv_goto (tgt := 14) hx hb dX1_out_10 (by decide) ?_
    exact W.zret hx hb hr (by decide +kernel) (fun t ht hW => ⟨_, rfl, (by unfold nO; rw [decide_eq_true c1]; rfl), ht⟩) (fun _ h => absurd h List.not_mem_nil) dX1_out_14
  · refine lv_iload_n hx hb dX1_out_4 rfl (lv_at hl 1 rfl) ?_
    refine lv_iload_n hx hb dX1_out_5 rfl (lv_at hl 2 rfl) ?_
    refine lv_icmp_lt (tgt := 13) hx hb dX1_out_6 (by decide) (fun c2 => ?_) (fun c2 => ?_)
    · refine lv_iconst (v := nI 0) hx hb dX1_out_13 (by decide +kernel) ?_
      exact W.zret hx hb hr (by decide +kernel) (fun t ht hW => ⟨_, rfl, (by unfold nO; rw [decide_eq_false c1, decide_eq_true c2]; rfl), ht⟩) (fun _ h => absurd h List.not_mem_nil) dX1_out_14
    · refine lv_iconst (v := nI 1) hx hb dX1_out_9 (by decide +kernel) ?_
      refine lv_goto (tgt := 14) hx hb dX1_out_10 (by decide) ?_
      exact W.zret hx hb hr (by decide +kernel) (fun t ht hW => ⟨_, rfl, (by unfold nO; rw [decide_eq_false c1, decide_eq_false c2]; rfl), ht⟩) (fun _ h => absurd h List.not_mem_nil) dX1_out_14
set_option maxHeartbeats 4000000 in
set_option maxRecDepth 100000 in
theorem m_constant (l : Launch) (dC : Nat → ClassId) (dI : Nat → Nat → Nat) (a : Nat → Nat) (k : Nat → ClassId) (fn ft gn gt gm : Nat → Int32) (fl : Int32) (o : Nat → Int64) (hinj : nInj a) (sl : Nat) (v : Int32) (hsl : sl < 8) : Met l yX1_constant wsX1_constant ({ frames := 1, cells := 0, slots := 0, locals := 40 }) (va_Pc [.ref (a 3), .int (nI sl), .int v] (nPw dC dI a k fn ft gn gt gm fl o)) (nQv (nPw dC dI a k fn ft (nF gn (1024 * sl) 1024 (mvK v)) gt gm (nI 0) o) a) 0 0 (nA0 a) := by
  refine Met.ofW (cc := cX1_constant) (maxL := 4) (ret := none) (by decide) rfl ?_
  intro p e s m args below meth c s₁ B hml hv
  obtain ⟨rfl, hP, hK⟩ := hv
  have hx := B.exec
  have hb := B.bytes
  have hr := B.returns
  have hts := atoms_spec (ws := wsX1_constant) B.pre
  have hown : s.vm.findClass RX1 = some m.cls := findClass_of_methodNamed B.named
  have hlocks := B.notSynchronized
  have hS : va_S (nA0 a) s.heap s.heap [] := va_S.rf
  have hl := lv_entry ([.ref (a 3), .int (nI sl), .int v]) (n := 4) (Nat.le_of_ble_eq_true rfl)
  rw [lg_entry_eq]
  generalize (lg_sl ([.ref (a 3), .int (nI sl), .int v]) ++ List.replicate (4 - (lg_sl ([.ref (a 3), .int (nI sl), .int v])).length) Slot.unset).toArray = ls at hl ⊢
  have hl : lv_has ls 4 [(0, .ref (a 3)), (1, .int (nI sl)), (2, .int v)] := hl
  refine lv_aload_n hx hb dX1_constant_0 rfl (lv_at hl 0 rfl) ?_
  refine lv_iconst (v := nI 0) hx hb dX1_constant_1 (by decide +kernel) ?_
  refine va_put (D := (dC, dI)) (ci := 1) (v := .int (nI 0)) (ty := .int) (C := RX1) (T := TX1) (N := 4) hx hb hts inX1_constant tyX1 tyX1_ok nmX1 hown hK hP (nDA hinj) hS 3 rfl rfl 0 (by decide) (hts (.fieldLink RX1 20 "NumberCircuitsModel" "failed" "I") (by decide +kernel)) (fun _ h9 => h9) rfl (by decide +kernel) rfl rfl (Nat.le_of_ble_eq_true rfl) dX1_constant_2 (fun H locs hP _ hS => ?_)
  have hP : va_P (dC, dI) vwCl (nW a k fn ft gn gt gm (nI 0) o) H := hP
  refine lv_aload_n hx hb dX1_constant_5 rfl (lv_at hl 0 rfl) ?_
  refine lv_iload_n hx hb dX1_constant_6 rfl (lv_at hl 1 rfl) ?_
  refine lv_bipush (v := nI 8) hx hb dX1_constant_7 (by decide +kernel) ?_
  refine vp_callSi (W.runV (As := [.int (nI sl), .int (nI 8)]) (rest := []) ⟨hx, hb, hml, hown, hts⟩ (m_out l dC dI a k fn ft gn gt gm (nI 0) o (nI sl) 8) (cwV 2 hts gX1_constant_X1_out rfl rfl rfl (by decide +kernel) ⟨Nat.le_of_ble_eq_true rfl, Nat.le_of_ble_eq_true rfl⟩) (nPreV hP hK (va_recv hK hP (ci := 1) (q0 := 3) rfl rfl)) rfl rfl hl.1 rfl (lv_room (Nat.le_of_ble_eq_true rfl)) dX1_constant_9 ⟨Nat.zero_le _, Nat.zero_le _⟩) (fun r_9_1 er_9_1 => ?_)
  rw [nO_in (by omega) (by decide)] at er_9_1
  subst er_9_1
  refine lv_if_eq (tgt := 23) hx hb dX1_constant_12 (by decide) (fun _ => ?_) (fun c => absurd c (by decide +kernel))
  refine lv_iconst (v := nI 0) hx hb dX1_constant_23 (by decide +kernel) ?_
  refine lv_istore_n (lv' := [(3, .int (nI 0)), (0, .ref (a 3)), (1, .int (nI sl)), (2, .int v)]) hx hb dX1_constant_24 rfl hl (by decide) rfl (fun ls hl => ?_)
  refine nc_loop 1024 (fun w H locs ls => va_P (dC, dI) vwCl (nW a k fn ft (nF gn (1024 * sl) w (mvK v)) gt gm (nI 0) o) H ∧ va_S (nA0 a) s.heap H locs ∧ lv_has ls 4 [(3, .int (nI w)), (0, .ref (a 3)), (1, .int (nI sl)), (2, .int v)]) ⟨(by rw [nF_0]; exact hP), hS, (lv_sub hl [0, 1, 2, 3] rfl)⟩ ?_
  intro w H locs ls hw hI ih
  obtain ⟨hP, hS, hl⟩ := hI
  refine lv_iload_n hx hb dX1_constant_25 rfl (lv_at hl 0 rfl) ?_
  refine lv_sipush (v := nI 1024) hx hb dX1_constant_26 (by decide +kernel) ?_
  refine lv_icmp_ge (tgt := 52) hx hb dX1_constant_29 (by decide) (fun c1 => ?_) (fun c1 => ?_)
  · obtain rfl : w = 1024 := nHi (by decide) hw c1
    exact W.vret hx hb hr (fun t ht hW => ⟨⟨(), rfl, trivial, by rw [ht]; exact hP, va_K.moved hW.alike hK⟩, hS.F ht⟩) hS.2.2 dX1_constant_52
  · have hlt : w < 1024 := nLo (by decide) hw c1
    refine lv_aload_n hx hb dX1_constant_32 rfl (lv_at hl 1 rfl) ?_
    refine va_get (D := (dC, dI)) (ci := 1) (v := .ref (a 4)) (C := RX1) (T := TX1) (N := 4) hx hb hts inX1_constant hown hK hP 3 rfl rfl 1 (by decide) (hts (.fieldLink RX1 7 "NumberCircuitsModel" "numbers" "[I") (by decide +kernel)) (fun _ h9 => h9) rfl dX1_constant_33 ?_
    refine lv_sipush (v := nI 1024) hx hb dX1_constant_36 (by decide +kernel) ?_
    refine lv_iload_n hx hb dX1_constant_39 rfl (lv_at hl 2 rfl) ?_
    refine lv_imul hx hb dX1_constant_40 ?_
    refine lv_iload_n hx hb dX1_constant_41 rfl (lv_at hl 0 rfl) ?_
    refine lv_iadd hx hb dX1_constant_42 ?_
    refine lv_topi (fun x_43_2 ex_43_2 => ?_)
    obtain rfl : x_43_2 = nI (1024 * sl + w) := by rw [ex_43_2]; rw [pk_mul, nI_add]
    refine lv_iload_n hx hb dX1_constant_43 rfl (lv_at hl 3 rfl) ?_
    refine lv_i2s hx hb dX1_constant_44 rfl ?_
    refine va_iast (i := nI (1024 * sl + w)) (x := v.toInt16.toInt32) hx hb hK hP (nDA hinj) hS 4 2 rfl rfl (vp_in_nI (by omega) (by decide)) dX1_constant_45 (fun H locs hP _ hS => ?_)
    have e_45_3 : upd (nF gn (1024 * sl) w (mvK v)) (nI (1024 * sl + w)).toNatClampNeg v.toInt16.toInt32 = nF gn (1024 * sl) (w + 1) (mvK v) := nF_up (by omega) rfl
    have hP : va_P (dC, dI) vwCl (nW a k fn ft (nF gn (1024 * sl) (w + 1) (mvK v)) gt gm (nI 0) o) H := by rw [← e_45_3]; exact hP
    refine lv_iinc (v := nI (w + 1)) (lv' := [(3, .int (nI (w + 1))), (0, .ref (a 3)), (1, .int (nI sl)), (2, .int v)]) hx hb dX1_constant_46 hl (k := 0) rfl (nI_1 w) (by decide) rfl (fun ls hl => ?_)
    refine lv_goto (tgt := 25) hx hb dX1_constant_49 (by decide) ?_
    exact ih hlt _ _ _ ⟨hP, hS, (lv_sub hl [0, 1, 2, 3] rfl)⟩
set_option maxHeartbeats 4000000 in
set_option maxRecDepth 100000 in
theorem m_unknown (l : Launch) (dC : Nat → ClassId) (dI : Nat → Nat → Nat) (a : Nat → Nat) (k : Nat → ClassId) (fn ft gn gt gm : Nat → Int32) (fl : Int32) (o : Nat → Int64) (hinj : nInj a) (sl fi ct : Nat) (lo : Int32) (hsl : sl < 8) (hfi : fi ≤ 10) (hct : fi + ct ≤ 10) : Met l yX1_unknown wsX1_unknown ({ frames := 1, cells := 0, slots := 0, locals := 40 }) (va_Pc [.ref (a 3), .int (nI sl), .int (nI fi), .int (nI ct), .int lo] (nPw dC dI a k fn ft gn gt gm fl o)) (nQv (nPw dC dI a k fn ft (nF gn (1024 * sl) 1024 (mvU fi ct lo)) gt gm (nI 0) o) a) 0 0 (nA0 a) := by
  refine Met.ofW (cc := cX1_unknown) (maxL := 6) (ret := none) (by decide) rfl ?_
  intro p e s m args below meth c s₁ B hml hv
  obtain ⟨rfl, hP, hK⟩ := hv
  have hx := B.exec
  have hb := B.bytes
  have hr := B.returns
  have hts := atoms_spec (ws := wsX1_unknown) B.pre
  have hown : s.vm.findClass RX1 = some m.cls := findClass_of_methodNamed B.named
  have hlocks := B.notSynchronized
  have hS : va_S (nA0 a) s.heap s.heap [] := va_S.rf
  have hl := lv_entry ([.ref (a 3), .int (nI sl), .int (nI fi), .int (nI ct), .int lo]) (n := 6) (Nat.le_of_ble_eq_true rfl)
  rw [lg_entry_eq]
  generalize (lg_sl ([.ref (a 3), .int (nI sl), .int (nI fi), .int (nI ct), .int lo]) ++ List.replicate (6 - (lg_sl ([.ref (a 3), .int (nI sl), .int (nI fi), .int (nI ct), .int lo])).length) Slot.unset).toArray = ls at hl ⊢
  have hl : lv_has ls 6 [(0, .ref (a 3)), (1, .int (nI sl)), (2, .int (nI fi)), (3, .int (nI ct)), (4, .int lo)] := hl
  refine lv_aload_n hx hb dX1_unknown_0 rfl (lv_at hl 0 rfl) ?_
  refine lv_iconst (v := nI 0) hx hb dX1_unknown_1 (by decide +kernel) ?_
  refine va_put (D := (dC, dI)) (ci := 1) (v := .int (nI 0)) (ty := .int) (C := RX1) (T := TX1) (N := 4) hx hb hts inX1_unknown tyX1 tyX1_ok nmX1 hown hK hP (nDA hinj) hS 3 rfl rfl 0 (by decide) (hts (.fieldLink RX1 20 "NumberCircuitsModel" "failed" "I") (by decide +kernel)) (fun _ h9 => h9) rfl (by decide +kernel) rfl rfl (Nat.le_of_ble_eq_true rfl) dX1_unknown_2 (fun H locs hP _ hS => ?_)
  have hP : va_P (dC, dI) vwCl (nW a k fn ft gn gt gm (nI 0) o) H := hP
  refine lv_aload_n hx hb dX1_unknown_5 rfl (lv_at hl 0 rfl) ?_
  refine lv_iload_n hx hb dX1_unknown_6 rfl (lv_at hl 1 rfl) ?_
  refine lv_bipush (v := nI 8) hx hb dX1_unknown_7 (by decide +kernel) ?_
  refine vp_callSi (W.runV (As := [.int (nI sl), .int (nI 8)]) (rest := []) ⟨hx, hb, hml, hown, hts⟩ (m_out l dC dI a k fn ft gn gt gm (nI 0) o (nI sl) 8) (cwV 2 hts gX1_unknown_X1_out rfl rfl rfl (by decide +kernel) ⟨Nat.le_of_ble_eq_true rfl, Nat.le_of_ble_eq_true rfl⟩) (nPreV hP hK (va_recv hK hP (ci := 1) (q0 := 3) rfl rfl)) rfl rfl hl.1 rfl (lv_room (Nat.le_of_ble_eq_true rfl)) dX1_unknown_9 ⟨Nat.zero_le _, Nat.zero_le _⟩) (fun r_9_1 er_9_1 => ?_)
  rw [nO_in (by omega) (by decide)] at er_9_1
  subst er_9_1
  refine lv_if_ne (tgt := 43) hx hb dX1_unknown_12 (by decide) (fun c => absurd c (by decide +kernel)) (fun _ => ?_)
  refine lv_aload_n hx hb dX1_unknown_15 rfl (lv_at hl 0 rfl) ?_
  refine lv_iload_n hx hb dX1_unknown_16 rfl (lv_at hl 2 rfl) ?_
  refine lv_bipush (v := nI 11) hx hb dX1_unknown_17 (by decide +kernel) ?_
  refine vp_callSi (W.runV (As := [.int (nI fi), .int (nI 11)]) (rest := []) ⟨hx, hb, hml, hown, hts⟩ (m_out l dC dI a k fn ft gn gt gm (nI 0) o (nI fi) 11) (cwV 2 hts gX1_unknown_X1_out rfl rfl rfl (by decide +kernel) ⟨Nat.le_of_ble_eq_true rfl, Nat.le_of_ble_eq_true rfl⟩) (nPreV hP hK (va_recv hK hP (ci := 1) (q0 := 3) rfl rfl)) rfl rfl hl.1 rfl (lv_room (Nat.le_of_ble_eq_true rfl)) dX1_unknown_19 ⟨Nat.zero_le _, Nat.zero_le _⟩) (fun r_19_2 er_19_2 => ?_)
  rw [nO_in (by omega) (by decide)] at er_19_2
  subst er_19_2
  refine lv_if_ne (tgt := 43) hx hb dX1_unknown_22 (by decide) (fun c => absurd c (by decide +kernel)) (fun _ => ?_)
  refine lv_aload_n hx hb dX1_unknown_25 rfl (lv_at hl 0 rfl) ?_
  refine lv_iload_n hx hb dX1_unknown_26 rfl (lv_at hl 3 rfl) ?_
  refine lv_bipush (v := nI 11) hx hb dX1_unknown_27 (by decide +kernel) ?_
  refine vp_callSi (W.runV (As := [.int (nI ct), .int (nI 11)]) (rest := []) ⟨hx, hb, hml, hown, hts⟩ (m_out l dC dI a k fn ft gn gt gm (nI 0) o (nI ct) 11) (cwV 2 hts gX1_unknown_X1_out rfl rfl rfl (by decide +kernel) ⟨Nat.le_of_ble_eq_true rfl, Nat.le_of_ble_eq_true rfl⟩) (nPreV hP hK (va_recv hK hP (ci := 1) (q0 := 3) rfl rfl)) rfl rfl hl.1 rfl (lv_room (Nat.le_of_ble_eq_true rfl)) dX1_unknown_29 ⟨Nat.zero_le _, Nat.zero_le _⟩) (fun r_29_3 er_29_3 => ?_)
  rw [nO_in (by omega) (by decide)] at er_29_3
  subst er_29_3
  refine lv_if_ne (tgt := 43) hx hb dX1_unknown_32 (by decide) (fun c => absurd c (by decide +kernel)) (fun _ => ?_)
  refine lv_iload_n hx hb dX1_unknown_35 rfl (lv_at hl 2 rfl) ?_
  refine lv_iload_n hx hb dX1_unknown_36 rfl (lv_at hl 3 rfl) ?_
  refine lv_iadd hx hb dX1_unknown_37 ?_
  refine lv_bipush (v := nI 10) hx hb dX1_unknown_38 (by decide +kernel) ?_
  refine lv_icmp_le (tgt := 51) hx hb dX1_unknown_40 (by decide) (fun c0 => ?_) (fun c0 => ?_)
  · refine lv_iconst (v := nI 0) hx hb dX1_unknown_51 (by decide +kernel) ?_
    refine lv_istore (lv' := [(5, .int (nI 0)), (0, .ref (a 3)), (1, .int (nI sl)), (2, .int (nI fi)), (3, .int (nI ct)), (4, .int lo)]) hx hb dX1_unknown_52 hl (by decide) rfl (fun ls hl => ?_)
    refine nc_loop 1024 (fun w H locs ls => va_P (dC, dI) vwCl (nW a k fn ft (nF gn (1024 * sl) w (mvU fi ct lo)) gt gm (nI 0) o) H ∧ va_S (nA0 a) s.heap H locs ∧ lv_has ls 6 [(5, .int (nI w)), (0, .ref (a 3)), (1, .int (nI sl)), (2, .int (nI fi)), (3, .int (nI ct)), (4, .int lo)]) ⟨(by rw [nF_0]; exact hP), hS, (lv_sub hl [0, 1, 2, 3, 4, 5] rfl)⟩ ?_
    intro w H locs ls hw hI ih
    obtain ⟨hP, hS, hl⟩ := hI
    refine lv_iload hx hb dX1_unknown_54 (lv_at hl 0 rfl) ?_
    refine lv_sipush (v := nI 1024) hx hb dX1_unknown_56 (by decide +kernel) ?_
    refine lv_icmp_ge (tgt := 95) hx hb dX1_unknown_59 (by decide) (fun c1 => ?_) (fun c1 => ?_)
    · obtain rfl : w = 1024 := nHi (by decide) hw c1
      exact W.vret hx hb hr (fun t ht hW => ⟨⟨(), rfl, trivial, by rw [ht]; exact hP, va_K.moved hW.alike hK⟩, hS.F ht⟩) hS.2.2 dX1_unknown_95
    · have hlt : w < 1024 := nLo (by decide) hw c1
      refine lv_aload_n hx hb dX1_unknown_62 rfl (lv_at hl 1 rfl) ?_
      refine va_get (D := (dC, dI)) (ci := 1) (v := .ref (a 4)) (C := RX1) (T := TX1) (N := 4) hx hb hts inX1_unknown hown hK hP 3 rfl rfl 1 (by decide) (hts (.fieldLink RX1 7 "NumberCircuitsModel" "numbers" "[I") (by decide +kernel)) (fun _ h9 => h9) rfl dX1_unknown_63 ?_
      refine lv_sipush (v := nI 1024) hx hb dX1_unknown_66 (by decide +kernel) ?_
      refine lv_iload_n hx hb dX1_unknown_69 rfl (lv_at hl 2 rfl) ?_
      refine lv_imul hx hb dX1_unknown_70 ?_
      refine lv_iload hx hb dX1_unknown_71 (lv_at hl 0 rfl) ?_
      refine lv_iadd hx hb dX1_unknown_73 ?_
      refine lv_topi (fun x_74_4 ex_74_4 => ?_)
      obtain rfl : x_74_4 = nI (1024 * sl + w) := by rw [ex_74_4]; rw [pk_mul, nI_add]
      refine lv_iload hx hb dX1_unknown_74 (lv_at hl 0 rfl) ?_
      refine lv_iload_n hx hb dX1_unknown_76 rfl (lv_at hl 3 rfl) ?_
      refine lv_ishr hx hb dX1_unknown_77 ?_
      refine lv_iconst (v := nI 1) hx hb dX1_unknown_78 (by decide +kernel) ?_
      refine lv_iload_n hx hb dX1_unknown_79 rfl (lv_at hl 4 rfl) ?_
      refine lv_ishl hx hb dX1_unknown_80 ?_
      refine lv_iconst (v := nI 1) hx hb dX1_unknown_81 (by decide +kernel) ?_
      refine lv_isub hx hb dX1_unknown_82 ?_
      refine lv_iand hx hb dX1_unknown_83 ?_
      refine lv_iload hx hb dX1_unknown_84 (lv_at hl 5 rfl) ?_
      refine lv_iadd hx hb dX1_unknown_86 ?_
      refine lv_i2s hx hb dX1_unknown_87 rfl ?_
      refine va_iast (i := nI (1024 * sl + w)) (x := ((((nI w) >>> ((nI fi) &&& 31)) &&& (((nI 1) <<< ((nI ct) &&& 31)) - (nI 1))) + lo).toInt16.toInt32) hx hb hK hP (nDA hinj) hS 4 2 rfl rfl (vp_in_nI (by omega) (by decide)) dX1_unknown_88 (fun H locs hP _ hS => ?_)
      have e_88_5 : upd (nF gn (1024 * sl) w (mvU fi ct lo)) (nI (1024 * sl + w)).toNatClampNeg (((((nI w) >>> ((nI fi) &&& 31)) &&& (((nI 1) <<< ((nI ct) &&& 31)) - (nI 1))) + lo).toInt16.toInt32) = nF gn (1024 * sl) (w + 1) (mvU fi ct lo) := nF_up (by omega) rfl
      have hP : va_P (dC, dI) vwCl (nW a k fn ft (nF gn (1024 * sl) (w + 1) (mvU fi ct lo)) gt gm (nI 0) o) H := by rw [← e_88_5]; exact hP
      refine lv_iinc (v := nI (w + 1)) (lv' := [(5, .int (nI (w + 1))), (0, .ref (a 3)), (1, .int (nI sl)), (2, .int (nI fi)), (3, .int (nI ct)), (4, .int lo)]) hx hb dX1_unknown_89 hl (k := 0) rfl (nI_1 w) (by decide) rfl (fun ls hl => ?_)
      refine lv_goto (tgt := 54) hx hb dX1_unknown_92 (by decide) ?_
      exact ih hlt _ _ _ ⟨hP, hS, (lv_sub hl [0, 1, 2, 3, 4, 5] rfl)⟩
  · exact absurd (by rw [nI_add]; exact nI_le (by omega) (by decide)) c0
set_option maxHeartbeats 4000000 in
set_option maxRecDepth 100000 in
theorem m_result (l : Launch) (dC : Nat → ClassId) (dI : Nat → Nat → Nat) (a : Nat → Nat) (k : Nat → ClassId) (fn ft gn gt gm : Nat → Int32) (fl : Int32) (o : Nat → Int64) (kd : Nat) (x y : Int32) (hkd : kd < 6) : Met l yX1_result wsX1_result ({ frames := 0, cells := 0, slots := 0, locals := 0 }) (va_Pc [.ref (a 3), .int (nI kd), .int x, .int y] (nPw dC dI a k fn ft gn gt gm fl o)) (vp_Si (fun r => r = nRs kd x y)) 0 0 (fun _ => False) := by
  refine Met.ofW (cc := cX1_result) (maxL := 4) (ret := (some .int)) (by decide) rfl ?_
  intro p e s m args below meth c s₁ B hml hv
  obtain ⟨rfl, hP, hK⟩ := hv
  have hx := B.exec
  have hb := B.bytes
  have hr := B.returns
  have hts := atoms_spec (ws := wsX1_result) B.pre
  have hown : s.vm.findClass RX1 = some m.cls := findClass_of_methodNamed B.named
  have hlocks := B.notSynchronized
  have hl := lv_entry ([.ref (a 3), .int (nI kd), .int x, .int y]) (n := 4) (Nat.le_of_ble_eq_true rfl)
  rw [lg_entry_eq]
  generalize (lg_sl ([.ref (a 3), .int (nI kd), .int x, .int y]) ++ List.replicate (4 - (lg_sl ([.ref (a 3), .int (nI kd), .int x, .int y])).length) Slot.unset).toArray = ls at hl ⊢
  have hl : lv_has ls 4 [(0, .ref (a 3)), (1, .int (nI kd)), (2, .int x), (3, .int y)] := hl
  refine lv_iload_n hx hb dX1_result_0 rfl (lv_at hl 1 rfl) ?_
  rcases (show kd = 0 ∨ kd = 1 ∨ kd = 2 ∨ kd = 3 ∨ kd = 4 ∨ kd = 5 by omega) with rfl | rfl | rfl | rfl | rfl | rfl
  · refine lv_tableIn (off := 35) (tgt := 36) hx hb dX1_result_1 (by decide +kernel) (by decide +kernel) (by decide +kernel) (by decide) ?_
    refine lv_iload_n hx hb dX1_result_36 rfl (lv_at hl 2 rfl) ?_
    refine lv_iload_n hx hb dX1_result_37 rfl (lv_at hl 3 rfl) ?_
    refine lv_iadd hx hb dX1_result_38 ?_
    refine lv_i2s hx hb dX1_result_39 rfl ?_
    exact W.iret hx hb hr (fun t ht hW => ⟨_, rfl, rfl, ht⟩) (fun _ h => absurd h List.not_mem_nil) dX1_result_40
  · refine lv_tableIn (off := 40) (tgt := 41) hx hb dX1_result_1 (by decide +kernel) (by decide +kernel) (by decide +kernel) (by decide) ?_
    refine lv_iload_n hx hb dX1_result_41 rfl (lv_at hl 2 rfl) ?_
    refine lv_iload_n hx hb dX1_result_42 rfl (lv_at hl 3 rfl) ?_
    refine lv_isub hx hb dX1_result_43 ?_
    refine lv_i2s hx hb dX1_result_44 rfl ?_
    exact W.iret hx hb hr (fun t ht hW => ⟨_, rfl, rfl, ht⟩) (fun _ h => absurd h List.not_mem_nil) dX1_result_45
  · refine lv_tableIn (off := 45) (tgt := 46) hx hb dX1_result_1 (by decide +kernel) (by decide +kernel) (by decide +kernel) (by decide) ?_
    refine lv_iload_n hx hb dX1_result_46 rfl (lv_at hl 2 rfl) ?_
    refine lv_iload_n hx hb dX1_result_47 rfl (lv_at hl 3 rfl) ?_
    refine lv_imul hx hb dX1_result_48 ?_
    refine lv_i2s hx hb dX1_result_49 rfl ?_
    exact W.iret hx hb hr (fun t ht hW => ⟨_, rfl, rfl, ht⟩) (fun _ h => absurd h List.not_mem_nil) dX1_result_50
  · refine lv_tableIn (off := 50) (tgt := 51) hx hb dX1_result_1 (by decide +kernel) (by decide +kernel) (by decide +kernel) (by decide) ?_
    refine lv_iload_n hx hb dX1_result_51 rfl (lv_at hl 3 rfl) ?_
    refine lv_if_ne (tgt := 59) hx hb dX1_result_52 (by decide) (fun cz => ?_) (fun cz => ?_)
    · refine lv_iload_n hx hb dX1_result_59 rfl (lv_at hl 2 rfl) ?_
      refine lv_iload_n hx hb dX1_result_60 rfl (lv_at hl 3 rfl) ?_
      refine lv_idiv hx hb dX1_result_61 cz ?_
      refine lv_i2s hx hb dX1_result_62 rfl ?_
      exact W.iret hx hb hr (fun t ht hW => ⟨_, rfl, (if_neg cz).symm, ht⟩) (fun _ h => absurd h List.not_mem_nil) dX1_result_63
    · refine lv_iconst (v := nI 0) hx hb dX1_result_55 (by decide +kernel) ?_
      refine lv_goto (tgt := 63) hx hb dX1_result_56 (by decide) ?_
      exact W.iret hx hb hr (fun t ht hW => ⟨_, rfl, (if_pos cz).symm, ht⟩) (fun _ h => absurd h List.not_mem_nil) dX1_result_63
  · refine lv_tableIn (off := 63) (tgt := 64) hx hb dX1_result_1 (by decide +kernel) (by decide +kernel) (by decide +kernel) (by decide) ?_
    refine lv_iload_n hx hb dX1_result_64 rfl (lv_at hl 3 rfl) ?_
    refine lv_if_ne (tgt := 72) hx hb dX1_result_65 (by decide) (fun cz => ?_) (fun cz => ?_)
    · refine lv_iload_n hx hb dX1_result_72 rfl (lv_at hl 2 rfl) ?_
      refine lv_iload_n hx hb dX1_result_73 rfl (lv_at hl 3 rfl) ?_
      refine lv_irem hx hb dX1_result_74 cz ?_
      exact W.iret hx hb hr (fun t ht hW => ⟨_, rfl, (if_neg cz).symm, ht⟩) (fun _ h => absurd h List.not_mem_nil) dX1_result_75
    · refine lv_iconst (v := nI 0) hx hb dX1_result_68 (by decide +kernel) ?_
      refine lv_goto (tgt := 75) hx hb dX1_result_69 (by decide) ?_
      exact W.iret hx hb hr (fun t ht hW => ⟨_, rfl, (if_pos cz).symm, ht⟩) (fun _ h => absurd h List.not_mem_nil) dX1_result_75
  · refine lv_tableOut (tgt := 76) hx hb dX1_result_1 (by decide +kernel) (by decide) ?_
    refine lv_iload_n hx hb dX1_result_76 rfl (lv_at hl 3 rfl) ?_
    refine lv_ineg hx hb dX1_result_77 ?_
    refine lv_i2s hx hb dX1_result_78 rfl ?_
    exact W.iret hx hb hr (fun t ht hW => ⟨_, rfl, rfl, ht⟩) (fun _ h => absurd h List.not_mem_nil) dX1_result_79
set_option maxHeartbeats 4000000 in
set_option maxRecDepth 100000 in
theorem m_reckon (l : Launch) (dC : Nat → ClassId) (dI : Nat → Nat → Nat) (a : Nat → Nat) (k : Nat → ClassId) (fn ft gn gt gm : Nat → Int32) (fl : Int32) (o : Nat → Int64) (hinj : nInj a) (sl kd p0 q0 : Nat) (hsl : sl < 8) (hkd : kd < 6) (hp0 : p0 < 8) (hq0 : q0 < 8) : Met l yX1_reckon wsX1_reckon ({ frames := 1, cells := 0, slots := 0, locals := 40 }) (va_Pc [.ref (a 3), .int (nI sl), .int (nI kd), .int (nI p0), .int (nI q0)] (nPw dC dI a k fn ft gn gt gm fl o)) (nQv (nPw dC dI a k fn ft (nF gn (1024 * sl) 1024 (mvR gn kd p0 q0)) gt (nF gm 0 1024 (mvR gn kd p0 q0)) (nI 0) o) a) 0 0 (nA0 a) := by
  refine Met.ofW (cc := cX1_reckon) (maxL := 6) (ret := none) (by decide) rfl ?_
  intro p e s m args below meth c s₁ B hml hv
  obtain ⟨rfl, hP, hK⟩ := hv
  have hx := B.exec
  have hb := B.bytes
  have hr := B.returns
  have hts := atoms_spec (ws := wsX1_reckon) B.pre
  have hown : s.vm.findClass RX1 = some m.cls := findClass_of_methodNamed B.named
  have hlocks := B.notSynchronized
  have hS : va_S (nA0 a) s.heap s.heap [] := va_S.rf
  have hl := lv_entry ([.ref (a 3), .int (nI sl), .int (nI kd), .int (nI p0), .int (nI q0)]) (n := 6) (Nat.le_of_ble_eq_true rfl)
  rw [lg_entry_eq]
  generalize (lg_sl ([.ref (a 3), .int (nI sl), .int (nI kd), .int (nI p0), .int (nI q0)]) ++ List.replicate (6 - (lg_sl ([.ref (a 3), .int (nI sl), .int (nI kd), .int (nI p0), .int (nI q0)])).length) Slot.unset).toArray = ls at hl ⊢
  have hl : lv_has ls 6 [(0, .ref (a 3)), (1, .int (nI sl)), (2, .int (nI kd)), (3, .int (nI p0)), (4, .int (nI q0))] := hl
  refine lv_aload_n hx hb dX1_reckon_0 rfl (lv_at hl 0 rfl) ?_
  refine lv_iconst (v := nI 0) hx hb dX1_reckon_1 (by decide +kernel) ?_
  refine va_put (D := (dC, dI)) (ci := 1) (v := .int (nI 0)) (ty := .int) (C := RX1) (T := TX1) (N := 4) hx hb hts inX1_reckon tyX1 tyX1_ok nmX1 hown hK hP (nDA hinj) hS 3 rfl rfl 0 (by decide) (hts (.fieldLink RX1 20 "NumberCircuitsModel" "failed" "I") (by decide +kernel)) (fun _ h9 => h9) rfl (by decide +kernel) rfl rfl (Nat.le_of_ble_eq_true rfl) dX1_reckon_2 (fun H locs hP _ hS => ?_)
  have hP : va_P (dC, dI) vwCl (nW a k fn ft gn gt gm (nI 0) o) H := hP
  refine lv_aload_n hx hb dX1_reckon_5 rfl (lv_at hl 0 rfl) ?_
  refine lv_iload_n hx hb dX1_reckon_6 rfl (lv_at hl 1 rfl) ?_
  refine lv_bipush (v := nI 8) hx hb dX1_reckon_7 (by decide +kernel) ?_
  refine vp_callSi (W.runV (As := [.int (nI sl), .int (nI 8)]) (rest := []) ⟨hx, hb, hml, hown, hts⟩ (m_out l dC dI a k fn ft gn gt gm (nI 0) o (nI sl) 8) (cwV 2 hts gX1_reckon_X1_out rfl rfl rfl (by decide +kernel) ⟨Nat.le_of_ble_eq_true rfl, Nat.le_of_ble_eq_true rfl⟩) (nPreV hP hK (va_recv hK hP (ci := 1) (q0 := 3) rfl rfl)) rfl rfl hl.1 rfl (lv_room (Nat.le_of_ble_eq_true rfl)) dX1_reckon_9 ⟨Nat.zero_le _, Nat.zero_le _⟩) (fun r_9_1 er_9_1 => ?_)
  rw [nO_in (by omega) (by decide)] at er_9_1
  subst er_9_1
  refine lv_if_ne (tgt := 46) hx hb dX1_reckon_12 (by decide) (fun c => absurd c (by decide +kernel)) (fun _ => ?_)
  refine lv_aload_n hx hb dX1_reckon_15 rfl (lv_at hl 0 rfl) ?_
  refine lv_iload_n hx hb dX1_reckon_16 rfl (lv_at hl 2 rfl) ?_
  refine lv_bipush (v := nI 6) hx hb dX1_reckon_17 (by decide +kernel) ?_
  refine vp_callSi (W.runV (As := [.int (nI kd), .int (nI 6)]) (rest := []) ⟨hx, hb, hml, hown, hts⟩ (m_out l dC dI a k fn ft gn gt gm (nI 0) o (nI kd) 6) (cwV 2 hts gX1_reckon_X1_out rfl rfl rfl (by decide +kernel) ⟨Nat.le_of_ble_eq_true rfl, Nat.le_of_ble_eq_true rfl⟩) (nPreV hP hK (va_recv hK hP (ci := 1) (q0 := 3) rfl rfl)) rfl rfl hl.1 rfl (lv_room (Nat.le_of_ble_eq_true rfl)) dX1_reckon_19 ⟨Nat.zero_le _, Nat.zero_le _⟩) (fun r_19_2 er_19_2 => ?_)
  rw [nO_in (by omega) (by decide)] at er_19_2
  subst er_19_2
  refine lv_if_ne (tgt := 46) hx hb dX1_reckon_22 (by decide) (fun c => absurd c (by decide +kernel)) (fun _ => ?_)
  refine lv_aload_n hx hb dX1_reckon_25 rfl (lv_at hl 0 rfl) ?_
  refine lv_iload_n hx hb dX1_reckon_26 rfl (lv_at hl 3 rfl) ?_
  refine lv_bipush (v := nI 8) hx hb dX1_reckon_27 (by decide +kernel) ?_
  refine vp_callSi (W.runV (As := [.int (nI p0), .int (nI 8)]) (rest := []) ⟨hx, hb, hml, hown, hts⟩ (m_out l dC dI a k fn ft gn gt gm (nI 0) o (nI p0) 8) (cwV 2 hts gX1_reckon_X1_out rfl rfl rfl (by decide +kernel) ⟨Nat.le_of_ble_eq_true rfl, Nat.le_of_ble_eq_true rfl⟩) (nPreV hP hK (va_recv hK hP (ci := 1) (q0 := 3) rfl rfl)) rfl rfl hl.1 rfl (lv_room (Nat.le_of_ble_eq_true rfl)) dX1_reckon_29 ⟨Nat.zero_le _, Nat.zero_le _⟩) (fun r_29_3 er_29_3 => ?_)
  rw [nO_in (by omega) (by decide)] at er_29_3
  subst er_29_3
  refine lv_if_ne (tgt := 46) hx hb dX1_reckon_32 (by decide) (fun c => absurd c (by decide +kernel)) (fun _ => ?_)
  refine lv_aload_n hx hb dX1_reckon_35 rfl (lv_at hl 0 rfl) ?_
  refine lv_iload hx hb dX1_reckon_36 (lv_at hl 4 rfl) ?_
  refine lv_bipush (v := nI 8) hx hb dX1_reckon_38 (by decide +kernel) ?_
  refine vp_callSi (W.runV (As := [.int (nI q0), .int (nI 8)]) (rest := []) ⟨hx, hb, hml, hown, hts⟩ (m_out l dC dI a k fn ft gn gt gm (nI 0) o (nI q0) 8) (cwV 2 hts gX1_reckon_X1_out rfl rfl rfl (by decide +kernel) ⟨Nat.le_of_ble_eq_true rfl, Nat.le_of_ble_eq_true rfl⟩) (nPreV hP hK (va_recv hK hP (ci := 1) (q0 := 3) rfl rfl)) rfl rfl hl.1 rfl (lv_room (Nat.le_of_ble_eq_true rfl)) dX1_reckon_40 ⟨Nat.zero_le _, Nat.zero_le _⟩) (fun r_40_4 er_40_4 => ?_)
  rw [nO_in (by omega) (by decide)] at er_40_4
  subst er_40_4
  refine lv_if_eq (tgt := 54) hx hb dX1_reckon_43 (by decide) (fun _ => ?_) (fun c => absurd c (by decide +kernel))
  refine lv_iconst (v := nI 0) hx hb dX1_reckon_54 (by decide +kernel) ?_
  refine lv_istore (lv' := [(5, .int (nI 0)), (0, .ref (a 3)), (1, .int (nI sl)), (2, .int (nI kd)), (3, .int (nI p0)), (4, .int (nI q0))]) hx hb dX1_reckon_55 hl (by decide) rfl (fun ls hl => ?_)
  refine nc_loop 1024 (fun w H locs ls => va_P (dC, dI) vwCl (nW a k fn ft gn gt (nF gm 0 w (mvR gn kd p0 q0)) (nI 0) o) H ∧ va_S (nA0 a) s.heap H locs ∧ lv_has ls 6 [(5, .int (nI w)), (0, .ref (a 3)), (1, .int (nI sl)), (2, .int (nI kd)), (3, .int (nI p0)), (4, .int (nI q0))]) ⟨(by rw [nF_0]; exact hP), hS, (lv_sub hl [0, 1, 2, 3, 4, 5] rfl)⟩ ?_
  intro w H locs ls hw hI ih
  obtain ⟨hP, hS, hl⟩ := hI
  refine lv_iload hx hb dX1_reckon_57 (lv_at hl 0 rfl) ?_
  refine lv_sipush (v := nI 1024) hx hb dX1_reckon_59 (by decide +kernel) ?_
  refine lv_icmp_ge (tgt := 110) hx hb dX1_reckon_62 (by decide) (fun c1 => ?_) (fun c1 => ?_)
  · obtain rfl : w = 1024 := nHi (by decide) hw c1
    refine lv_iconst (v := nI 0) hx hb dX1_reckon_110 (by decide +kernel) ?_
    refine lv_istore (lv' := [(5, .int (nI 0)), (0, .ref (a 3)), (1, .int (nI sl)), (2, .int (nI kd)), (3, .int (nI p0)), (4, .int (nI q0))]) hx hb dX1_reckon_111 hl (by decide) rfl (fun ls hl => ?_)
    refine nc_loop 1024 (fun w H locs ls => va_P (dC, dI) vwCl (nW a k fn ft (nF gn (1024 * sl) w (mvR gn kd p0 q0)) gt (nF gm 0 1024 (mvR gn kd p0 q0)) (nI 0) o) H ∧ va_S (nA0 a) s.heap H locs ∧ lv_has ls 6 [(5, .int (nI w)), (0, .ref (a 3)), (1, .int (nI sl)), (2, .int (nI kd)), (3, .int (nI p0)), (4, .int (nI q0))]) ⟨(by rw [nF_0]; exact hP), hS, (lv_sub hl [0, 1, 2, 3, 4, 5] rfl)⟩ ?_
    intro w H locs ls hw hI ih
    obtain ⟨hP, hS, hl⟩ := hI
    refine lv_iload hx hb dX1_reckon_113 (lv_at hl 0 rfl) ?_
    refine lv_sipush (v := nI 1024) hx hb dX1_reckon_115 (by decide +kernel) ?_
    refine lv_icmp_ge (tgt := 147) hx hb dX1_reckon_118 (by decide) (fun c1 => ?_) (fun c1 => ?_)
    · obtain rfl : w = 1024 := nHi (by decide) hw c1
      exact W.vret hx hb hr (fun t ht hW => ⟨⟨(), rfl, trivial, by rw [ht]; exact hP, va_K.moved hW.alike hK⟩, hS.F ht⟩) hS.2.2 dX1_reckon_147
    · have hlt : w < 1024 := nLo (by decide) hw c1
      refine lv_aload_n hx hb dX1_reckon_121 rfl (lv_at hl 1 rfl) ?_
      refine va_get (D := (dC, dI)) (ci := 1) (v := .ref (a 4)) (C := RX1) (T := TX1) (N := 4) hx hb hts inX1_reckon hown hK hP 3 rfl rfl 1 (by decide) (hts (.fieldLink RX1 7 "NumberCircuitsModel" "numbers" "[I") (by decide +kernel)) (fun _ h9 => h9) rfl dX1_reckon_122 ?_
      refine lv_sipush (v := nI 1024) hx hb dX1_reckon_125 (by decide +kernel) ?_
      refine lv_iload_n hx hb dX1_reckon_128 rfl (lv_at hl 2 rfl) ?_
      refine lv_imul hx hb dX1_reckon_129 ?_
      refine lv_iload hx hb dX1_reckon_130 (lv_at hl 0 rfl) ?_
      refine lv_iadd hx hb dX1_reckon_132 ?_
      refine lv_topi (fun x_133_5 ex_133_5 => ?_)
      obtain rfl : x_133_5 = nI (1024 * sl + w) := by rw [ex_133_5]; rw [pk_mul, nI_add]
      refine lv_aload_n hx hb dX1_reckon_133 rfl (lv_at hl 1 rfl) ?_
      refine va_get (D := (dC, dI)) (ci := 1) (v := .ref (a 6)) (C := RX1) (T := TX1) (N := 4) hx hb hts inX1_reckon hown hK hP 3 rfl rfl 3 (by decide) (hts (.fieldLink RX1 17 "NumberCircuitsModel" "made" "[I") (by decide +kernel)) (fun _ h9 => h9) rfl dX1_reckon_134 ?_
      refine lv_iload hx hb dX1_reckon_137 (lv_at hl 0 rfl) ?_
      refine va_iald (i := nI w) hx hb hK hP 6 4 rfl rfl (vp_in_nI (by omega) (by decide)) dX1_reckon_139 ?_
      refine lv_topi (fun x_140_6 ex_140_6 => ?_)
      obtain rfl : x_140_6 = (mvR gn kd p0 q0) w := by rw [ex_140_6]; rw [nI_clamp (show w < 2 ^ 31 by omega)]; exact nF_in0 hlt
      refine va_iast (i := nI (1024 * sl + w)) (x := (mvR gn kd p0 q0) w) hx hb hK hP (nDA hinj) hS 4 2 rfl rfl (vp_in_nI (by omega) (by decide)) dX1_reckon_140 (fun H locs hP _ hS => ?_)
      have e_140_7 : upd (nF gn (1024 * sl) w (mvR gn kd p0 q0)) (nI (1024 * sl + w)).toNatClampNeg ((mvR gn kd p0 q0) w) = nF gn (1024 * sl) (w + 1) (mvR gn kd p0 q0) := nF_up (by omega) rfl
      have hP : va_P (dC, dI) vwCl (nW a k fn ft (nF gn (1024 * sl) (w + 1) (mvR gn kd p0 q0)) gt (nF gm 0 1024 (mvR gn kd p0 q0)) (nI 0) o) H := by rw [← e_140_7]; exact hP
      refine lv_iinc (v := nI (w + 1)) (lv' := [(5, .int (nI (w + 1))), (0, .ref (a 3)), (1, .int (nI sl)), (2, .int (nI kd)), (3, .int (nI p0)), (4, .int (nI q0))]) hx hb dX1_reckon_141 hl (k := 0) rfl (nI_1 w) (by decide) rfl (fun ls hl => ?_)
      refine lv_goto (tgt := 113) hx hb dX1_reckon_144 (by decide) ?_
      exact ih hlt _ _ _ ⟨hP, hS, (lv_sub hl [0, 1, 2, 3, 4, 5] rfl)⟩
  · have hlt : w < 1024 := nLo (by decide) hw c1
    refine lv_aload_n hx hb dX1_reckon_65 rfl (lv_at hl 1 rfl) ?_
    refine va_get (D := (dC, dI)) (ci := 1) (v := .ref (a 6)) (C := RX1) (T := TX1) (N := 4) hx hb hts inX1_reckon hown hK hP 3 rfl rfl 3 (by decide) (hts (.fieldLink RX1 17 "NumberCircuitsModel" "made" "[I") (by decide +kernel)) (fun _ h9 => h9) rfl dX1_reckon_66 ?_
    refine lv_iload hx hb dX1_reckon_69 (lv_at hl 0 rfl) ?_
    refine lv_aload_n hx hb dX1_reckon_71 rfl (lv_at hl 1 rfl) ?_
    refine lv_iload_n hx hb dX1_reckon_72 rfl (lv_at hl 3 rfl) ?_
    refine lv_aload_n hx hb dX1_reckon_73 rfl (lv_at hl 1 rfl) ?_
    refine va_get (D := (dC, dI)) (ci := 1) (v := .ref (a 4)) (C := RX1) (T := TX1) (N := 4) hx hb hts inX1_reckon hown hK hP 3 rfl rfl 1 (by decide) (hts (.fieldLink RX1 7 "NumberCircuitsModel" "numbers" "[I") (by decide +kernel)) (fun _ h9 => h9) rfl dX1_reckon_74 ?_
    refine lv_sipush (v := nI 1024) hx hb dX1_reckon_77 (by decide +kernel) ?_
    refine lv_iload_n hx hb dX1_reckon_80 rfl (lv_at hl 4 rfl) ?_
    refine lv_imul hx hb dX1_reckon_81 ?_
    refine lv_iload hx hb dX1_reckon_82 (lv_at hl 0 rfl) ?_
    refine lv_iadd hx hb dX1_reckon_84 ?_
    refine lv_topi (fun x_85_5 ex_85_5 => ?_)
    obtain rfl : x_85_5 = nI (1024 * p0 + w) := by rw [ex_85_5]; rw [pk_mul, nI_add]
    refine va_iald (i := nI (1024 * p0 + w)) hx hb hK hP 4 2 rfl rfl (vp_in_nI (by omega) (by decide)) dX1_reckon_85 ?_
    refine lv_topi (fun x_86_6 ex_86_6 => ?_)
    obtain rfl : x_86_6 = gn (1024 * p0 + w) := by rw [ex_86_6]; rw [nI_clamp (show 1024 * p0 + w < 2 ^ 31 by omega)]
    refine lv_aload_n hx hb dX1_reckon_86 rfl (lv_at hl 1 rfl) ?_
    refine va_get (D := (dC, dI)) (ci := 1) (v := .ref (a 4)) (C := RX1) (T := TX1) (N := 4) hx hb hts inX1_reckon hown hK hP 3 rfl rfl 1 (by decide) (hts (.fieldLink RX1 7 "NumberCircuitsModel" "numbers" "[I") (by decide +kernel)) (fun _ h9 => h9) rfl dX1_reckon_87 ?_
    refine lv_sipush (v := nI 1024) hx hb dX1_reckon_90 (by decide +kernel) ?_
    refine lv_iload hx hb dX1_reckon_93 (lv_at hl 5 rfl) ?_
    refine lv_imul hx hb dX1_reckon_95 ?_
    refine lv_iload hx hb dX1_reckon_96 (lv_at hl 0 rfl) ?_
    refine lv_iadd hx hb dX1_reckon_98 ?_
    refine lv_topi (fun x_99_7 ex_99_7 => ?_)
    obtain rfl : x_99_7 = nI (1024 * q0 + w) := by rw [ex_99_7]; rw [pk_mul, nI_add]
    refine va_iald (i := nI (1024 * q0 + w)) hx hb hK hP 4 2 rfl rfl (vp_in_nI (by omega) (by decide)) dX1_reckon_99 ?_
    refine lv_topi (fun x_100_8 ex_100_8 => ?_)
    obtain rfl : x_100_8 = gn (1024 * q0 + w) := by rw [ex_100_8]; rw [nI_clamp (show 1024 * q0 + w < 2 ^ 31 by omega)]
    refine vp_callSi (W.runV (As := [.int (nI kd), .int (gn (1024 * p0 + w)), .int (gn (1024 * q0 + w))]) (rest := [.int (nI w), .ref (a 6)]) ⟨hx, hb, hml, hown, hts⟩ (m_result l dC dI a k fn ft gn gt (nF gm 0 w (mvR gn kd p0 q0)) (nI 0) o kd (gn (1024 * p0 + w)) (gn (1024 * q0 + w)) hkd) (cwV 3 hts gX1_reckon_X1_result rfl rfl rfl (by decide +kernel) ⟨Nat.le_of_ble_eq_true rfl, Nat.le_of_ble_eq_true rfl⟩) (nPreV hP hK (va_recv hK hP (ci := 1) (q0 := 3) rfl rfl)) rfl rfl hl.1 rfl (lv_room (Nat.le_of_ble_eq_true rfl)) dX1_reckon_100 ⟨Nat.zero_le _, Nat.zero_le _⟩) (fun r_100_9 er_100_9 => ?_)
    subst er_100_9
    refine va_iast (i := nI w) (x := nRs kd (gn (1024 * p0 + w)) (gn (1024 * q0 + w))) hx hb hK hP (nDA hinj) hS 6 4 rfl rfl (vp_in_nI (by omega) (by decide)) dX1_reckon_103 (fun H locs hP _ hS => ?_)
    have e_103_10 : upd (nF gm 0 w (mvR gn kd p0 q0)) (nI w).toNatClampNeg (nRs kd (gn (1024 * p0 + w)) (gn (1024 * q0 + w))) = nF gm 0 (w + 1) (mvR gn kd p0 q0) := nF_up0 (by omega) rfl
    have hP : va_P (dC, dI) vwCl (nW a k fn ft gn gt (nF gm 0 (w + 1) (mvR gn kd p0 q0)) (nI 0) o) H := by rw [← e_103_10]; exact hP
    refine lv_iinc (v := nI (w + 1)) (lv' := [(5, .int (nI (w + 1))), (0, .ref (a 3)), (1, .int (nI sl)), (2, .int (nI kd)), (3, .int (nI p0)), (4, .int (nI q0))]) hx hb dX1_reckon_104 hl (k := 0) rfl (nI_1 w) (by decide) rfl (fun ls hl => ?_)
    refine lv_goto (tgt := 57) hx hb dX1_reckon_107 (by decide) ?_
    exact ih hlt _ _ _ ⟨hP, hS, (lv_sub hl [0, 1, 2, 3, 4, 5] rfl)⟩
set_option maxHeartbeats 4000000 in
set_option maxRecDepth 100000 in
theorem m_choose (l : Launch) (dC : Nat → ClassId) (dI : Nat → Nat → Nat) (a : Nat → Nat) (k : Nat → ClassId) (fn ft gn gt gm : Nat → Int32) (fl : Int32) (o : Nat → Int64) (hinj : nInj a) (tb : Nat → Nat → Bool) (htb : ∀ t w : Nat, t < 8 → w < 1024 → gt (1024 * t + w) = nb (tb t w)) (sl tr p0 q0 : Nat) (hsl : sl < 8) (htr : tr < 8) (hp0 : p0 < 8) (hq0 : q0 < 8) : Met l yX1_choose wsX1_choose ({ frames := 1, cells := 0, slots := 0, locals := 40 }) (va_Pc [.ref (a 3), .int (nI sl), .int (nI tr), .int (nI p0), .int (nI q0)] (nPw dC dI a k fn ft gn gt gm fl o)) (nQv (nPw dC dI a k fn ft (nF gn (1024 * sl) 1024 (mvH gn tb tr p0 q0)) gt (nF gm 0 1024 (mvH gn tb tr p0 q0)) (nI 0) o) a) 0 0 (nA0 a) := by
  refine Met.ofW (cc := cX1_choose) (maxL := 6) (ret := none) (by decide) rfl ?_
  intro p e s m args below meth c s₁ B hml hv
  obtain ⟨rfl, hP, hK⟩ := hv
  have hx := B.exec
  have hb := B.bytes
  have hr := B.returns
  have hts := atoms_spec (ws := wsX1_choose) B.pre
  have hown : s.vm.findClass RX1 = some m.cls := findClass_of_methodNamed B.named
  have hlocks := B.notSynchronized
  have hS : va_S (nA0 a) s.heap s.heap [] := va_S.rf
  have hl := lv_entry ([.ref (a 3), .int (nI sl), .int (nI tr), .int (nI p0), .int (nI q0)]) (n := 6) (Nat.le_of_ble_eq_true rfl)
  rw [lg_entry_eq]
  generalize (lg_sl ([.ref (a 3), .int (nI sl), .int (nI tr), .int (nI p0), .int (nI q0)]) ++ List.replicate (6 - (lg_sl ([.ref (a 3), .int (nI sl), .int (nI tr), .int (nI p0), .int (nI q0)])).length) Slot.unset).toArray = ls at hl ⊢
  have hl : lv_has ls 6 [(0, .ref (a 3)), (1, .int (nI sl)), (2, .int (nI tr)), (3, .int (nI p0)), (4, .int (nI q0))] := hl
  refine lv_aload_n hx hb dX1_choose_0 rfl (lv_at hl 0 rfl) ?_
  refine lv_iconst (v := nI 0) hx hb dX1_choose_1 (by decide +kernel) ?_
  refine va_put (D := (dC, dI)) (ci := 1) (v := .int (nI 0)) (ty := .int) (C := RX1) (T := TX1) (N := 4) hx hb hts inX1_choose tyX1 tyX1_ok nmX1 hown hK hP (nDA hinj) hS 3 rfl rfl 0 (by decide) (hts (.fieldLink RX1 20 "NumberCircuitsModel" "failed" "I") (by decide +kernel)) (fun _ h9 => h9) rfl (by decide +kernel) rfl rfl (Nat.le_of_ble_eq_true rfl) dX1_choose_2 (fun H locs hP _ hS => ?_)
  have hP : va_P (dC, dI) vwCl (nW a k fn ft gn gt gm (nI 0) o) H := hP
  refine lv_aload_n hx hb dX1_choose_5 rfl (lv_at hl 0 rfl) ?_
  refine lv_iload_n hx hb dX1_choose_6 rfl (lv_at hl 1 rfl) ?_
  refine lv_bipush (v := nI 8) hx hb dX1_choose_7 (by decide +kernel) ?_
  refine vp_callSi (W.runV (As := [.int (nI sl), .int (nI 8)]) (rest := []) ⟨hx, hb, hml, hown, hts⟩ (m_out l dC dI a k fn ft gn gt gm (nI 0) o (nI sl) 8) (cwV 2 hts gX1_choose_X1_out rfl rfl rfl (by decide +kernel) ⟨Nat.le_of_ble_eq_true rfl, Nat.le_of_ble_eq_true rfl⟩) (nPreV hP hK (va_recv hK hP (ci := 1) (q0 := 3) rfl rfl)) rfl rfl hl.1 rfl (lv_room (Nat.le_of_ble_eq_true rfl)) dX1_choose_9 ⟨Nat.zero_le _, Nat.zero_le _⟩) (fun r_9_1 er_9_1 => ?_)
  rw [nO_in (by omega) (by decide)] at er_9_1
  subst er_9_1
  refine lv_if_ne (tgt := 46) hx hb dX1_choose_12 (by decide) (fun c => absurd c (by decide +kernel)) (fun _ => ?_)
  refine lv_aload_n hx hb dX1_choose_15 rfl (lv_at hl 0 rfl) ?_
  refine lv_iload_n hx hb dX1_choose_16 rfl (lv_at hl 2 rfl) ?_
  refine lv_bipush (v := nI 8) hx hb dX1_choose_17 (by decide +kernel) ?_
  refine vp_callSi (W.runV (As := [.int (nI tr), .int (nI 8)]) (rest := []) ⟨hx, hb, hml, hown, hts⟩ (m_out l dC dI a k fn ft gn gt gm (nI 0) o (nI tr) 8) (cwV 2 hts gX1_choose_X1_out rfl rfl rfl (by decide +kernel) ⟨Nat.le_of_ble_eq_true rfl, Nat.le_of_ble_eq_true rfl⟩) (nPreV hP hK (va_recv hK hP (ci := 1) (q0 := 3) rfl rfl)) rfl rfl hl.1 rfl (lv_room (Nat.le_of_ble_eq_true rfl)) dX1_choose_19 ⟨Nat.zero_le _, Nat.zero_le _⟩) (fun r_19_2 er_19_2 => ?_)
  rw [nO_in (by omega) (by decide)] at er_19_2
  subst er_19_2
  refine lv_if_ne (tgt := 46) hx hb dX1_choose_22 (by decide) (fun c => absurd c (by decide +kernel)) (fun _ => ?_)
  refine lv_aload_n hx hb dX1_choose_25 rfl (lv_at hl 0 rfl) ?_
  refine lv_iload_n hx hb dX1_choose_26 rfl (lv_at hl 3 rfl) ?_
  refine lv_bipush (v := nI 8) hx hb dX1_choose_27 (by decide +kernel) ?_
  refine vp_callSi (W.runV (As := [.int (nI p0), .int (nI 8)]) (rest := []) ⟨hx, hb, hml, hown, hts⟩ (m_out l dC dI a k fn ft gn gt gm (nI 0) o (nI p0) 8) (cwV 2 hts gX1_choose_X1_out rfl rfl rfl (by decide +kernel) ⟨Nat.le_of_ble_eq_true rfl, Nat.le_of_ble_eq_true rfl⟩) (nPreV hP hK (va_recv hK hP (ci := 1) (q0 := 3) rfl rfl)) rfl rfl hl.1 rfl (lv_room (Nat.le_of_ble_eq_true rfl)) dX1_choose_29 ⟨Nat.zero_le _, Nat.zero_le _⟩) (fun r_29_3 er_29_3 => ?_)
  rw [nO_in (by omega) (by decide)] at er_29_3
  subst er_29_3
  refine lv_if_ne (tgt := 46) hx hb dX1_choose_32 (by decide) (fun c => absurd c (by decide +kernel)) (fun _ => ?_)
  refine lv_aload_n hx hb dX1_choose_35 rfl (lv_at hl 0 rfl) ?_
  refine lv_iload hx hb dX1_choose_36 (lv_at hl 4 rfl) ?_
  refine lv_bipush (v := nI 8) hx hb dX1_choose_38 (by decide +kernel) ?_
  refine vp_callSi (W.runV (As := [.int (nI q0), .int (nI 8)]) (rest := []) ⟨hx, hb, hml, hown, hts⟩ (m_out l dC dI a k fn ft gn gt gm (nI 0) o (nI q0) 8) (cwV 2 hts gX1_choose_X1_out rfl rfl rfl (by decide +kernel) ⟨Nat.le_of_ble_eq_true rfl, Nat.le_of_ble_eq_true rfl⟩) (nPreV hP hK (va_recv hK hP (ci := 1) (q0 := 3) rfl rfl)) rfl rfl hl.1 rfl (lv_room (Nat.le_of_ble_eq_true rfl)) dX1_choose_40 ⟨Nat.zero_le _, Nat.zero_le _⟩) (fun r_40_4 er_40_4 => ?_)
  rw [nO_in (by omega) (by decide)] at er_40_4
  subst er_40_4
  refine lv_if_eq (tgt := 54) hx hb dX1_choose_43 (by decide) (fun _ => ?_) (fun c => absurd c (by decide +kernel))
  refine lv_iconst (v := nI 0) hx hb dX1_choose_54 (by decide +kernel) ?_
  refine lv_istore (lv' := [(5, .int (nI 0)), (0, .ref (a 3)), (1, .int (nI sl)), (2, .int (nI tr)), (3, .int (nI p0)), (4, .int (nI q0))]) hx hb dX1_choose_55 hl (by decide) rfl (fun ls hl => ?_)
  refine nc_loop 1024 (fun w H locs ls => va_P (dC, dI) vwCl (nW a k fn ft gn gt (nF gm 0 w (mvH gn tb tr p0 q0)) (nI 0) o) H ∧ va_S (nA0 a) s.heap H locs ∧ lv_has ls 6 [(5, .int (nI w)), (0, .ref (a 3)), (1, .int (nI sl)), (2, .int (nI tr)), (3, .int (nI p0)), (4, .int (nI q0))]) ⟨(by rw [nF_0]; exact hP), hS, (lv_sub hl [0, 1, 2, 3, 4, 5] rfl)⟩ ?_
  intro w H locs ls hw hI ih
  obtain ⟨hP, hS, hl⟩ := hI
  refine lv_iload hx hb dX1_choose_57 (lv_at hl 0 rfl) ?_
  refine lv_sipush (v := nI 1024) hx hb dX1_choose_59 (by decide +kernel) ?_
  refine lv_icmp_ge (tgt := 112) hx hb dX1_choose_62 (by decide) (fun c1 => ?_) (fun c1 => ?_)
  · obtain rfl : w = 1024 := nHi (by decide) hw c1
    refine lv_iconst (v := nI 0) hx hb dX1_choose_112 (by decide +kernel) ?_
    refine lv_istore (lv' := [(5, .int (nI 0)), (0, .ref (a 3)), (1, .int (nI sl)), (2, .int (nI tr)), (3, .int (nI p0)), (4, .int (nI q0))]) hx hb dX1_choose_113 hl (by decide) rfl (fun ls hl => ?_)
    refine nc_loop 1024 (fun w H locs ls => va_P (dC, dI) vwCl (nW a k fn ft (nF gn (1024 * sl) w (mvH gn tb tr p0 q0)) gt (nF gm 0 1024 (mvH gn tb tr p0 q0)) (nI 0) o) H ∧ va_S (nA0 a) s.heap H locs ∧ lv_has ls 6 [(5, .int (nI w)), (0, .ref (a 3)), (1, .int (nI sl)), (2, .int (nI tr)), (3, .int (nI p0)), (4, .int (nI q0))]) ⟨(by rw [nF_0]; exact hP), hS, (lv_sub hl [0, 1, 2, 3, 4, 5] rfl)⟩ ?_
    intro w H locs ls hw hI ih
    obtain ⟨hP, hS, hl⟩ := hI
    refine lv_iload hx hb dX1_choose_115 (lv_at hl 0 rfl) ?_
    refine lv_sipush (v := nI 1024) hx hb dX1_choose_117 (by decide +kernel) ?_
    refine lv_icmp_ge (tgt := 149) hx hb dX1_choose_120 (by decide) (fun c1 => ?_) (fun c1 => ?_)
    · obtain rfl : w = 1024 := nHi (by decide) hw c1
      exact W.vret hx hb hr (fun t ht hW => ⟨⟨(), rfl, trivial, by rw [ht]; exact hP, va_K.moved hW.alike hK⟩, hS.F ht⟩) hS.2.2 dX1_choose_149
    · have hlt : w < 1024 := nLo (by decide) hw c1
      refine lv_aload_n hx hb dX1_choose_123 rfl (lv_at hl 1 rfl) ?_
      refine va_get (D := (dC, dI)) (ci := 1) (v := .ref (a 4)) (C := RX1) (T := TX1) (N := 4) hx hb hts inX1_choose hown hK hP 3 rfl rfl 1 (by decide) (hts (.fieldLink RX1 7 "NumberCircuitsModel" "numbers" "[I") (by decide +kernel)) (fun _ h9 => h9) rfl dX1_choose_124 ?_
      refine lv_sipush (v := nI 1024) hx hb dX1_choose_127 (by decide +kernel) ?_
      refine lv_iload_n hx hb dX1_choose_130 rfl (lv_at hl 2 rfl) ?_
      refine lv_imul hx hb dX1_choose_131 ?_
      refine lv_iload hx hb dX1_choose_132 (lv_at hl 0 rfl) ?_
      refine lv_iadd hx hb dX1_choose_134 ?_
      refine lv_topi (fun x_135_5 ex_135_5 => ?_)
      obtain rfl : x_135_5 = nI (1024 * sl + w) := by rw [ex_135_5]; rw [pk_mul, nI_add]
      refine lv_aload_n hx hb dX1_choose_135 rfl (lv_at hl 1 rfl) ?_
      refine va_get (D := (dC, dI)) (ci := 1) (v := .ref (a 6)) (C := RX1) (T := TX1) (N := 4) hx hb hts inX1_choose hown hK hP 3 rfl rfl 3 (by decide) (hts (.fieldLink RX1 17 "NumberCircuitsModel" "made" "[I") (by decide +kernel)) (fun _ h9 => h9) rfl dX1_choose_136 ?_
      refine lv_iload hx hb dX1_choose_139 (lv_at hl 0 rfl) ?_
      refine va_iald (i := nI w) hx hb hK hP 6 4 rfl rfl (vp_in_nI (by omega) (by decide)) dX1_choose_141 ?_
      refine lv_topi (fun x_142_6 ex_142_6 => ?_)
      obtain rfl : x_142_6 = (mvH gn tb tr p0 q0) w := by rw [ex_142_6]; rw [nI_clamp (show w < 2 ^ 31 by omega)]; exact nF_in0 hlt
      refine va_iast (i := nI (1024 * sl + w)) (x := (mvH gn tb tr p0 q0) w) hx hb hK hP (nDA hinj) hS 4 2 rfl rfl (vp_in_nI (by omega) (by decide)) dX1_choose_142 (fun H locs hP _ hS => ?_)
      have e_142_7 : upd (nF gn (1024 * sl) w (mvH gn tb tr p0 q0)) (nI (1024 * sl + w)).toNatClampNeg ((mvH gn tb tr p0 q0) w) = nF gn (1024 * sl) (w + 1) (mvH gn tb tr p0 q0) := nF_up (by omega) rfl
      have hP : va_P (dC, dI) vwCl (nW a k fn ft (nF gn (1024 * sl) (w + 1) (mvH gn tb tr p0 q0)) gt (nF gm 0 1024 (mvH gn tb tr p0 q0)) (nI 0) o) H := by rw [← e_142_7]; exact hP
      refine lv_iinc (v := nI (w + 1)) (lv' := [(5, .int (nI (w + 1))), (0, .ref (a 3)), (1, .int (nI sl)), (2, .int (nI tr)), (3, .int (nI p0)), (4, .int (nI q0))]) hx hb dX1_choose_143 hl (k := 0) rfl (nI_1 w) (by decide) rfl (fun ls hl => ?_)
      refine lv_goto (tgt := 115) hx hb dX1_choose_146 (by decide) ?_
      exact ih hlt _ _ _ ⟨hP, hS, (lv_sub hl [0, 1, 2, 3, 4, 5] rfl)⟩
  · have hlt : w < 1024 := nLo (by decide) hw c1
    refine lv_aload_n hx hb dX1_choose_65 rfl (lv_at hl 1 rfl) ?_
    refine va_get (D := (dC, dI)) (ci := 1) (v := .ref (a 6)) (C := RX1) (T := TX1) (N := 4) hx hb hts inX1_choose hown hK hP 3 rfl rfl 3 (by decide) (hts (.fieldLink RX1 17 "NumberCircuitsModel" "made" "[I") (by decide +kernel)) (fun _ h9 => h9) rfl dX1_choose_66 ?_
    refine lv_iload hx hb dX1_choose_69 (lv_at hl 0 rfl) ?_
    refine lv_aload_n hx hb dX1_choose_71 rfl (lv_at hl 1 rfl) ?_
    refine va_get (D := (dC, dI)) (ci := 1) (v := .ref (a 4)) (C := RX1) (T := TX1) (N := 4) hx hb hts inX1_choose hown hK hP 3 rfl rfl 1 (by decide) (hts (.fieldLink RX1 7 "NumberCircuitsModel" "numbers" "[I") (by decide +kernel)) (fun _ h9 => h9) rfl dX1_choose_72 ?_
    refine lv_sipush (v := nI 1024) hx hb dX1_choose_75 (by decide +kernel) ?_
    refine lv_aload_n hx hb dX1_choose_78 rfl (lv_at hl 1 rfl) ?_
    refine va_get (D := (dC, dI)) (ci := 1) (v := .ref (a 5)) (C := RX1) (T := TX1) (N := 4) hx hb hts inX1_choose hown hK hP 3 rfl rfl 2 (by decide) (hts (.fieldLink RX1 13 "NumberCircuitsModel" "truths" "[Z") (by decide +kernel)) (fun _ h9 => h9) rfl dX1_choose_79 ?_
    refine lv_sipush (v := nI 1024) hx hb dX1_choose_82 (by decide +kernel) ?_
    refine lv_iload_n hx hb dX1_choose_85 rfl (lv_at hl 3 rfl) ?_
    refine lv_imul hx hb dX1_choose_86 ?_
    refine lv_iload hx hb dX1_choose_87 (lv_at hl 0 rfl) ?_
    refine lv_iadd hx hb dX1_choose_89 ?_
    refine lv_topi (fun x_90_5 ex_90_5 => ?_)
    obtain rfl : x_90_5 = nI (1024 * tr + w) := by rw [ex_90_5]; rw [pk_mul, nI_add]
    refine va_zald (i := nI (1024 * tr + w)) hx hb hK hP 5 3 rfl rfl (vp_in_nI (by omega) (by decide)) dX1_choose_90 ?_
    refine lv_topi (fun x_91_6 ex_91_6 => ?_)
    obtain rfl : x_91_6 = nb (tb tr w) := by rw [ex_91_6]; rw [nI_clamp (show 1024 * tr + w < 2 ^ 31 by omega)]; exact htb tr w htr hlt
    refine lv_if_eq (tgt := 98) hx hb dX1_choose_91 (by decide) (fun c2 => ?_) (fun c2 => ?_)
    · have hbt : tb tr w = false := nb_f c2
      refine lv_iload hx hb dX1_choose_98 (lv_at hl 5 rfl) ?_
      refine lv_imul hx hb dX1_choose_100 ?_
      refine lv_iload hx hb dX1_choose_101 (lv_at hl 0 rfl) ?_
      refine lv_iadd hx hb dX1_choose_103 ?_
      refine lv_topi (fun x_104_7 ex_104_7 => ?_)
      obtain rfl : x_104_7 = nI (1024 * q0 + w) := by rw [ex_104_7]; rw [pk_mul, nI_add]
      refine va_iald (i := nI (1024 * q0 + w)) hx hb hK hP 4 2 rfl rfl (vp_in_nI (by omega) (by decide)) dX1_choose_104 ?_
      refine lv_topi (fun x_105_8 ex_105_8 => ?_)
      obtain rfl : x_105_8 = gn (1024 * q0 + w) := by rw [ex_105_8]; rw [nI_clamp (show 1024 * q0 + w < 2 ^ 31 by omega)]
      refine va_iast (i := nI w) (x := gn (1024 * q0 + w)) hx hb hK hP (nDA hinj) hS 6 4 rfl rfl (vp_in_nI (by omega) (by decide)) dX1_choose_105 (fun H locs hP _ hS => ?_)
      have e_105_9 : upd (nF gm 0 w (mvH gn tb tr p0 q0)) (nI w).toNatClampNeg (gn (1024 * q0 + w)) = nF gm 0 (w + 1) (mvH gn tb tr p0 q0) := nF_up0 (by omega) (by unfold mvH; rw [hbt]; rfl)
      have hP : va_P (dC, dI) vwCl (nW a k fn ft gn gt (nF gm 0 (w + 1) (mvH gn tb tr p0 q0)) (nI 0) o) H := by rw [← e_105_9]; exact hP
      refine lv_iinc (v := nI (w + 1)) (lv' := [(5, .int (nI (w + 1))), (0, .ref (a 3)), (1, .int (nI sl)), (2, .int (nI tr)), (3, .int (nI p0)), (4, .int (nI q0))]) hx hb dX1_choose_106 hl (k := 0) rfl (nI_1 w) (by decide) rfl (fun ls hl => ?_)
      refine lv_goto (tgt := 57) hx hb dX1_choose_109 (by decide) ?_
      exact ih hlt _ _ _ ⟨hP, hS, (lv_sub hl [0, 1, 2, 3, 4, 5] rfl)⟩
    · have hbt : tb tr w = true := nb_t c2
      refine lv_iload_n hx hb dX1_choose_94 rfl (lv_at hl 4 rfl) ?_
      refine lv_goto (tgt := 100) hx hb dX1_choose_95 (by decide) ?_
      refine lv_imul hx hb dX1_choose_100 ?_
      refine lv_iload hx hb dX1_choose_101 (lv_at hl 0 rfl) ?_
      refine lv_iadd hx hb dX1_choose_103 ?_
      refine lv_topi (fun x_104_7 ex_104_7 => ?_)
      obtain rfl : x_104_7 = nI (1024 * p0 + w) := by rw [ex_104_7]; rw [pk_mul, nI_add]
      refine va_iald (i := nI (1024 * p0 + w)) hx hb hK hP 4 2 rfl rfl (vp_in_nI (by omega) (by decide)) dX1_choose_104 ?_
      refine lv_topi (fun x_105_8 ex_105_8 => ?_)
      obtain rfl : x_105_8 = gn (1024 * p0 + w) := by rw [ex_105_8]; rw [nI_clamp (show 1024 * p0 + w < 2 ^ 31 by omega)]
      refine va_iast (i := nI w) (x := gn (1024 * p0 + w)) hx hb hK hP (nDA hinj) hS 6 4 rfl rfl (vp_in_nI (by omega) (by decide)) dX1_choose_105 (fun H locs hP _ hS => ?_)
      have e_105_9 : upd (nF gm 0 w (mvH gn tb tr p0 q0)) (nI w).toNatClampNeg (gn (1024 * p0 + w)) = nF gm 0 (w + 1) (mvH gn tb tr p0 q0) := nF_up0 (by omega) (by unfold mvH; rw [hbt]; rfl)
      have hP : va_P (dC, dI) vwCl (nW a k fn ft gn gt (nF gm 0 (w + 1) (mvH gn tb tr p0 q0)) (nI 0) o) H := by rw [← e_105_9]; exact hP
      refine lv_iinc (v := nI (w + 1)) (lv' := [(5, .int (nI (w + 1))), (0, .ref (a 3)), (1, .int (nI sl)), (2, .int (nI tr)), (3, .int (nI p0)), (4, .int (nI q0))]) hx hb dX1_choose_106 hl (k := 0) rfl (nI_1 w) (by decide) rfl (fun ls hl => ?_)
      refine lv_goto (tgt := 57) hx hb dX1_choose_109 (by decide) ?_
      exact ih hlt _ _ _ ⟨hP, hS, (lv_sub hl [0, 1, 2, 3, 4, 5] rfl)⟩
set_option maxHeartbeats 4000000 in
set_option maxRecDepth 100000 in
theorem m_yes (l : Launch) (dC : Nat → ClassId) (dI : Nat → Nat → Nat) (a : Nat → Nat) (k : Nat → ClassId) (fn ft gn gt gm : Nat → Int32) (fl : Int32) (o : Nat → Int64) (tr : Nat) (q : Nat → Bool) (htr : tr < 8) (hq : ∀ w : Nat, w < 1024 → gt (1024 * tr + w) = nb (q w)) : Met l yX1_yes wsX1_yes ({ frames := 0, cells := 0, slots := 0, locals := 0 }) (va_Pc [.ref (a 3), .int (nI tr)] (nPw dC dI a k fn ft gn gt gm fl o)) (vp_Si (fun r => r = nI (nN q 1024))) 0 0 (fun _ => False) := by
  refine Met.ofW (cc := cX1_yes) (maxL := 4) (ret := (some .int)) (by decide) rfl ?_
  intro p e s m args below meth c s₁ B hml hv
  obtain ⟨rfl, hP, hK⟩ := hv
  have hx := B.exec
  have hb := B.bytes
  have hr := B.returns
  have hts := atoms_spec (ws := wsX1_yes) B.pre
  have hown : s.vm.findClass RX1 = some m.cls := findClass_of_methodNamed B.named
  have hlocks := B.notSynchronized
  have hl := lv_entry ([.ref (a 3), .int (nI tr)]) (n := 4) (Nat.le_of_ble_eq_true rfl)
  rw [lg_entry_eq]
  generalize (lg_sl ([.ref (a 3), .int (nI tr)]) ++ List.replicate (4 - (lg_sl ([.ref (a 3), .int (nI tr)])).length) Slot.unset).toArray = ls at hl ⊢
  have hl : lv_has ls 4 [(0, .ref (a 3)), (1, .int (nI tr))] := hl
  refine lv_iconst (v := nI 0) hx hb dX1_yes_0 (by decide +kernel) ?_
  refine lv_istore_n (lv' := [(2, .int (nI 0)), (0, .ref (a 3)), (1, .int (nI tr))]) hx hb dX1_yes_1 rfl hl (by decide) rfl (fun ls hl => ?_)
  have hl : lv_has ls 4 [(2, .int (nI (nN q 0))), (0, .ref (a 3)), (1, .int (nI tr))] := hl
  refine lv_iconst (v := nI 0) hx hb dX1_yes_2 (by decide +kernel) ?_
  refine lv_istore_n (lv' := [(3, .int (nI 0)), (2, .int (nI (nN q 0))), (0, .ref (a 3)), (1, .int (nI tr))]) hx hb dX1_yes_3 rfl hl (by decide) rfl (fun ls hl => ?_)
  refine nc_loop 1024 (fun w H locs ls => H = s.heap ∧ locs = [] ∧ lv_has ls 4 [(3, .int (nI w)), (2, .int (nI (nN q w))), (0, .ref (a 3)), (1, .int (nI tr))]) ⟨rfl, rfl, (lv_sub hl [0, 1, 2, 3] rfl)⟩ ?_
  intro w H locs ls hw hI ih
  obtain ⟨rfl, rfl, hl⟩ := hI
  refine lv_iload_n hx hb dX1_yes_4 rfl (lv_at hl 0 rfl) ?_
  refine lv_sipush (v := nI 1024) hx hb dX1_yes_5 (by decide +kernel) ?_
  refine lv_icmp_ge (tgt := 40) hx hb dX1_yes_8 (by decide) (fun c1 => ?_) (fun c1 => ?_)
  · obtain rfl : w = 1024 := nHi (by decide) hw c1
    refine lv_iload_n hx hb dX1_yes_40 rfl (lv_at hl 1 rfl) ?_
    exact W.iret hx hb hr (fun t ht hW => ⟨_, rfl, rfl, ht⟩) (fun _ h => absurd h List.not_mem_nil) dX1_yes_41
  · have hlt : w < 1024 := nLo (by decide) hw c1
    refine lv_iload_n hx hb dX1_yes_11 rfl (lv_at hl 1 rfl) ?_
    refine lv_aload_n hx hb dX1_yes_12 rfl (lv_at hl 2 rfl) ?_
    refine va_get (D := (dC, dI)) (ci := 1) (v := .ref (a 5)) (C := RX1) (T := TX1) (N := 4) hx hb hts inX1_yes hown hK hP 3 rfl rfl 2 (by decide) (hts (.fieldLink RX1 13 "NumberCircuitsModel" "truths" "[Z") (by decide +kernel)) (fun _ h9 => h9) rfl dX1_yes_13 ?_
    refine lv_sipush (v := nI 1024) hx hb dX1_yes_16 (by decide +kernel) ?_
    refine lv_iload_n hx hb dX1_yes_19 rfl (lv_at hl 3 rfl) ?_
    refine lv_imul hx hb dX1_yes_20 ?_
    refine lv_iload_n hx hb dX1_yes_21 rfl (lv_at hl 0 rfl) ?_
    refine lv_iadd hx hb dX1_yes_22 ?_
    refine lv_topi (fun x_23_1 ex_23_1 => ?_)
    obtain rfl : x_23_1 = nI (1024 * tr + w) := by rw [ex_23_1]; rw [pk_mul, nI_add]
    refine va_zald (i := nI (1024 * tr + w)) hx hb hK hP 5 3 rfl rfl (vp_in_nI (by omega) (by decide)) dX1_yes_23 ?_
    refine lv_topi (fun x_24_2 ex_24_2 => ?_)
    obtain rfl : x_24_2 = nb (q w) := by rw [ex_24_2]; rw [nI_clamp (show 1024 * tr + w < 2 ^ 31 by omega)]; exact hq w hlt
    refine lv_if_eq (tgt := 31) hx hb dX1_yes_24 (by decide) (fun c2 => ?_) (fun c2 => ?_)
    · refine lv_iconst (v := nI 0) hx hb dX1_yes_31 (by decide +kernel) ?_
      refine lv_iadd hx hb dX1_yes_32 ?_
      refine lv_topi (fun x_33_3 ex_33_3 => ?_)
      obtain rfl : x_33_3 = nI (nN q (w + 1)) := by rw [ex_33_3]; rw [← nN_s, show q w = false from nb_f c2]; rfl
      refine lv_istore_n (lv' := [(2, .int (nI (nN q (w + 1)))), (3, .int (nI w)), (0, .ref (a 3)), (1, .int (nI tr))]) hx hb dX1_yes_33 rfl hl (by decide) rfl (fun ls hl => ?_)
      refine lv_iinc (v := nI (w + 1)) (lv' := [(3, .int (nI (w + 1))), (2, .int (nI (nN q (w + 1)))), (0, .ref (a 3)), (1, .int (nI tr))]) hx hb dX1_yes_34 hl (k := 1) rfl (nI_1 w) (by decide) rfl (fun ls hl => ?_)
      refine lv_goto (tgt := 4) hx hb dX1_yes_37 (by decide) ?_
      exact ih hlt _ _ _ ⟨rfl, rfl, (lv_sub hl [0, 1, 2, 3] rfl)⟩
    · refine lv_iconst (v := nI 1) hx hb dX1_yes_27 (by decide +kernel) ?_
      refine lv_goto (tgt := 32) hx hb dX1_yes_28 (by decide) ?_
      refine lv_iadd hx hb dX1_yes_32 ?_
      refine lv_topi (fun x_33_3 ex_33_3 => ?_)
      obtain rfl : x_33_3 = nI (nN q (w + 1)) := by rw [ex_33_3]; rw [← nN_s, show q w = true from nb_t c2]; rfl
      refine lv_istore_n (lv' := [(2, .int (nI (nN q (w + 1)))), (3, .int (nI w)), (0, .ref (a 3)), (1, .int (nI tr))]) hx hb dX1_yes_33 rfl hl (by decide) rfl (fun ls hl => ?_)
      refine lv_iinc (v := nI (w + 1)) (lv' := [(3, .int (nI (w + 1))), (2, .int (nI (nN q (w + 1)))), (0, .ref (a 3)), (1, .int (nI tr))]) hx hb dX1_yes_34 hl (k := 1) rfl (nI_1 w) (by decide) rfl (fun ls hl => ?_)
      refine lv_goto (tgt := 4) hx hb dX1_yes_37 (by decide) ?_
      exact ih hlt _ _ _ ⟨rfl, rfl, (lv_sub hl [0, 1, 2, 3] rfl)⟩
end
section
set_option maxHeartbeats 4000000 in
set_option maxRecDepth 100000 in
theorem m_compare (l : Launch) (dC : Nat → ClassId) (dI : Nat → Nat → Nat) (a : Nat → Nat) (k : Nat → ClassId) (fn ft gn gt gm : Nat → Int32) (fl : Int32) (o : Nat → Int64) (hinj : nInj a) (tr kd p0 q0 : Nat) (htr : tr < 8) (hkd : kd < 4) (hp0 : p0 < 8) (hq0 : q0 < 8) : Met l yX1_compare wsX1_compare ({ frames := 1, cells := 0, slots := 0, locals := 40 }) (va_Pc [.ref (a 3), .int (nI tr), .int (nI kd), .int (nI p0), .int (nI q0)] (nPw dC dI a k fn ft gn gt gm fl o)) (nQi (nI (nN (nyC gn kd p0 q0) 1024)) (nPw dC dI a k fn ft gn (nF gt (1024 * tr) 1024 (mvB (nyC gn kd p0 q0))) gm (nI 0) o) a) 0 0 (nA0 a) := by
  refine Met.ofW (cc := cX1_compare) (maxL := 8) (ret := (some .int)) (by decide) rfl ?_
  intro p e s m args below meth c s₁ B hml hv
  obtain ⟨rfl, hP, hK⟩ := hv
  have hx := B.exec
  have hb := B.bytes
  have hr := B.returns
  have hts := atoms_spec (ws := wsX1_compare) B.pre
  have hown : s.vm.findClass RX1 = some m.cls := findClass_of_methodNamed B.named
  have hlocks := B.notSynchronized
  have hS : va_S (nA0 a) s.heap s.heap [] := va_S.rf
  have hl := lv_entry ([.ref (a 3), .int (nI tr), .int (nI kd), .int (nI p0), .int (nI q0)]) (n := 8) (Nat.le_of_ble_eq_true rfl)
  rw [lg_entry_eq]
  generalize (lg_sl ([.ref (a 3), .int (nI tr), .int (nI kd), .int (nI p0), .int (nI q0)]) ++ List.replicate (8 - (lg_sl ([.ref (a 3), .int (nI tr), .int (nI kd), .int (nI p0), .int (nI q0)])).length) Slot.unset).toArray = ls at hl ⊢
  have hl : lv_has ls 8 [(0, .ref (a 3)), (1, .int (nI tr)), (2, .int (nI kd)), (3, .int (nI p0)), (4, .int (nI q0))] := hl
  refine lv_aload_n hx hb dX1_compare_0 rfl (lv_at hl 0 rfl) ?_
  refine lv_iconst (v := nI 0) hx hb dX1_compare_1 (by decide +kernel) ?_
  refine va_put (D := (dC, dI)) (ci := 1) (v := .int (nI 0)) (ty := .int) (C := RX1) (T := TX1) (N := 4) hx hb hts inX1_compare tyX1 tyX1_ok nmX1 hown hK hP (nDA hinj) hS 3 rfl rfl 0 (by decide) (hts (.fieldLink RX1 20 "NumberCircuitsModel" "failed" "I") (by decide +kernel)) (fun _ h9 => h9) rfl (by decide +kernel) rfl rfl (Nat.le_of_ble_eq_true rfl) dX1_compare_2 (fun H locs hP _ hS => ?_)
  have hP : va_P (dC, dI) vwCl (nW a k fn ft gn gt gm (nI 0) o) H := hP
  refine lv_aload_n hx hb dX1_compare_5 rfl (lv_at hl 0 rfl) ?_
  refine lv_iload_n hx hb dX1_compare_6 rfl (lv_at hl 1 rfl) ?_
  refine lv_bipush (v := nI 8) hx hb dX1_compare_7 (by decide +kernel) ?_
  refine vp_callSi (W.runV (As := [.int (nI tr), .int (nI 8)]) (rest := []) ⟨hx, hb, hml, hown, hts⟩ (m_out l dC dI a k fn ft gn gt gm (nI 0) o (nI tr) 8) (cwV 2 hts gX1_compare_X1_out rfl rfl rfl (by decide +kernel) ⟨Nat.le_of_ble_eq_true rfl, Nat.le_of_ble_eq_true rfl⟩) (nPreV hP hK (va_recv hK hP (ci := 1) (q0 := 3) rfl rfl)) rfl rfl hl.1 rfl (lv_room (Nat.le_of_ble_eq_true rfl)) dX1_compare_9 ⟨Nat.zero_le _, Nat.zero_le _⟩) (fun r_9_1 er_9_1 => ?_)
  rw [nO_in (by omega) (by decide)] at er_9_1
  subst er_9_1
  refine lv_if_ne (tgt := 45) hx hb dX1_compare_12 (by decide) (fun c => absurd c (by decide +kernel)) (fun _ => ?_)
  refine lv_aload_n hx hb dX1_compare_15 rfl (lv_at hl 0 rfl) ?_
  refine lv_iload_n hx hb dX1_compare_16 rfl (lv_at hl 2 rfl) ?_
  refine lv_iconst (v := nI 4) hx hb dX1_compare_17 (by decide +kernel) ?_
  refine vp_callSi (W.runV (As := [.int (nI kd), .int (nI 4)]) (rest := []) ⟨hx, hb, hml, hown, hts⟩ (m_out l dC dI a k fn ft gn gt gm (nI 0) o (nI kd) 4) (cwV 2 hts gX1_compare_X1_out rfl rfl rfl (by decide +kernel) ⟨Nat.le_of_ble_eq_true rfl, Nat.le_of_ble_eq_true rfl⟩) (nPreV hP hK (va_recv hK hP (ci := 1) (q0 := 3) rfl rfl)) rfl rfl hl.1 rfl (lv_room (Nat.le_of_ble_eq_true rfl)) dX1_compare_18 ⟨Nat.zero_le _, Nat.zero_le _⟩) (fun r_18_2 er_18_2 => ?_)
  rw [nO_in (by omega) (by decide)] at er_18_2
  subst er_18_2
  refine lv_if_ne (tgt := 45) hx hb dX1_compare_21 (by decide) (fun c => absurd c (by decide +kernel)) (fun _ => ?_)
  refine lv_aload_n hx hb dX1_compare_24 rfl (lv_at hl 0 rfl) ?_
  refine lv_iload_n hx hb dX1_compare_25 rfl (lv_at hl 3 rfl) ?_
  refine lv_bipush (v := nI 8) hx hb dX1_compare_26 (by decide +kernel) ?_
  refine vp_callSi (W.runV (As := [.int (nI p0), .int (nI 8)]) (rest := []) ⟨hx, hb, hml, hown, hts⟩ (m_out l dC dI a k fn ft gn gt gm (nI 0) o (nI p0) 8) (cwV 2 hts gX1_compare_X1_out rfl rfl rfl (by decide +kernel) ⟨Nat.le_of_ble_eq_true rfl, Nat.le_of_ble_eq_true rfl⟩) (nPreV hP hK (va_recv hK hP (ci := 1) (q0 := 3) rfl rfl)) rfl rfl hl.1 rfl (lv_room (Nat.le_of_ble_eq_true rfl)) dX1_compare_28 ⟨Nat.zero_le _, Nat.zero_le _⟩) (fun r_28_3 er_28_3 => ?_)
  rw [nO_in (by omega) (by decide)] at er_28_3
  subst er_28_3
  refine lv_if_ne (tgt := 45) hx hb dX1_compare_31 (by decide) (fun c => absurd c (by decide +kernel)) (fun _ => ?_)
  refine lv_aload_n hx hb dX1_compare_34 rfl (lv_at hl 0 rfl) ?_
  refine lv_iload hx hb dX1_compare_35 (lv_at hl 4 rfl) ?_
  refine lv_bipush (v := nI 8) hx hb dX1_compare_37 (by decide +kernel) ?_
  refine vp_callSi (W.runV (As := [.int (nI q0), .int (nI 8)]) (rest := []) ⟨hx, hb, hml, hown, hts⟩ (m_out l dC dI a k fn ft gn gt gm (nI 0) o (nI q0) 8) (cwV 2 hts gX1_compare_X1_out rfl rfl rfl (by decide +kernel) ⟨Nat.le_of_ble_eq_true rfl, Nat.le_of_ble_eq_true rfl⟩) (nPreV hP hK (va_recv hK hP (ci := 1) (q0 := 3) rfl rfl)) rfl rfl hl.1 rfl (lv_room (Nat.le_of_ble_eq_true rfl)) dX1_compare_39 ⟨Nat.zero_le _, Nat.zero_le _⟩) (fun r_39_4 er_39_4 => ?_)
  rw [nO_in (by omega) (by decide)] at er_39_4
  subst er_39_4
  refine lv_if_eq (tgt := 51) hx hb dX1_compare_42 (by decide) (fun _ => ?_) (fun c => absurd c (by decide +kernel))
  refine lv_iconst (v := nI 0) hx hb dX1_compare_51 (by decide +kernel) ?_
  refine lv_istore (lv' := [(5, .int (nI 0)), (0, .ref (a 3)), (1, .int (nI tr)), (2, .int (nI kd)), (3, .int (nI p0)), (4, .int (nI q0))]) hx hb dX1_compare_52 hl (by decide) rfl (fun ls hl => ?_)
  refine nc_loop 1024 (fun w H locs ls => va_P (dC, dI) vwCl (nW a k fn ft gn (nF gt (1024 * tr) w (mvB (nyC gn kd p0 q0))) gm (nI 0) o) H ∧ va_S (nA0 a) s.heap H locs ∧ lv_has ls 8 [(5, .int (nI w)), (0, .ref (a 3)), (1, .int (nI tr)), (2, .int (nI kd)), (3, .int (nI p0)), (4, .int (nI q0))]) ⟨(by rw [nF_0]; exact hP), hS, (lv_sub hl [0, 1, 2, 3, 4, 5] rfl)⟩ ?_
  intro w H locs ls hw hI ih
  obtain ⟨hP, hS, hl⟩ := hI
  refine lv_iload hx hb dX1_compare_54 (lv_at hl 0 rfl) ?_
  refine lv_sipush (v := nI 1024) hx hb dX1_compare_56 (by decide +kernel) ?_
  refine lv_icmp_ge (tgt := 183) hx hb dX1_compare_59 (by decide) (fun c1 => ?_) (fun c1 => ?_)
  · obtain rfl : w = 1024 := nHi (by decide) hw c1
    refine lv_aload_n hx hb dX1_compare_183 rfl (lv_at hl 1 rfl) ?_
    refine lv_iload_n hx hb dX1_compare_184 rfl (lv_at hl 2 rfl) ?_
    refine vp_callSi (W.runV (As := [.int (nI tr)]) (rest := []) ⟨hx, hb, hml, hown, hts⟩ (m_yes l dC dI a k fn ft gn (nF gt (1024 * tr) 1024 (mvB (nyC gn kd p0 q0))) gm (nI 0) o tr (nyC gn kd p0 q0) htr (fun w hw => nF_in hw)) (cwV 1 hts gX1_compare_X1_yes rfl rfl rfl (by decide +kernel) ⟨Nat.le_of_ble_eq_true rfl, Nat.le_of_ble_eq_true rfl⟩) (nPreV hP hK (va_recv hK hP (ci := 1) (q0 := 3) rfl rfl)) rfl rfl hl.1 rfl (lv_room (Nat.le_of_ble_eq_true rfl)) dX1_compare_185 ⟨Nat.zero_le _, Nat.zero_le _⟩) (fun r_185_5 er_185_5 => ?_)
    subst er_185_5
    exact W.iret hx hb hr (fun t ht hW => ⟨⟨_, (), rfl, rfl, by rw [ht]; exact hP, va_K.moved hW.alike hK⟩, hS.F ht⟩) hS.2.2 dX1_compare_188
  · have hlt : w < 1024 := nLo (by decide) hw c1
    refine lv_aload_n hx hb dX1_compare_62 rfl (lv_at hl 1 rfl) ?_
    refine va_get (D := (dC, dI)) (ci := 1) (v := .ref (a 4)) (C := RX1) (T := TX1) (N := 4) hx hb hts inX1_compare hown hK hP 3 rfl rfl 1 (by decide) (hts (.fieldLink RX1 7 "NumberCircuitsModel" "numbers" "[I") (by decide +kernel)) (fun _ h9 => h9) rfl dX1_compare_63 ?_
    refine lv_sipush (v := nI 1024) hx hb dX1_compare_66 (by decide +kernel) ?_
    refine lv_iload_n hx hb dX1_compare_69 rfl (lv_at hl 4 rfl) ?_
    refine lv_imul hx hb dX1_compare_70 ?_
    refine lv_iload hx hb dX1_compare_71 (lv_at hl 0 rfl) ?_
    refine lv_iadd hx hb dX1_compare_73 ?_
    refine lv_topi (fun x_74_5 ex_74_5 => ?_)
    obtain rfl : x_74_5 = nI (1024 * p0 + w) := by rw [ex_74_5]; rw [pk_mul, nI_add]
    refine va_iald (i := nI (1024 * p0 + w)) hx hb hK hP 4 2 rfl rfl (vp_in_nI (by omega) (by decide)) dX1_compare_74 ?_
    refine lv_topi (fun x_75_6 ex_75_6 => ?_)
    obtain rfl : x_75_6 = gn (1024 * p0 + w) := by rw [ex_75_6]; rw [nI_clamp (show 1024 * p0 + w < 2 ^ 31 by omega)]
    refine lv_istore (lv' := [(6, .int (gn (1024 * p0 + w))), (5, .int (nI w)), (0, .ref (a 3)), (1, .int (nI tr)), (2, .int (nI kd)), (3, .int (nI p0)), (4, .int (nI q0))]) hx hb dX1_compare_75 hl (by decide) rfl (fun ls hl => ?_)
    refine lv_aload_n hx hb dX1_compare_77 rfl (lv_at hl 2 rfl) ?_
    refine va_get (D := (dC, dI)) (ci := 1) (v := .ref (a 4)) (C := RX1) (T := TX1) (N := 4) hx hb hts inX1_compare hown hK hP 3 rfl rfl 1 (by decide) (hts (.fieldLink RX1 7 "NumberCircuitsModel" "numbers" "[I") (by decide +kernel)) (fun _ h9 => h9) rfl dX1_compare_78 ?_
    refine lv_sipush (v := nI 1024) hx hb dX1_compare_81 (by decide +kernel) ?_
    refine lv_iload hx hb dX1_compare_84 (lv_at hl 6 rfl) ?_
    refine lv_imul hx hb dX1_compare_86 ?_
    refine lv_iload hx hb dX1_compare_87 (lv_at hl 1 rfl) ?_
    refine lv_iadd hx hb dX1_compare_89 ?_
    refine lv_topi (fun x_90_7 ex_90_7 => ?_)
    obtain rfl : x_90_7 = nI (1024 * q0 + w) := by rw [ex_90_7]; rw [pk_mul, nI_add]
    refine va_iald (i := nI (1024 * q0 + w)) hx hb hK hP 4 2 rfl rfl (vp_in_nI (by omega) (by decide)) dX1_compare_90 ?_
    refine lv_topi (fun x_91_8 ex_91_8 => ?_)
    obtain rfl : x_91_8 = gn (1024 * q0 + w) := by rw [ex_91_8]; rw [nI_clamp (show 1024 * q0 + w < 2 ^ 31 by omega)]
    refine lv_istore (lv' := [(7, .int (gn (1024 * q0 + w))), (6, .int (gn (1024 * p0 + w))), (5, .int (nI w)), (0, .ref (a 3)), (1, .int (nI tr)), (2, .int (nI kd)), (3, .int (nI p0)), (4, .int (nI q0))]) hx hb dX1_compare_91 hl (by decide) rfl (fun ls hl => ?_)
    refine lv_aload_n hx hb dX1_compare_93 rfl (lv_at hl 3 rfl) ?_
    refine va_get (D := (dC, dI)) (ci := 1) (v := .ref (a 5)) (C := RX1) (T := TX1) (N := 4) hx hb hts inX1_compare hown hK hP 3 rfl rfl 2 (by decide) (hts (.fieldLink RX1 13 "NumberCircuitsModel" "truths" "[Z") (by decide +kernel)) (fun _ h9 => h9) rfl dX1_compare_94 ?_
    refine lv_sipush (v := nI 1024) hx hb dX1_compare_97 (by decide +kernel) ?_
    refine lv_iload_n hx hb dX1_compare_100 rfl (lv_at hl 4 rfl) ?_
    refine lv_imul hx hb dX1_compare_101 ?_
    refine lv_iload hx hb dX1_compare_102 (lv_at hl 2 rfl) ?_
    refine lv_iadd hx hb dX1_compare_104 ?_
    refine lv_topi (fun x_105_9 ex_105_9 => ?_)
    obtain rfl : x_105_9 = nI (1024 * tr + w) := by rw [ex_105_9]; rw [pk_mul, nI_add]
    rcases (show kd = 0 ∨ kd = 1 ∨ kd = 2 ∨ kd = 3 by omega) with rfl | rfl | rfl | rfl
    · refine lv_iload_n hx hb dX1_compare_105 rfl (lv_at hl 5 rfl) ?_
      refine lv_if_ne (tgt := 124) hx hb dX1_compare_106 (by decide) (fun c => absurd c (by decide +kernel)) (fun _ => ?_)
      refine lv_iload hx hb dX1_compare_109 (lv_at hl 1 rfl) ?_
      refine lv_iload hx hb dX1_compare_111 (lv_at hl 0 rfl) ?_
      refine lv_icmp_ne (tgt := 120) hx hb dX1_compare_113 (by decide) (fun c_113_10 => ?_) (fun c_113_10 => ?_)
      · refine lv_iconst (v := nI 0) hx hb dX1_compare_120 (by decide +kernel) ?_
        refine lv_goto (tgt := 176) hx hb dX1_compare_121 (by decide) ?_
        refine va_zast (i := nI (1024 * tr + w)) (x := nI 0) hx hb hK hP (nDA hinj) hS 5 3 rfl rfl (vp_in_nI (by omega) (by decide)) dX1_compare_176 (fun H locs hP _ hS => ?_)
        have e_176_11 : upd (nF gt (1024 * tr) w (mvB (nyC gn 0 p0 q0))) (nI (1024 * tr + w)).toNatClampNeg (vp_nar .boolean (nI 0)) = nF gt (1024 * tr) (w + 1) (mvB (nyC gn 0 p0 q0)) := nF_up (by omega) (by rw [nc0f c_113_10]; exact nb_z _)
        have hP : va_P (dC, dI) vwCl (nW a k fn ft gn (nF gt (1024 * tr) (w + 1) (mvB (nyC gn 0 p0 q0))) gm (nI 0) o) H := by rw [← e_176_11]; exact hP
        refine lv_iinc (v := nI (w + 1)) (lv' := [(5, .int (nI (w + 1))), (7, .int (gn (1024 * q0 + w))), (6, .int (gn (1024 * p0 + w))), (0, .ref (a 3)), (1, .int (nI tr)), (2, .int (nI 0)), (3, .int (nI p0)), (4, .int (nI q0))]) hx hb dX1_compare_177 hl (k := 2) rfl (nI_1 w) (by decide) rfl (fun ls hl => ?_)
        refine lv_goto (tgt := 54) hx hb dX1_compare_180 (by decide) ?_
        exact ih hlt _ _ _ ⟨hP, hS, (lv_sub hl [0, 3, 4, 5, 6, 7] rfl)⟩
      · refine lv_iconst (v := nI 1) hx hb dX1_compare_116 (by decide +kernel) ?_
        refine lv_goto (tgt := 176) hx hb dX1_compare_117 (by decide) ?_
        refine va_zast (i := nI (1024 * tr + w)) (x := nI 1) hx hb hK hP (nDA hinj) hS 5 3 rfl rfl (vp_in_nI (by omega) (by decide)) dX1_compare_176 (fun H locs hP _ hS => ?_)
        have e_176_11 : upd (nF gt (1024 * tr) w (mvB (nyC gn 0 p0 q0))) (nI (1024 * tr + w)).toNatClampNeg (vp_nar .boolean (nI 1)) = nF gt (1024 * tr) (w + 1) (mvB (nyC gn 0 p0 q0)) := nF_up (by omega) (by rw [nc0t c_113_10]; exact nb_z _)
        have hP : va_P (dC, dI) vwCl (nW a k fn ft gn (nF gt (1024 * tr) (w + 1) (mvB (nyC gn 0 p0 q0))) gm (nI 0) o) H := by rw [← e_176_11]; exact hP
        refine lv_iinc (v := nI (w + 1)) (lv' := [(5, .int (nI (w + 1))), (7, .int (gn (1024 * q0 + w))), (6, .int (gn (1024 * p0 + w))), (0, .ref (a 3)), (1, .int (nI tr)), (2, .int (nI 0)), (3, .int (nI p0)), (4, .int (nI q0))]) hx hb dX1_compare_177 hl (k := 2) rfl (nI_1 w) (by decide) rfl (fun ls hl => ?_)
        refine lv_goto (tgt := 54) hx hb dX1_compare_180 (by decide) ?_
        exact ih hlt _ _ _ ⟨hP, hS, (lv_sub hl [0, 3, 4, 5, 6, 7] rfl)⟩
    · refine lv_iload_n hx hb dX1_compare_105 rfl (lv_at hl 5 rfl) ?_
      refine lv_if_ne (tgt := 124) hx hb dX1_compare_106 (by decide) (fun _ => ?_) (fun c => absurd c (by decide +kernel))
      refine lv_iload_n hx hb dX1_compare_124 rfl (lv_at hl 5 rfl) ?_
      refine lv_iconst (v := nI 1) hx hb dX1_compare_125 (by decide +kernel) ?_
      refine lv_icmp_ne (tgt := 144) hx hb dX1_compare_126 (by decide) (fun c => absurd c (by decide +kernel)) (fun _ => ?_)
      refine lv_iload hx hb dX1_compare_129 (lv_at hl 1 rfl) ?_
      refine lv_iload hx hb dX1_compare_131 (lv_at hl 0 rfl) ?_
      refine lv_icmp_eq (tgt := 140) hx hb dX1_compare_133 (by decide) (fun c_133_10 => ?_) (fun c_133_10 => ?_)
      · refine lv_iconst (v := nI 0) hx hb dX1_compare_140 (by decide +kernel) ?_
        refine lv_goto (tgt := 176) hx hb dX1_compare_141 (by decide) ?_
        refine va_zast (i := nI (1024 * tr + w)) (x := nI 0) hx hb hK hP (nDA hinj) hS 5 3 rfl rfl (vp_in_nI (by omega) (by decide)) dX1_compare_176 (fun H locs hP _ hS => ?_)
        have e_176_11 : upd (nF gt (1024 * tr) w (mvB (nyC gn 1 p0 q0))) (nI (1024 * tr + w)).toNatClampNeg (vp_nar .boolean (nI 0)) = nF gt (1024 * tr) (w + 1) (mvB (nyC gn 1 p0 q0)) := nF_up (by omega) (by rw [nc1f c_133_10]; exact nb_z _)
        have hP : va_P (dC, dI) vwCl (nW a k fn ft gn (nF gt (1024 * tr) (w + 1) (mvB (nyC gn 1 p0 q0))) gm (nI 0) o) H := by rw [← e_176_11]; exact hP
        refine lv_iinc (v := nI (w + 1)) (lv' := [(5, .int (nI (w + 1))), (7, .int (gn (1024 * q0 + w))), (6, .int (gn (1024 * p0 + w))), (0, .ref (a 3)), (1, .int (nI tr)), (2, .int (nI 1)), (3, .int (nI p0)), (4, .int (nI q0))]) hx hb dX1_compare_177 hl (k := 2) rfl (nI_1 w) (by decide) rfl (fun ls hl => ?_)
        refine lv_goto (tgt := 54) hx hb dX1_compare_180 (by decide) ?_
        exact ih hlt _ _ _ ⟨hP, hS, (lv_sub hl [0, 3, 4, 5, 6, 7] rfl)⟩
      · refine lv_iconst (v := nI 1) hx hb dX1_compare_136 (by decide +kernel) ?_
        refine lv_goto (tgt := 176) hx hb dX1_compare_137 (by decide) ?_
        refine va_zast (i := nI (1024 * tr + w)) (x := nI 1) hx hb hK hP (nDA hinj) hS 5 3 rfl rfl (vp_in_nI (by omega) (by decide)) dX1_compare_176 (fun H locs hP _ hS => ?_)
        have e_176_11 : upd (nF gt (1024 * tr) w (mvB (nyC gn 1 p0 q0))) (nI (1024 * tr + w)).toNatClampNeg (vp_nar .boolean (nI 1)) = nF gt (1024 * tr) (w + 1) (mvB (nyC gn 1 p0 q0)) := nF_up (by omega) (by rw [nc1t c_133_10]; exact nb_z _)
        have hP : va_P (dC, dI) vwCl (nW a k fn ft gn (nF gt (1024 * tr) (w + 1) (mvB (nyC gn 1 p0 q0))) gm (nI 0) o) H := by rw [← e_176_11]; exact hP
        refine lv_iinc (v := nI (w + 1)) (lv' := [(5, .int (nI (w + 1))), (7, .int (gn (1024 * q0 + w))), (6, .int (gn (1024 * p0 + w))), (0, .ref (a 3)), (1, .int (nI tr)), (2, .int (nI 1)), (3, .int (nI p0)), (4, .int (nI q0))]) hx hb dX1_compare_177 hl (k := 2) rfl (nI_1 w) (by decide) rfl (fun ls hl => ?_)
        refine lv_goto (tgt := 54) hx hb dX1_compare_180 (by decide) ?_
        exact ih hlt _ _ _ ⟨hP, hS, (lv_sub hl [0, 3, 4, 5, 6, 7] rfl)⟩
    · refine lv_iload_n hx hb dX1_compare_105 rfl (lv_at hl 5 rfl) ?_
      refine lv_if_ne (tgt := 124) hx hb dX1_compare_106 (by decide) (fun _ => ?_) (fun c => absurd c (by decide +kernel))
      refine lv_iload_n hx hb dX1_compare_124 rfl (lv_at hl 5 rfl) ?_
      refine lv_iconst (v := nI 1) hx hb dX1_compare_125 (by decide +kernel) ?_
      refine lv_icmp_ne (tgt := 144) hx hb dX1_compare_126 (by decide) (fun _ => ?_) (fun c => absurd c (by decide +kernel))
      refine lv_iload_n hx hb dX1_compare_144 rfl (lv_at hl 5 rfl) ?_
      refine lv_iconst (v := nI 2) hx hb dX1_compare_145 (by decide +kernel) ?_
      refine lv_icmp_ne (tgt := 164) hx hb dX1_compare_146 (by decide) (fun c => absurd c (by decide +kernel)) (fun _ => ?_)
      refine lv_iload hx hb dX1_compare_149 (lv_at hl 1 rfl) ?_
      refine lv_iload hx hb dX1_compare_151 (lv_at hl 0 rfl) ?_
      refine lv_icmp_ge (tgt := 160) hx hb dX1_compare_153 (by decide) (fun c_153_10 => ?_) (fun c_153_10 => ?_)
      · refine lv_iconst (v := nI 0) hx hb dX1_compare_160 (by decide +kernel) ?_
        refine lv_goto (tgt := 176) hx hb dX1_compare_161 (by decide) ?_
        refine va_zast (i := nI (1024 * tr + w)) (x := nI 0) hx hb hK hP (nDA hinj) hS 5 3 rfl rfl (vp_in_nI (by omega) (by decide)) dX1_compare_176 (fun H locs hP _ hS => ?_)
        have e_176_11 : upd (nF gt (1024 * tr) w (mvB (nyC gn 2 p0 q0))) (nI (1024 * tr + w)).toNatClampNeg (vp_nar .boolean (nI 0)) = nF gt (1024 * tr) (w + 1) (mvB (nyC gn 2 p0 q0)) := nF_up (by omega) (by rw [nc2f c_153_10]; exact nb_z _)
        have hP : va_P (dC, dI) vwCl (nW a k fn ft gn (nF gt (1024 * tr) (w + 1) (mvB (nyC gn 2 p0 q0))) gm (nI 0) o) H := by rw [← e_176_11]; exact hP
        refine lv_iinc (v := nI (w + 1)) (lv' := [(5, .int (nI (w + 1))), (7, .int (gn (1024 * q0 + w))), (6, .int (gn (1024 * p0 + w))), (0, .ref (a 3)), (1, .int (nI tr)), (2, .int (nI 2)), (3, .int (nI p0)), (4, .int (nI q0))]) hx hb dX1_compare_177 hl (k := 2) rfl (nI_1 w) (by decide) rfl (fun ls hl => ?_)
        refine lv_goto (tgt := 54) hx hb dX1_compare_180 (by decide) ?_
        exact ih hlt _ _ _ ⟨hP, hS, (lv_sub hl [0, 3, 4, 5, 6, 7] rfl)⟩
      · refine lv_iconst (v := nI 1) hx hb dX1_compare_156 (by decide +kernel) ?_
        refine lv_goto (tgt := 176) hx hb dX1_compare_157 (by decide) ?_
        refine va_zast (i := nI (1024 * tr + w)) (x := nI 1) hx hb hK hP (nDA hinj) hS 5 3 rfl rfl (vp_in_nI (by omega) (by decide)) dX1_compare_176 (fun H locs hP _ hS => ?_)
        have e_176_11 : upd (nF gt (1024 * tr) w (mvB (nyC gn 2 p0 q0))) (nI (1024 * tr + w)).toNatClampNeg (vp_nar .boolean (nI 1)) = nF gt (1024 * tr) (w + 1) (mvB (nyC gn 2 p0 q0)) := nF_up (by omega) (by rw [nc2t c_153_10]; exact nb_z _)
        have hP : va_P (dC, dI) vwCl (nW a k fn ft gn (nF gt (1024 * tr) (w + 1) (mvB (nyC gn 2 p0 q0))) gm (nI 0) o) H := by rw [← e_176_11]; exact hP
        refine lv_iinc (v := nI (w + 1)) (lv' := [(5, .int (nI (w + 1))), (7, .int (gn (1024 * q0 + w))), (6, .int (gn (1024 * p0 + w))), (0, .ref (a 3)), (1, .int (nI tr)), (2, .int (nI 2)), (3, .int (nI p0)), (4, .int (nI q0))]) hx hb dX1_compare_177 hl (k := 2) rfl (nI_1 w) (by decide) rfl (fun ls hl => ?_)
        refine lv_goto (tgt := 54) hx hb dX1_compare_180 (by decide) ?_
        exact ih hlt _ _ _ ⟨hP, hS, (lv_sub hl [0, 3, 4, 5, 6, 7] rfl)⟩
    · refine lv_iload_n hx hb dX1_compare_105 rfl (lv_at hl 5 rfl) ?_
      refine lv_if_ne (tgt := 124) hx hb dX1_compare_106 (by decide) (fun _ => ?_) (fun c => absurd c (by decide +kernel))
      refine lv_iload_n hx hb dX1_compare_124 rfl (lv_at hl 5 rfl) ?_
      refine lv_iconst (v := nI 1) hx hb dX1_compare_125 (by decide +kernel) ?_
      refine lv_icmp_ne (tgt := 144) hx hb dX1_compare_126 (by decide) (fun _ => ?_) (fun c => absurd c (by decide +kernel))
      refine lv_iload_n hx hb dX1_compare_144 rfl (lv_at hl 5 rfl) ?_
      refine lv_iconst (v := nI 2) hx hb dX1_compare_145 (by decide +kernel) ?_
      refine lv_icmp_ne (tgt := 164) hx hb dX1_compare_146 (by decide) (fun _ => ?_) (fun c => absurd c (by decide +kernel))
      refine lv_iload hx hb dX1_compare_164 (lv_at hl 1 rfl) ?_
      refine lv_iload hx hb dX1_compare_166 (lv_at hl 0 rfl) ?_
      refine lv_icmp_gt (tgt := 175) hx hb dX1_compare_168 (by decide) (fun c_168_10 => ?_) (fun c_168_10 => ?_)
      · refine lv_iconst (v := nI 0) hx hb dX1_compare_175 (by decide +kernel) ?_
        refine va_zast (i := nI (1024 * tr + w)) (x := nI 0) hx hb hK hP (nDA hinj) hS 5 3 rfl rfl (vp_in_nI (by omega) (by decide)) dX1_compare_176 (fun H locs hP _ hS => ?_)
        have e_176_11 : upd (nF gt (1024 * tr) w (mvB (nyC gn 3 p0 q0))) (nI (1024 * tr + w)).toNatClampNeg (vp_nar .boolean (nI 0)) = nF gt (1024 * tr) (w + 1) (mvB (nyC gn 3 p0 q0)) := nF_up (by omega) (by rw [nc3f c_168_10]; exact nb_z _)
        have hP : va_P (dC, dI) vwCl (nW a k fn ft gn (nF gt (1024 * tr) (w + 1) (mvB (nyC gn 3 p0 q0))) gm (nI 0) o) H := by rw [← e_176_11]; exact hP
        refine lv_iinc (v := nI (w + 1)) (lv' := [(5, .int (nI (w + 1))), (7, .int (gn (1024 * q0 + w))), (6, .int (gn (1024 * p0 + w))), (0, .ref (a 3)), (1, .int (nI tr)), (2, .int (nI 3)), (3, .int (nI p0)), (4, .int (nI q0))]) hx hb dX1_compare_177 hl (k := 2) rfl (nI_1 w) (by decide) rfl (fun ls hl => ?_)
        refine lv_goto (tgt := 54) hx hb dX1_compare_180 (by decide) ?_
        exact ih hlt _ _ _ ⟨hP, hS, (lv_sub hl [0, 3, 4, 5, 6, 7] rfl)⟩
      · refine lv_iconst (v := nI 1) hx hb dX1_compare_171 (by decide +kernel) ?_
        refine lv_goto (tgt := 176) hx hb dX1_compare_172 (by decide) ?_
        refine va_zast (i := nI (1024 * tr + w)) (x := nI 1) hx hb hK hP (nDA hinj) hS 5 3 rfl rfl (vp_in_nI (by omega) (by decide)) dX1_compare_176 (fun H locs hP _ hS => ?_)
        have e_176_11 : upd (nF gt (1024 * tr) w (mvB (nyC gn 3 p0 q0))) (nI (1024 * tr + w)).toNatClampNeg (vp_nar .boolean (nI 1)) = nF gt (1024 * tr) (w + 1) (mvB (nyC gn 3 p0 q0)) := nF_up (by omega) (by rw [nc3t c_168_10]; exact nb_z _)
        have hP : va_P (dC, dI) vwCl (nW a k fn ft gn (nF gt (1024 * tr) (w + 1) (mvB (nyC gn 3 p0 q0))) gm (nI 0) o) H := by rw [← e_176_11]; exact hP
        refine lv_iinc (v := nI (w + 1)) (lv' := [(5, .int (nI (w + 1))), (7, .int (gn (1024 * q0 + w))), (6, .int (gn (1024 * p0 + w))), (0, .ref (a 3)), (1, .int (nI tr)), (2, .int (nI 3)), (3, .int (nI p0)), (4, .int (nI q0))]) hx hb dX1_compare_177 hl (k := 2) rfl (nI_1 w) (by decide) rfl (fun ls hl => ?_)
        refine lv_goto (tgt := 54) hx hb dX1_compare_180 (by decide) ?_
        exact ih hlt _ _ _ ⟨hP, hS, (lv_sub hl [0, 3, 4, 5, 6, 7] rfl)⟩
theorem nb1f {b : Bool} (h : ¬ nb b = nI 1) : vp_nar .boolean (nI 0) = nb b := by
  cases b with
  | false => decide +kernel
  | true => exact absurd rfl h
theorem nb1t {b : Bool} (h : nb b = nI 1) : vp_nar .boolean (nI 1) = nb b := by
  cases b with
  | false => exact absurd h (by decide +kernel)
  | true => decide +kernel
set_option maxHeartbeats 4000000 in
set_option maxRecDepth 100000 in
theorem m_join (l : Launch) (dC : Nat → ClassId) (dI : Nat → Nat → Nat) (a : Nat → Nat) (k : Nat → ClassId) (fn ft gn gt gm : Nat → Int32) (fl : Int32) (o : Nat → Int64) (hinj : nInj a) (tb : Nat → Nat → Bool) (htb : ∀ t w : Nat, t < 8 → w < 1024 → gt (1024 * t + w) = nb (tb t w)) (tr kd p0 q0 : Nat) (htr : tr < 8) (hkd : kd < 4) (hp0 : p0 < 8) (hq0 : q0 < 8) : Met l yX1_join wsX1_join ({ frames := 1, cells := 0, slots := 0, locals := 40 }) (va_Pc [.ref (a 3), .int (nI tr), .int (nI kd), .int (nI p0), .int (nI q0)] (nPw dC dI a k fn ft gn gt gm fl o)) (nQi (nI (nN (myJ tb kd p0 q0) 1024)) (nPw dC dI a k fn ft gn (nF gt (1024 * tr) 1024 (mvB (myJ tb kd p0 q0))) (nF gm 0 1024 (mvB (myJ tb kd p0 q0))) (nI 0) o) a) 0 0 (nA0 a) := by
  refine Met.ofW (cc := cX1_join) (maxL := 8) (ret := (some .int)) (by decide) rfl ?_
  intro p e s m args below meth c s₁ B hml hv
  obtain ⟨rfl, hP, hK⟩ := hv
  have hx := B.exec
  have hb := B.bytes
  have hr := B.returns
  have hts := atoms_spec (ws := wsX1_join) B.pre
  have hown : s.vm.findClass RX1 = some m.cls := findClass_of_methodNamed B.named
  have hlocks := B.notSynchronized
  have hS : va_S (nA0 a) s.heap s.heap [] := va_S.rf
  have hl := lv_entry ([.ref (a 3), .int (nI tr), .int (nI kd), .int (nI p0), .int (nI q0)]) (n := 8) (Nat.le_of_ble_eq_true rfl)
  rw [lg_entry_eq]
  generalize (lg_sl ([.ref (a 3), .int (nI tr), .int (nI kd), .int (nI p0), .int (nI q0)]) ++ List.replicate (8 - (lg_sl ([.ref (a 3), .int (nI tr), .int (nI kd), .int (nI p0), .int (nI q0)])).length) Slot.unset).toArray = ls at hl ⊢
  have hl : lv_has ls 8 [(0, .ref (a 3)), (1, .int (nI tr)), (2, .int (nI kd)), (3, .int (nI p0)), (4, .int (nI q0))] := hl
  refine lv_aload_n hx hb dX1_join_0 rfl (lv_at hl 0 rfl) ?_
  refine lv_iconst (v := nI 0) hx hb dX1_join_1 (by decide +kernel) ?_
  refine va_put (D := (dC, dI)) (ci := 1) (v := .int (nI 0)) (ty := .int) (C := RX1) (T := TX1) (N := 4) hx hb hts inX1_join tyX1 tyX1_ok nmX1 hown hK hP (nDA hinj) hS 3 rfl rfl 0 (by decide) (hts (.fieldLink RX1 20 "NumberCircuitsModel" "failed" "I") (by decide +kernel)) (fun _ h9 => h9) rfl (by decide +kernel) rfl rfl (Nat.le_of_ble_eq_true rfl) dX1_join_2 (fun H locs hP _ hS => ?_)
  have hP : va_P (dC, dI) vwCl (nW a k fn ft gn gt gm (nI 0) o) H := hP
  refine lv_aload_n hx hb dX1_join_5 rfl (lv_at hl 0 rfl) ?_
  refine lv_iload_n hx hb dX1_join_6 rfl (lv_at hl 1 rfl) ?_
  refine lv_bipush (v := nI 8) hx hb dX1_join_7 (by decide +kernel) ?_
  refine vp_callSi (W.runV (As := [.int (nI tr), .int (nI 8)]) (rest := []) ⟨hx, hb, hml, hown, hts⟩ (m_out l dC dI a k fn ft gn gt gm (nI 0) o (nI tr) 8) (cwV 2 hts gX1_join_X1_out rfl rfl rfl (by decide +kernel) ⟨Nat.le_of_ble_eq_true rfl, Nat.le_of_ble_eq_true rfl⟩) (nPreV hP hK (va_recv hK hP (ci := 1) (q0 := 3) rfl rfl)) rfl rfl hl.1 rfl (lv_room (Nat.le_of_ble_eq_true rfl)) dX1_join_9 ⟨Nat.zero_le _, Nat.zero_le _⟩) (fun r_9_1 er_9_1 => ?_)
  rw [nO_in (by omega) (by decide)] at er_9_1
  subst er_9_1
  refine lv_if_ne (tgt := 45) hx hb dX1_join_12 (by decide) (fun c => absurd c (by decide +kernel)) (fun _ => ?_)
  refine lv_aload_n hx hb dX1_join_15 rfl (lv_at hl 0 rfl) ?_
  refine lv_iload_n hx hb dX1_join_16 rfl (lv_at hl 2 rfl) ?_
  refine lv_iconst (v := nI 4) hx hb dX1_join_17 (by decide +kernel) ?_
  refine vp_callSi (W.runV (As := [.int (nI kd), .int (nI 4)]) (rest := []) ⟨hx, hb, hml, hown, hts⟩ (m_out l dC dI a k fn ft gn gt gm (nI 0) o (nI kd) 4) (cwV 2 hts gX1_join_X1_out rfl rfl rfl (by decide +kernel) ⟨Nat.le_of_ble_eq_true rfl, Nat.le_of_ble_eq_true rfl⟩) (nPreV hP hK (va_recv hK hP (ci := 1) (q0 := 3) rfl rfl)) rfl rfl hl.1 rfl (lv_room (Nat.le_of_ble_eq_true rfl)) dX1_join_18 ⟨Nat.zero_le _, Nat.zero_le _⟩) (fun r_18_2 er_18_2 => ?_)
  rw [nO_in (by omega) (by decide)] at er_18_2
  subst er_18_2
  refine lv_if_ne (tgt := 45) hx hb dX1_join_21 (by decide) (fun c => absurd c (by decide +kernel)) (fun _ => ?_)
  refine lv_aload_n hx hb dX1_join_24 rfl (lv_at hl 0 rfl) ?_
  refine lv_iload_n hx hb dX1_join_25 rfl (lv_at hl 3 rfl) ?_
  refine lv_bipush (v := nI 8) hx hb dX1_join_26 (by decide +kernel) ?_
  refine vp_callSi (W.runV (As := [.int (nI p0), .int (nI 8)]) (rest := []) ⟨hx, hb, hml, hown, hts⟩ (m_out l dC dI a k fn ft gn gt gm (nI 0) o (nI p0) 8) (cwV 2 hts gX1_join_X1_out rfl rfl rfl (by decide +kernel) ⟨Nat.le_of_ble_eq_true rfl, Nat.le_of_ble_eq_true rfl⟩) (nPreV hP hK (va_recv hK hP (ci := 1) (q0 := 3) rfl rfl)) rfl rfl hl.1 rfl (lv_room (Nat.le_of_ble_eq_true rfl)) dX1_join_28 ⟨Nat.zero_le _, Nat.zero_le _⟩) (fun r_28_3 er_28_3 => ?_)
  rw [nO_in (by omega) (by decide)] at er_28_3
  subst er_28_3
  refine lv_if_ne (tgt := 45) hx hb dX1_join_31 (by decide) (fun c => absurd c (by decide +kernel)) (fun _ => ?_)
  refine lv_aload_n hx hb dX1_join_34 rfl (lv_at hl 0 rfl) ?_
  refine lv_iload hx hb dX1_join_35 (lv_at hl 4 rfl) ?_
  refine lv_bipush (v := nI 8) hx hb dX1_join_37 (by decide +kernel) ?_
  refine vp_callSi (W.runV (As := [.int (nI q0), .int (nI 8)]) (rest := []) ⟨hx, hb, hml, hown, hts⟩ (m_out l dC dI a k fn ft gn gt gm (nI 0) o (nI q0) 8) (cwV 2 hts gX1_join_X1_out rfl rfl rfl (by decide +kernel) ⟨Nat.le_of_ble_eq_true rfl, Nat.le_of_ble_eq_true rfl⟩) (nPreV hP hK (va_recv hK hP (ci := 1) (q0 := 3) rfl rfl)) rfl rfl hl.1 rfl (lv_room (Nat.le_of_ble_eq_true rfl)) dX1_join_39 ⟨Nat.zero_le _, Nat.zero_le _⟩) (fun r_39_4 er_39_4 => ?_)
  rw [nO_in (by omega) (by decide)] at er_39_4
  subst er_39_4
  refine lv_if_eq (tgt := 51) hx hb dX1_join_42 (by decide) (fun _ => ?_) (fun c => absurd c (by decide +kernel))
  refine lv_iconst (v := nI 0) hx hb dX1_join_51 (by decide +kernel) ?_
  refine lv_istore (lv' := [(5, .int (nI 0)), (0, .ref (a 3)), (1, .int (nI tr)), (2, .int (nI kd)), (3, .int (nI p0)), (4, .int (nI q0))]) hx hb dX1_join_52 hl (by decide) rfl (fun ls hl => ?_)
  refine nc_loop 1024 (fun w H locs ls => va_P (dC, dI) vwCl (nW a k fn ft gn gt (nF gm 0 w (mvB (myJ tb kd p0 q0))) (nI 0) o) H ∧ va_S (nA0 a) s.heap H locs ∧ lv_has ls 8 [(5, .int (nI w)), (0, .ref (a 3)), (1, .int (nI tr)), (2, .int (nI kd)), (3, .int (nI p0)), (4, .int (nI q0))]) ⟨(by rw [nF_0]; exact hP), hS, (lv_sub hl [0, 1, 2, 3, 4, 5] rfl)⟩ ?_
  intro w H locs ls hw hI ih
  obtain ⟨hP, hS, hl⟩ := hI
  refine lv_iload hx hb dX1_join_54 (lv_at hl 0 rfl) ?_
  refine lv_sipush (v := nI 1024) hx hb dX1_join_56 (by decide +kernel) ?_
  refine lv_icmp_ge (tgt := 166) hx hb dX1_join_59 (by decide) (fun c1 => ?_) (fun c1 => ?_)
  · obtain rfl : w = 1024 := nHi (by decide) hw c1
    refine lv_iconst (v := nI 0) hx hb dX1_join_166 (by decide +kernel) ?_
    refine lv_istore (lv' := [(5, .int (nI 0)), (0, .ref (a 3)), (1, .int (nI tr)), (2, .int (nI kd)), (3, .int (nI p0)), (4, .int (nI q0))]) hx hb dX1_join_167 hl (by decide) rfl (fun ls hl => ?_)
    refine nc_loop 1024 (fun w H locs ls => va_P (dC, dI) vwCl (nW a k fn ft gn (nF gt (1024 * tr) w (mvB (myJ tb kd p0 q0))) (nF gm 0 1024 (mvB (myJ tb kd p0 q0))) (nI 0) o) H ∧ va_S (nA0 a) s.heap H locs ∧ lv_has ls 8 [(5, .int (nI w)), (0, .ref (a 3)), (1, .int (nI tr)), (2, .int (nI kd)), (3, .int (nI p0)), (4, .int (nI q0))]) ⟨(by rw [nF_0]; exact hP), hS, (lv_sub hl [0, 1, 2, 3, 4, 5] rfl)⟩ ?_
    intro w H locs ls hw hI ih
    obtain ⟨hP, hS, hl⟩ := hI
    refine lv_iload hx hb dX1_join_169 (lv_at hl 0 rfl) ?_
    refine lv_sipush (v := nI 1024) hx hb dX1_join_171 (by decide +kernel) ?_
    refine lv_icmp_ge (tgt := 212) hx hb dX1_join_174 (by decide) (fun c1 => ?_) (fun c1 => ?_)
    · obtain rfl : w = 1024 := nHi (by decide) hw c1
      refine lv_aload_n hx hb dX1_join_212 rfl (lv_at hl 1 rfl) ?_
      refine lv_iload_n hx hb dX1_join_213 rfl (lv_at hl 2 rfl) ?_
      refine vp_callSi (W.runV (As := [.int (nI tr)]) (rest := []) ⟨hx, hb, hml, hown, hts⟩ (m_yes l dC dI a k fn ft gn (nF gt (1024 * tr) 1024 (mvB (myJ tb kd p0 q0))) (nF gm 0 1024 (mvB (myJ tb kd p0 q0))) (nI 0) o tr (myJ tb kd p0 q0) htr (fun w hw => nF_in hw)) (cwV 1 hts gX1_join_X1_yes rfl rfl rfl (by decide +kernel) ⟨Nat.le_of_ble_eq_true rfl, Nat.le_of_ble_eq_true rfl⟩) (nPreV hP hK (va_recv hK hP (ci := 1) (q0 := 3) rfl rfl)) rfl rfl hl.1 rfl (lv_room (Nat.le_of_ble_eq_true rfl)) dX1_join_214 ⟨Nat.zero_le _, Nat.zero_le _⟩) (fun r_214_5 er_214_5 => ?_)
      subst er_214_5
      exact W.iret hx hb hr (fun t ht hW => ⟨⟨_, (), rfl, rfl, by rw [ht]; exact hP, va_K.moved hW.alike hK⟩, hS.F ht⟩) hS.2.2 dX1_join_217
    · have hlt : w < 1024 := nLo (by decide) hw c1
      refine lv_aload_n hx hb dX1_join_177 rfl (lv_at hl 1 rfl) ?_
      refine va_get (D := (dC, dI)) (ci := 1) (v := .ref (a 5)) (C := RX1) (T := TX1) (N := 4) hx hb hts inX1_join hown hK hP 3 rfl rfl 2 (by decide) (hts (.fieldLink RX1 13 "NumberCircuitsModel" "truths" "[Z") (by decide +kernel)) (fun _ h9 => h9) rfl dX1_join_178 ?_
      refine lv_sipush (v := nI 1024) hx hb dX1_join_181 (by decide +kernel) ?_
      refine lv_iload_n hx hb dX1_join_184 rfl (lv_at hl 2 rfl) ?_
      refine lv_imul hx hb dX1_join_185 ?_
      refine lv_iload hx hb dX1_join_186 (lv_at hl 0 rfl) ?_
      refine lv_iadd hx hb dX1_join_188 ?_
      refine lv_topi (fun x_189_5 ex_189_5 => ?_)
      obtain rfl : x_189_5 = nI (1024 * tr + w) := by rw [ex_189_5]; rw [pk_mul, nI_add]
      refine lv_aload_n hx hb dX1_join_189 rfl (lv_at hl 1 rfl) ?_
      refine va_get (D := (dC, dI)) (ci := 1) (v := .ref (a 6)) (C := RX1) (T := TX1) (N := 4) hx hb hts inX1_join hown hK hP 3 rfl rfl 3 (by decide) (hts (.fieldLink RX1 17 "NumberCircuitsModel" "made" "[I") (by decide +kernel)) (fun _ h9 => h9) rfl dX1_join_190 ?_
      refine lv_iload hx hb dX1_join_193 (lv_at hl 0 rfl) ?_
      refine va_iald (i := nI w) hx hb hK hP 6 4 rfl rfl (vp_in_nI (by omega) (by decide)) dX1_join_195 ?_
      refine lv_topi (fun x_196_6 ex_196_6 => ?_)
      obtain rfl : x_196_6 = nb ((myJ tb kd p0 q0) w) := by rw [ex_196_6]; rw [nI_clamp (show w < 2 ^ 31 by omega)]; exact nF_in0 hlt
      refine lv_iconst (v := nI 1) hx hb dX1_join_196 (by decide +kernel) ?_
      refine lv_icmp_ne (tgt := 204) hx hb dX1_join_197 (by decide) (fun c2 => ?_) (fun c2 => ?_)
      · refine lv_iconst (v := nI 0) hx hb dX1_join_204 (by decide +kernel) ?_
        refine va_zast (i := nI (1024 * tr + w)) (x := nI 0) hx hb hK hP (nDA hinj) hS 5 3 rfl rfl (vp_in_nI (by omega) (by decide)) dX1_join_205 (fun H locs hP _ hS => ?_)
        have e_205_7 : upd (nF gt (1024 * tr) w (mvB (myJ tb kd p0 q0))) (nI (1024 * tr + w)).toNatClampNeg (vp_nar .boolean (nI 0)) = nF gt (1024 * tr) (w + 1) (mvB (myJ tb kd p0 q0)) := nF_up (by omega) (nb1f c2)
        have hP : va_P (dC, dI) vwCl (nW a k fn ft gn (nF gt (1024 * tr) (w + 1) (mvB (myJ tb kd p0 q0))) (nF gm 0 1024 (mvB (myJ tb kd p0 q0))) (nI 0) o) H := by rw [← e_205_7]; exact hP
        refine lv_iinc (v := nI (w + 1)) (lv' := [(5, .int (nI (w + 1))), (0, .ref (a 3)), (1, .int (nI tr)), (2, .int (nI kd)), (3, .int (nI p0)), (4, .int (nI q0))]) hx hb dX1_join_206 hl (k := 0) rfl (nI_1 w) (by decide) rfl (fun ls hl => ?_)
        refine lv_goto (tgt := 169) hx hb dX1_join_209 (by decide) ?_
        exact ih hlt _ _ _ ⟨hP, hS, (lv_sub hl [0, 1, 2, 3, 4, 5] rfl)⟩
      · refine lv_iconst (v := nI 1) hx hb dX1_join_200 (by decide +kernel) ?_
        refine lv_goto (tgt := 205) hx hb dX1_join_201 (by decide) ?_
        refine va_zast (i := nI (1024 * tr + w)) (x := nI 1) hx hb hK hP (nDA hinj) hS 5 3 rfl rfl (vp_in_nI (by omega) (by decide)) dX1_join_205 (fun H locs hP _ hS => ?_)
        have e_205_7 : upd (nF gt (1024 * tr) w (mvB (myJ tb kd p0 q0))) (nI (1024 * tr + w)).toNatClampNeg (vp_nar .boolean (nI 1)) = nF gt (1024 * tr) (w + 1) (mvB (myJ tb kd p0 q0)) := nF_up (by omega) (nb1t c2)
        have hP : va_P (dC, dI) vwCl (nW a k fn ft gn (nF gt (1024 * tr) (w + 1) (mvB (myJ tb kd p0 q0))) (nF gm 0 1024 (mvB (myJ tb kd p0 q0))) (nI 0) o) H := by rw [← e_205_7]; exact hP
        refine lv_iinc (v := nI (w + 1)) (lv' := [(5, .int (nI (w + 1))), (0, .ref (a 3)), (1, .int (nI tr)), (2, .int (nI kd)), (3, .int (nI p0)), (4, .int (nI q0))]) hx hb dX1_join_206 hl (k := 0) rfl (nI_1 w) (by decide) rfl (fun ls hl => ?_)
        refine lv_goto (tgt := 169) hx hb dX1_join_209 (by decide) ?_
        exact ih hlt _ _ _ ⟨hP, hS, (lv_sub hl [0, 1, 2, 3, 4, 5] rfl)⟩
  · have hlt : w < 1024 := nLo (by decide) hw c1
    refine lv_aload_n hx hb dX1_join_62 rfl (lv_at hl 1 rfl) ?_
    refine va_get (D := (dC, dI)) (ci := 1) (v := .ref (a 5)) (C := RX1) (T := TX1) (N := 4) hx hb hts inX1_join hown hK hP 3 rfl rfl 2 (by decide) (hts (.fieldLink RX1 13 "NumberCircuitsModel" "truths" "[Z") (by decide +kernel)) (fun _ h9 => h9) rfl dX1_join_63 ?_
    refine lv_sipush (v := nI 1024) hx hb dX1_join_66 (by decide +kernel) ?_
    refine lv_iload_n hx hb dX1_join_69 rfl (lv_at hl 4 rfl) ?_
    refine lv_imul hx hb dX1_join_70 ?_
    refine lv_iload hx hb dX1_join_71 (lv_at hl 0 rfl) ?_
    refine lv_iadd hx hb dX1_join_73 ?_
    refine lv_topi (fun x_74_5 ex_74_5 => ?_)
    obtain rfl : x_74_5 = nI (1024 * p0 + w) := by rw [ex_74_5]; rw [pk_mul, nI_add]
    refine va_zald (i := nI (1024 * p0 + w)) hx hb hK hP 5 3 rfl rfl (vp_in_nI (by omega) (by decide)) dX1_join_74 ?_
    refine lv_topi (fun x_75_6 ex_75_6 => ?_)
    obtain rfl : x_75_6 = nb (tb p0 w) := by rw [ex_75_6]; rw [nI_clamp (show 1024 * p0 + w < 2 ^ 31 by omega)]; exact htb p0 w hp0 hlt
    refine lv_istore (lv' := [(6, .int (nb (tb p0 w))), (5, .int (nI w)), (0, .ref (a 3)), (1, .int (nI tr)), (2, .int (nI kd)), (3, .int (nI p0)), (4, .int (nI q0))]) hx hb dX1_join_75 hl (by decide) rfl (fun ls hl => ?_)
    refine lv_aload_n hx hb dX1_join_77 rfl (lv_at hl 2 rfl) ?_
    refine va_get (D := (dC, dI)) (ci := 1) (v := .ref (a 5)) (C := RX1) (T := TX1) (N := 4) hx hb hts inX1_join hown hK hP 3 rfl rfl 2 (by decide) (hts (.fieldLink RX1 13 "NumberCircuitsModel" "truths" "[Z") (by decide +kernel)) (fun _ h9 => h9) rfl dX1_join_78 ?_
    refine lv_sipush (v := nI 1024) hx hb dX1_join_81 (by decide +kernel) ?_
    refine lv_iload hx hb dX1_join_84 (lv_at hl 6 rfl) ?_
    refine lv_imul hx hb dX1_join_86 ?_
    refine lv_iload hx hb dX1_join_87 (lv_at hl 1 rfl) ?_
    refine lv_iadd hx hb dX1_join_89 ?_
    refine lv_topi (fun x_90_7 ex_90_7 => ?_)
    obtain rfl : x_90_7 = nI (1024 * q0 + w) := by rw [ex_90_7]; rw [pk_mul, nI_add]
    refine va_zald (i := nI (1024 * q0 + w)) hx hb hK hP 5 3 rfl rfl (vp_in_nI (by omega) (by decide)) dX1_join_90 ?_
    refine lv_topi (fun x_91_8 ex_91_8 => ?_)
    obtain rfl : x_91_8 = nb (tb q0 w) := by rw [ex_91_8]; rw [nI_clamp (show 1024 * q0 + w < 2 ^ 31 by omega)]; exact htb q0 w hq0 hlt
    refine lv_istore (lv' := [(7, .int (nb (tb q0 w))), (6, .int (nb (tb p0 w))), (5, .int (nI w)), (0, .ref (a 3)), (1, .int (nI tr)), (2, .int (nI kd)), (3, .int (nI p0)), (4, .int (nI q0))]) hx hb dX1_join_91 hl (by decide) rfl (fun ls hl => ?_)
    refine lv_aload_n hx hb dX1_join_93 rfl (lv_at hl 3 rfl) ?_
    refine va_get (D := (dC, dI)) (ci := 1) (v := .ref (a 6)) (C := RX1) (T := TX1) (N := 4) hx hb hts inX1_join hown hK hP 3 rfl rfl 3 (by decide) (hts (.fieldLink RX1 17 "NumberCircuitsModel" "made" "[I") (by decide +kernel)) (fun _ h9 => h9) rfl dX1_join_94 ?_
    refine lv_iload hx hb dX1_join_97 (lv_at hl 2 rfl) ?_
    obtain ⟨X, hX⟩ : ∃ X, tb p0 w = X := ⟨_, rfl⟩
    obtain ⟨Y, hY⟩ : ∃ Y, tb q0 w = Y := ⟨_, rfl⟩
    rw [hX, hY] at hl
    rcases (show kd = 0 ∨ kd = 1 ∨ kd = 2 ∨ kd = 3 by omega) with rfl | rfl | rfl | rfl
    · refine lv_iload_n hx hb dX1_join_99 rfl (lv_at hl 5 rfl) ?_
      refine lv_if_ne (tgt := 116) hx hb dX1_join_100 (by decide) (fun c => absurd c (by decide +kernel)) (fun _ => ?_)
      refine lv_iload hx hb dX1_join_103 (lv_at hl 1 rfl) ?_
      refine lv_if_eq (tgt := 158) hx hb dX1_join_105 (by decide) (fun d0 => ?_) (fun d0 => ?_)
      · refine lv_iconst (v := nI 0) hx hb dX1_join_158 (by decide +kernel) ?_
        refine va_iast (i := nI w) (x := nI 0) hx hb hK hP (nDA hinj) hS 6 4 rfl rfl (vp_in_nI (by omega) (by decide)) dX1_join_159 (fun H locs hP _ hS => ?_)
        have e_159_9 : upd (nF gm 0 w (mvB (myJ tb 0 p0 q0))) (nI w).toNatClampNeg (nI 0) = nF gm 0 (w + 1) (mvB (myJ tb 0 p0 q0)) := nF_up0 (by omega) (by show _ = nb (nj 0 (tb p0 w) (tb q0 w)); rw [hX, hY]; revert d0; cases X <;> cases Y <;> decide +kernel)
        have hP : va_P (dC, dI) vwCl (nW a k fn ft gn gt (nF gm 0 (w + 1) (mvB (myJ tb 0 p0 q0))) (nI 0) o) H := by rw [← e_159_9]; exact hP
        refine lv_iinc (v := nI (w + 1)) (lv' := [(5, .int (nI (w + 1))), (7, .int (nb (Y))), (6, .int (nb (X))), (0, .ref (a 3)), (1, .int (nI tr)), (2, .int (nI 0)), (3, .int (nI p0)), (4, .int (nI q0))]) hx hb dX1_join_160 hl (k := 2) rfl (nI_1 w) (by decide) rfl (fun ls hl => ?_)
        refine lv_goto (tgt := 54) hx hb dX1_join_163 (by decide) ?_
        exact ih hlt _ _ _ ⟨hP, hS, (lv_sub hl [0, 3, 4, 5, 6, 7] rfl)⟩
      · refine lv_iload hx hb dX1_join_108 (lv_at hl 0 rfl) ?_
        refine lv_if_eq (tgt := 158) hx hb dX1_join_110 (by decide) (fun d1 => ?_) (fun d1 => ?_)
        · refine lv_iconst (v := nI 0) hx hb dX1_join_158 (by decide +kernel) ?_
          refine va_iast (i := nI w) (x := nI 0) hx hb hK hP (nDA hinj) hS 6 4 rfl rfl (vp_in_nI (by omega) (by decide)) dX1_join_159 (fun H locs hP _ hS => ?_)
          have e_159_9 : upd (nF gm 0 w (mvB (myJ tb 0 p0 q0))) (nI w).toNatClampNeg (nI 0) = nF gm 0 (w + 1) (mvB (myJ tb 0 p0 q0)) := nF_up0 (by omega) (by show _ = nb (nj 0 (tb p0 w) (tb q0 w)); rw [hX, hY]; revert d0; revert d1; cases X <;> cases Y <;> decide +kernel)
          have hP : va_P (dC, dI) vwCl (nW a k fn ft gn gt (nF gm 0 (w + 1) (mvB (myJ tb 0 p0 q0))) (nI 0) o) H := by rw [← e_159_9]; exact hP
          refine lv_iinc (v := nI (w + 1)) (lv' := [(5, .int (nI (w + 1))), (7, .int (nb (Y))), (6, .int (nb (X))), (0, .ref (a 3)), (1, .int (nI tr)), (2, .int (nI 0)), (3, .int (nI p0)), (4, .int (nI q0))]) hx hb dX1_join_160 hl (k := 2) rfl (nI_1 w) (by decide) rfl (fun ls hl => ?_)
          refine lv_goto (tgt := 54) hx hb dX1_join_163 (by decide) ?_
          exact ih hlt _ _ _ ⟨hP, hS, (lv_sub hl [0, 3, 4, 5, 6, 7] rfl)⟩
        · refine lv_goto (tgt := 154) hx hb dX1_join_113 (by decide) ?_
          refine lv_iconst (v := nI 1) hx hb dX1_join_154 (by decide +kernel) ?_
          refine lv_goto (tgt := 159) hx hb dX1_join_155 (by decide) ?_
          refine va_iast (i := nI w) (x := nI 1) hx hb hK hP (nDA hinj) hS 6 4 rfl rfl (vp_in_nI (by omega) (by decide)) dX1_join_159 (fun H locs hP _ hS => ?_)
          have e_159_9 : upd (nF gm 0 w (mvB (myJ tb 0 p0 q0))) (nI w).toNatClampNeg (nI 1) = nF gm 0 (w + 1) (mvB (myJ tb 0 p0 q0)) := nF_up0 (by omega) (by show _ = nb (nj 0 (tb p0 w) (tb q0 w)); rw [hX, hY]; revert d0; revert d1; cases X <;> cases Y <;> decide +kernel)
          have hP : va_P (dC, dI) vwCl (nW a k fn ft gn gt (nF gm 0 (w + 1) (mvB (myJ tb 0 p0 q0))) (nI 0) o) H := by rw [← e_159_9]; exact hP
          refine lv_iinc (v := nI (w + 1)) (lv' := [(5, .int (nI (w + 1))), (7, .int (nb (Y))), (6, .int (nb (X))), (0, .ref (a 3)), (1, .int (nI tr)), (2, .int (nI 0)), (3, .int (nI p0)), (4, .int (nI q0))]) hx hb dX1_join_160 hl (k := 2) rfl (nI_1 w) (by decide) rfl (fun ls hl => ?_)
          refine lv_goto (tgt := 54) hx hb dX1_join_163 (by decide) ?_
          exact ih hlt _ _ _ ⟨hP, hS, (lv_sub hl [0, 3, 4, 5, 6, 7] rfl)⟩
    · refine lv_iload_n hx hb dX1_join_99 rfl (lv_at hl 5 rfl) ?_
      refine lv_if_ne (tgt := 116) hx hb dX1_join_100 (by decide) (fun _ => ?_) (fun c => absurd c (by decide +kernel))
      refine lv_iload_n hx hb dX1_join_116 rfl (lv_at hl 5 rfl) ?_
      refine lv_iconst (v := nI 1) hx hb dX1_join_117 (by decide +kernel) ?_
      refine lv_icmp_ne (tgt := 134) hx hb dX1_join_118 (by decide) (fun c => absurd c (by decide +kernel)) (fun _ => ?_)
      refine lv_iload hx hb dX1_join_121 (lv_at hl 1 rfl) ?_
      refine lv_if_ne (tgt := 154) hx hb dX1_join_123 (by decide) (fun d0 => ?_) (fun d0 => ?_)
      · refine lv_iconst (v := nI 1) hx hb dX1_join_154 (by decide +kernel) ?_
        refine lv_goto (tgt := 159) hx hb dX1_join_155 (by decide) ?_
        refine va_iast (i := nI w) (x := nI 1) hx hb hK hP (nDA hinj) hS 6 4 rfl rfl (vp_in_nI (by omega) (by decide)) dX1_join_159 (fun H locs hP _ hS => ?_)
        have e_159_9 : upd (nF gm 0 w (mvB (myJ tb 1 p0 q0))) (nI w).toNatClampNeg (nI 1) = nF gm 0 (w + 1) (mvB (myJ tb 1 p0 q0)) := nF_up0 (by omega) (by show _ = nb (nj 1 (tb p0 w) (tb q0 w)); rw [hX, hY]; revert d0; cases X <;> cases Y <;> decide +kernel)
        have hP : va_P (dC, dI) vwCl (nW a k fn ft gn gt (nF gm 0 (w + 1) (mvB (myJ tb 1 p0 q0))) (nI 0) o) H := by rw [← e_159_9]; exact hP
        refine lv_iinc (v := nI (w + 1)) (lv' := [(5, .int (nI (w + 1))), (7, .int (nb (Y))), (6, .int (nb (X))), (0, .ref (a 3)), (1, .int (nI tr)), (2, .int (nI 1)), (3, .int (nI p0)), (4, .int (nI q0))]) hx hb dX1_join_160 hl (k := 2) rfl (nI_1 w) (by decide) rfl (fun ls hl => ?_)
        refine lv_goto (tgt := 54) hx hb dX1_join_163 (by decide) ?_
        exact ih hlt _ _ _ ⟨hP, hS, (lv_sub hl [0, 3, 4, 5, 6, 7] rfl)⟩
      · refine lv_iload hx hb dX1_join_126 (lv_at hl 0 rfl) ?_
        refine lv_if_eq (tgt := 158) hx hb dX1_join_128 (by decide) (fun d1 => ?_) (fun d1 => ?_)
        · refine lv_iconst (v := nI 0) hx hb dX1_join_158 (by decide +kernel) ?_
          refine va_iast (i := nI w) (x := nI 0) hx hb hK hP (nDA hinj) hS 6 4 rfl rfl (vp_in_nI (by omega) (by decide)) dX1_join_159 (fun H locs hP _ hS => ?_)
          have e_159_9 : upd (nF gm 0 w (mvB (myJ tb 1 p0 q0))) (nI w).toNatClampNeg (nI 0) = nF gm 0 (w + 1) (mvB (myJ tb 1 p0 q0)) := nF_up0 (by omega) (by show _ = nb (nj 1 (tb p0 w) (tb q0 w)); rw [hX, hY]; revert d0; revert d1; cases X <;> cases Y <;> decide +kernel)
          have hP : va_P (dC, dI) vwCl (nW a k fn ft gn gt (nF gm 0 (w + 1) (mvB (myJ tb 1 p0 q0))) (nI 0) o) H := by rw [← e_159_9]; exact hP
          refine lv_iinc (v := nI (w + 1)) (lv' := [(5, .int (nI (w + 1))), (7, .int (nb (Y))), (6, .int (nb (X))), (0, .ref (a 3)), (1, .int (nI tr)), (2, .int (nI 1)), (3, .int (nI p0)), (4, .int (nI q0))]) hx hb dX1_join_160 hl (k := 2) rfl (nI_1 w) (by decide) rfl (fun ls hl => ?_)
          refine lv_goto (tgt := 54) hx hb dX1_join_163 (by decide) ?_
          exact ih hlt _ _ _ ⟨hP, hS, (lv_sub hl [0, 3, 4, 5, 6, 7] rfl)⟩
        · refine lv_goto (tgt := 154) hx hb dX1_join_131 (by decide) ?_
          refine lv_iconst (v := nI 1) hx hb dX1_join_154 (by decide +kernel) ?_
          refine lv_goto (tgt := 159) hx hb dX1_join_155 (by decide) ?_
          refine va_iast (i := nI w) (x := nI 1) hx hb hK hP (nDA hinj) hS 6 4 rfl rfl (vp_in_nI (by omega) (by decide)) dX1_join_159 (fun H locs hP _ hS => ?_)
          have e_159_9 : upd (nF gm 0 w (mvB (myJ tb 1 p0 q0))) (nI w).toNatClampNeg (nI 1) = nF gm 0 (w + 1) (mvB (myJ tb 1 p0 q0)) := nF_up0 (by omega) (by show _ = nb (nj 1 (tb p0 w) (tb q0 w)); rw [hX, hY]; revert d0; revert d1; cases X <;> cases Y <;> decide +kernel)
          have hP : va_P (dC, dI) vwCl (nW a k fn ft gn gt (nF gm 0 (w + 1) (mvB (myJ tb 1 p0 q0))) (nI 0) o) H := by rw [← e_159_9]; exact hP
          refine lv_iinc (v := nI (w + 1)) (lv' := [(5, .int (nI (w + 1))), (7, .int (nb (Y))), (6, .int (nb (X))), (0, .ref (a 3)), (1, .int (nI tr)), (2, .int (nI 1)), (3, .int (nI p0)), (4, .int (nI q0))]) hx hb dX1_join_160 hl (k := 2) rfl (nI_1 w) (by decide) rfl (fun ls hl => ?_)
          refine lv_goto (tgt := 54) hx hb dX1_join_163 (by decide) ?_
          exact ih hlt _ _ _ ⟨hP, hS, (lv_sub hl [0, 3, 4, 5, 6, 7] rfl)⟩
    · refine lv_iload_n hx hb dX1_join_99 rfl (lv_at hl 5 rfl) ?_
      refine lv_if_ne (tgt := 116) hx hb dX1_join_100 (by decide) (fun _ => ?_) (fun c => absurd c (by decide +kernel))
      refine lv_iload_n hx hb dX1_join_116 rfl (lv_at hl 5 rfl) ?_
      refine lv_iconst (v := nI 1) hx hb dX1_join_117 (by decide +kernel) ?_
      refine lv_icmp_ne (tgt := 134) hx hb dX1_join_118 (by decide) (fun _ => ?_) (fun c => absurd c (by decide +kernel))
      refine lv_iload_n hx hb dX1_join_134 rfl (lv_at hl 5 rfl) ?_
      refine lv_iconst (v := nI 2) hx hb dX1_join_135 (by decide +kernel) ?_
      refine lv_icmp_ne (tgt := 149) hx hb dX1_join_136 (by decide) (fun c => absurd c (by decide +kernel)) (fun _ => ?_)
      refine lv_iload hx hb dX1_join_139 (lv_at hl 1 rfl) ?_
      refine lv_iload hx hb dX1_join_141 (lv_at hl 0 rfl) ?_
      refine lv_icmp_eq (tgt := 158) hx hb dX1_join_143 (by decide) (fun d0 => ?_) (fun d0 => ?_)
      · refine lv_iconst (v := nI 0) hx hb dX1_join_158 (by decide +kernel) ?_
        refine va_iast (i := nI w) (x := nI 0) hx hb hK hP (nDA hinj) hS 6 4 rfl rfl (vp_in_nI (by omega) (by decide)) dX1_join_159 (fun H locs hP _ hS => ?_)
        have e_159_9 : upd (nF gm 0 w (mvB (myJ tb 2 p0 q0))) (nI w).toNatClampNeg (nI 0) = nF gm 0 (w + 1) (mvB (myJ tb 2 p0 q0)) := nF_up0 (by omega) (by show _ = nb (nj 2 (tb p0 w) (tb q0 w)); rw [hX, hY]; revert d0; cases X <;> cases Y <;> decide +kernel)
        have hP : va_P (dC, dI) vwCl (nW a k fn ft gn gt (nF gm 0 (w + 1) (mvB (myJ tb 2 p0 q0))) (nI 0) o) H := by rw [← e_159_9]; exact hP
        refine lv_iinc (v := nI (w + 1)) (lv' := [(5, .int (nI (w + 1))), (7, .int (nb (Y))), (6, .int (nb (X))), (0, .ref (a 3)), (1, .int (nI tr)), (2, .int (nI 2)), (3, .int (nI p0)), (4, .int (nI q0))]) hx hb dX1_join_160 hl (k := 2) rfl (nI_1 w) (by decide) rfl (fun ls hl => ?_)
        refine lv_goto (tgt := 54) hx hb dX1_join_163 (by decide) ?_
        exact ih hlt _ _ _ ⟨hP, hS, (lv_sub hl [0, 3, 4, 5, 6, 7] rfl)⟩
      · refine lv_goto (tgt := 154) hx hb dX1_join_146 (by decide) ?_
        refine lv_iconst (v := nI 1) hx hb dX1_join_154 (by decide +kernel) ?_
        refine lv_goto (tgt := 159) hx hb dX1_join_155 (by decide) ?_
        refine va_iast (i := nI w) (x := nI 1) hx hb hK hP (nDA hinj) hS 6 4 rfl rfl (vp_in_nI (by omega) (by decide)) dX1_join_159 (fun H locs hP _ hS => ?_)
        have e_159_9 : upd (nF gm 0 w (mvB (myJ tb 2 p0 q0))) (nI w).toNatClampNeg (nI 1) = nF gm 0 (w + 1) (mvB (myJ tb 2 p0 q0)) := nF_up0 (by omega) (by show _ = nb (nj 2 (tb p0 w) (tb q0 w)); rw [hX, hY]; revert d0; cases X <;> cases Y <;> decide +kernel)
        have hP : va_P (dC, dI) vwCl (nW a k fn ft gn gt (nF gm 0 (w + 1) (mvB (myJ tb 2 p0 q0))) (nI 0) o) H := by rw [← e_159_9]; exact hP
        refine lv_iinc (v := nI (w + 1)) (lv' := [(5, .int (nI (w + 1))), (7, .int (nb (Y))), (6, .int (nb (X))), (0, .ref (a 3)), (1, .int (nI tr)), (2, .int (nI 2)), (3, .int (nI p0)), (4, .int (nI q0))]) hx hb dX1_join_160 hl (k := 2) rfl (nI_1 w) (by decide) rfl (fun ls hl => ?_)
        refine lv_goto (tgt := 54) hx hb dX1_join_163 (by decide) ?_
        exact ih hlt _ _ _ ⟨hP, hS, (lv_sub hl [0, 3, 4, 5, 6, 7] rfl)⟩
    · refine lv_iload_n hx hb dX1_join_99 rfl (lv_at hl 5 rfl) ?_
      refine lv_if_ne (tgt := 116) hx hb dX1_join_100 (by decide) (fun _ => ?_) (fun c => absurd c (by decide +kernel))
      refine lv_iload_n hx hb dX1_join_116 rfl (lv_at hl 5 rfl) ?_
      refine lv_iconst (v := nI 1) hx hb dX1_join_117 (by decide +kernel) ?_
      refine lv_icmp_ne (tgt := 134) hx hb dX1_join_118 (by decide) (fun _ => ?_) (fun c => absurd c (by decide +kernel))
      refine lv_iload_n hx hb dX1_join_134 rfl (lv_at hl 5 rfl) ?_
      refine lv_iconst (v := nI 2) hx hb dX1_join_135 (by decide +kernel) ?_
      refine lv_icmp_ne (tgt := 149) hx hb dX1_join_136 (by decide) (fun _ => ?_) (fun c => absurd c (by decide +kernel))
      refine lv_iload hx hb dX1_join_149 (lv_at hl 1 rfl) ?_
      refine lv_if_ne (tgt := 158) hx hb dX1_join_151 (by decide) (fun d0 => ?_) (fun d0 => ?_)
      · refine lv_iconst (v := nI 0) hx hb dX1_join_158 (by decide +kernel) ?_
        refine va_iast (i := nI w) (x := nI 0) hx hb hK hP (nDA hinj) hS 6 4 rfl rfl (vp_in_nI (by omega) (by decide)) dX1_join_159 (fun H locs hP _ hS => ?_)
        have e_159_9 : upd (nF gm 0 w (mvB (myJ tb 3 p0 q0))) (nI w).toNatClampNeg (nI 0) = nF gm 0 (w + 1) (mvB (myJ tb 3 p0 q0)) := nF_up0 (by omega) (by show _ = nb (nj 3 (tb p0 w) (tb q0 w)); rw [hX, hY]; revert d0; cases X <;> cases Y <;> decide +kernel)
        have hP : va_P (dC, dI) vwCl (nW a k fn ft gn gt (nF gm 0 (w + 1) (mvB (myJ tb 3 p0 q0))) (nI 0) o) H := by rw [← e_159_9]; exact hP
        refine lv_iinc (v := nI (w + 1)) (lv' := [(5, .int (nI (w + 1))), (7, .int (nb (Y))), (6, .int (nb (X))), (0, .ref (a 3)), (1, .int (nI tr)), (2, .int (nI 3)), (3, .int (nI p0)), (4, .int (nI q0))]) hx hb dX1_join_160 hl (k := 2) rfl (nI_1 w) (by decide) rfl (fun ls hl => ?_)
        refine lv_goto (tgt := 54) hx hb dX1_join_163 (by decide) ?_
        exact ih hlt _ _ _ ⟨hP, hS, (lv_sub hl [0, 3, 4, 5, 6, 7] rfl)⟩
      · refine lv_iconst (v := nI 1) hx hb dX1_join_154 (by decide +kernel) ?_
        refine lv_goto (tgt := 159) hx hb dX1_join_155 (by decide) ?_
        refine va_iast (i := nI w) (x := nI 1) hx hb hK hP (nDA hinj) hS 6 4 rfl rfl (vp_in_nI (by omega) (by decide)) dX1_join_159 (fun H locs hP _ hS => ?_)
        have e_159_9 : upd (nF gm 0 w (mvB (myJ tb 3 p0 q0))) (nI w).toNatClampNeg (nI 1) = nF gm 0 (w + 1) (mvB (myJ tb 3 p0 q0)) := nF_up0 (by omega) (by show _ = nb (nj 3 (tb p0 w) (tb q0 w)); rw [hX, hY]; revert d0; cases X <;> cases Y <;> decide +kernel)
        have hP : va_P (dC, dI) vwCl (nW a k fn ft gn gt (nF gm 0 (w + 1) (mvB (myJ tb 3 p0 q0))) (nI 0) o) H := by rw [← e_159_9]; exact hP
        refine lv_iinc (v := nI (w + 1)) (lv' := [(5, .int (nI (w + 1))), (7, .int (nb (Y))), (6, .int (nb (X))), (0, .ref (a 3)), (1, .int (nI tr)), (2, .int (nI 3)), (3, .int (nI p0)), (4, .int (nI q0))]) hx hb dX1_join_160 hl (k := 2) rfl (nI_1 w) (by decide) rfl (fun ls hl => ?_)
        refine lv_goto (tgt := 54) hx hb dX1_join_163 (by decide) ?_
        exact ih hlt _ _ _ ⟨hP, hS, (lv_sub hl [0, 3, 4, 5, 6, 7] rfl)⟩
set_option maxHeartbeats 4000000 in
set_option maxRecDepth 100000 in
theorem m_value (l : Launch) (dC : Nat → ClassId) (dI : Nat → Nat → Nat) (a : Nat → Nat) (k : Nat → ClassId) (fn ft gn gt gm : Nat → Int32) (fl : Int32) (o : Nat → Int64) (hinj : nInj a) (sl wy : Nat) (hsl : sl < 8) (hwy : wy < 1024) : Met l yX1_value wsX1_value ({ frames := 1, cells := 0, slots := 0, locals := 40 }) (va_Pc [.ref (a 3), .int (nI sl), .int (nI wy)] (nPw dC dI a k fn ft gn gt gm fl o)) (nQi (gn (1024 * sl + wy)) (nPw dC dI a k fn ft gn gt gm (nI 0) o) a) 0 0 (nA0 a) := by
  refine Met.ofW (cc := cX1_value) (maxL := 3) (ret := (some .int)) (by decide) rfl ?_
  intro p e s m args below meth c s₁ B hml hv
  obtain ⟨rfl, hP, hK⟩ := hv
  have hx := B.exec
  have hb := B.bytes
  have hr := B.returns
  have hts := atoms_spec (ws := wsX1_value) B.pre
  have hown : s.vm.findClass RX1 = some m.cls := findClass_of_methodNamed B.named
  have hlocks := B.notSynchronized
  have hS : va_S (nA0 a) s.heap s.heap [] := va_S.rf
  have hl := lv_entry ([.ref (a 3), .int (nI sl), .int (nI wy)]) (n := 3) (Nat.le_of_ble_eq_true rfl)
  rw [lg_entry_eq]
  generalize (lg_sl ([.ref (a 3), .int (nI sl), .int (nI wy)]) ++ List.replicate (3 - (lg_sl ([.ref (a 3), .int (nI sl), .int (nI wy)])).length) Slot.unset).toArray = ls at hl ⊢
  have hl : lv_has ls 3 [(0, .ref (a 3)), (1, .int (nI sl)), (2, .int (nI wy))] := hl
  refine lv_aload_n hx hb dX1_value_0 rfl (lv_at hl 0 rfl) ?_
  refine lv_iconst (v := nI 0) hx hb dX1_value_1 (by decide +kernel) ?_
  refine va_put (D := (dC, dI)) (ci := 1) (v := .int (nI 0)) (ty := .int) (C := RX1) (T := TX1) (N := 4) hx hb hts inX1_value tyX1 tyX1_ok nmX1 hown hK hP (nDA hinj) hS 3 rfl rfl 0 (by decide) (hts (.fieldLink RX1 20 "NumberCircuitsModel" "failed" "I") (by decide +kernel)) (fun _ h9 => h9) rfl (by decide +kernel) rfl rfl (Nat.le_of_ble_eq_true rfl) dX1_value_2 (fun H locs hP _ hS => ?_)
  have hP : va_P (dC, dI) vwCl (nW a k fn ft gn gt gm (nI 0) o) H := hP
  refine lv_aload_n hx hb dX1_value_5 rfl (lv_at hl 0 rfl) ?_
  refine lv_iload_n hx hb dX1_value_6 rfl (lv_at hl 1 rfl) ?_
  refine lv_bipush (v := nI 8) hx hb dX1_value_7 (by decide +kernel) ?_
  refine vp_callSi (W.runV (As := [.int (nI sl), .int (nI 8)]) (rest := []) ⟨hx, hb, hml, hown, hts⟩ (m_out l dC dI a k fn ft gn gt gm (nI 0) o (nI sl) 8) (cwV 2 hts gX1_value_X1_out rfl rfl rfl (by decide +kernel) ⟨Nat.le_of_ble_eq_true rfl, Nat.le_of_ble_eq_true rfl⟩) (nPreV hP hK (va_recv hK hP (ci := 1) (q0 := 3) rfl rfl)) rfl rfl hl.1 rfl (lv_room (Nat.le_of_ble_eq_true rfl)) dX1_value_9 ⟨Nat.zero_le _, Nat.zero_le _⟩) (fun r_9_1 er_9_1 => ?_)
  rw [nO_in (by omega) (by decide)] at er_9_1
  subst er_9_1
  refine lv_if_ne (tgt := 26) hx hb dX1_value_12 (by decide) (fun c => absurd c (by decide +kernel)) (fun _ => ?_)
  refine lv_aload_n hx hb dX1_value_15 rfl (lv_at hl 0 rfl) ?_
  refine lv_iload_n hx hb dX1_value_16 rfl (lv_at hl 2 rfl) ?_
  refine lv_sipush (v := nI 1024) hx hb dX1_value_17 (by decide +kernel) ?_
  refine vp_callSi (W.runV (As := [.int (nI wy), .int (nI 1024)]) (rest := []) ⟨hx, hb, hml, hown, hts⟩ (m_out l dC dI a k fn ft gn gt gm (nI 0) o (nI wy) 1024) (cwV 2 hts gX1_value_X1_out rfl rfl rfl (by decide +kernel) ⟨Nat.le_of_ble_eq_true rfl, Nat.le_of_ble_eq_true rfl⟩) (nPreV hP hK (va_recv hK hP (ci := 1) (q0 := 3) rfl rfl)) rfl rfl hl.1 rfl (lv_room (Nat.le_of_ble_eq_true rfl)) dX1_value_20 ⟨Nat.zero_le _, Nat.zero_le _⟩) (fun r_20_2 er_20_2 => ?_)
  rw [nO_in (by omega) (by decide)] at er_20_2
  subst er_20_2
  refine lv_if_eq (tgt := 32) hx hb dX1_value_23 (by decide) (fun _ => ?_) (fun c => absurd c (by decide +kernel))
  refine lv_aload_n hx hb dX1_value_32 rfl (lv_at hl 0 rfl) ?_
  refine va_get (D := (dC, dI)) (ci := 1) (v := .ref (a 4)) (C := RX1) (T := TX1) (N := 4) hx hb hts inX1_value hown hK hP 3 rfl rfl 1 (by decide) (hts (.fieldLink RX1 7 "NumberCircuitsModel" "numbers" "[I") (by decide +kernel)) (fun _ h9 => h9) rfl dX1_value_33 ?_
  refine lv_sipush (v := nI 1024) hx hb dX1_value_36 (by decide +kernel) ?_
  refine lv_iload_n hx hb dX1_value_39 rfl (lv_at hl 1 rfl) ?_
  refine lv_imul hx hb dX1_value_40 ?_
  refine lv_iload_n hx hb dX1_value_41 rfl (lv_at hl 2 rfl) ?_
  refine lv_iadd hx hb dX1_value_42 ?_
  refine lv_topi (fun x_43_3 ex_43_3 => ?_)
  obtain rfl : x_43_3 = nI (1024 * sl + wy) := by rw [ex_43_3]; rw [pk_mul, nI_add]
  refine va_iald (i := nI (1024 * sl + wy)) hx hb hK hP 4 2 rfl rfl (vp_in_nI (by omega) (by decide)) dX1_value_43 ?_
  refine lv_topi (fun x_44_4 ex_44_4 => ?_)
  obtain rfl : x_44_4 = gn (1024 * sl + wy) := by rw [ex_44_4]; rw [nI_clamp (show 1024 * sl + wy < 2 ^ 31 by omega)]
  exact W.iret hx hb hr (fun t ht hW => ⟨⟨_, (), rfl, rfl, by rw [ht]; exact hP, va_K.moved hW.alike hK⟩, hS.F ht⟩) hS.2.2 dX1_value_44
set_option maxHeartbeats 4000000 in
set_option maxRecDepth 100000 in
theorem m_way (l : Launch) (dC : Nat → ClassId) (dI : Nat → Nat → Nat) (a : Nat → Nat) (k : Nat → ClassId) (fn ft gn gt gm : Nat → Int32) (fl : Int32) (o : Nat → Int64) (hinj : nInj a) (tb : Nat → Nat → Bool) (htb : ∀ t w : Nat, t < 8 → w < 1024 → gt (1024 * t + w) = nb (tb t w)) (tr w0 : Nat) (htr : tr < 8) (hw0 : w0 < 1024) (hy0 : tb tr w0 = true) (hn0 : ∀ j, j < w0 → tb tr j = false) : Met l yX1_way wsX1_way ({ frames := 1, cells := 0, slots := 0, locals := 40 }) (va_Pc [.ref (a 3), .int (nI tr)] (nPw dC dI a k fn ft gn gt gm fl o)) (nQi (nI w0) (nPw dC dI a k fn ft gn gt gm (nI 0) o) a) 0 0 (nA0 a) := by
  refine Met.ofW (cc := cX1_way) (maxL := 3) (ret := (some .int)) (by decide) rfl ?_
  intro p e s m args below meth c s₁ B hml hv
  obtain ⟨rfl, hP, hK⟩ := hv
  have hx := B.exec
  have hb := B.bytes
  have hr := B.returns
  have hts := atoms_spec (ws := wsX1_way) B.pre
  have hown : s.vm.findClass RX1 = some m.cls := findClass_of_methodNamed B.named
  have hlocks := B.notSynchronized
  have hS : va_S (nA0 a) s.heap s.heap [] := va_S.rf
  have hl := lv_entry ([.ref (a 3), .int (nI tr)]) (n := 3) (Nat.le_of_ble_eq_true rfl)
  rw [lg_entry_eq]
  generalize (lg_sl ([.ref (a 3), .int (nI tr)]) ++ List.replicate (3 - (lg_sl ([.ref (a 3), .int (nI tr)])).length) Slot.unset).toArray = ls at hl ⊢
  have hl : lv_has ls 3 [(0, .ref (a 3)), (1, .int (nI tr))] := hl
  refine lv_aload_n hx hb dX1_way_0 rfl (lv_at hl 0 rfl) ?_
  refine lv_iconst (v := nI 0) hx hb dX1_way_1 (by decide +kernel) ?_
  refine va_put (D := (dC, dI)) (ci := 1) (v := .int (nI 0)) (ty := .int) (C := RX1) (T := TX1) (N := 4) hx hb hts inX1_way tyX1 tyX1_ok nmX1 hown hK hP (nDA hinj) hS 3 rfl rfl 0 (by decide) (hts (.fieldLink RX1 20 "NumberCircuitsModel" "failed" "I") (by decide +kernel)) (fun _ h9 => h9) rfl (by decide +kernel) rfl rfl (Nat.le_of_ble_eq_true rfl) dX1_way_2 (fun H locs hP _ hS => ?_)
  have hP : va_P (dC, dI) vwCl (nW a k fn ft gn gt gm (nI 0) o) H := hP
  refine lv_aload_n hx hb dX1_way_5 rfl (lv_at hl 0 rfl) ?_
  refine lv_iload_n hx hb dX1_way_6 rfl (lv_at hl 1 rfl) ?_
  refine lv_bipush (v := nI 8) hx hb dX1_way_7 (by decide +kernel) ?_
  refine vp_callSi (W.runV (As := [.int (nI tr), .int (nI 8)]) (rest := []) ⟨hx, hb, hml, hown, hts⟩ (m_out l dC dI a k fn ft gn gt gm (nI 0) o (nI tr) 8) (cwV 2 hts gX1_way_X1_out rfl rfl rfl (by decide +kernel) ⟨Nat.le_of_ble_eq_true rfl, Nat.le_of_ble_eq_true rfl⟩) (nPreV hP hK (va_recv hK hP (ci := 1) (q0 := 3) rfl rfl)) rfl rfl hl.1 rfl (lv_room (Nat.le_of_ble_eq_true rfl)) dX1_way_9 ⟨Nat.zero_le _, Nat.zero_le _⟩) (fun r_9_1 er_9_1 => ?_)
  rw [nO_in (by omega) (by decide)] at er_9_1
  subst er_9_1
  refine lv_if_eq (tgt := 21) hx hb dX1_way_12 (by decide) (fun _ => ?_) (fun c => absurd c (by decide +kernel))
  refine lv_iconst (v := nI 0) hx hb dX1_way_21 (by decide +kernel) ?_
  refine lv_istore_n (lv' := [(2, .int (nI 0)), (0, .ref (a 3)), (1, .int (nI tr))]) hx hb dX1_way_22 rfl hl (by decide) rfl (fun ls hl => ?_)
  refine nc_loop 1024 (fun w H locs ls => va_P (dC, dI) vwCl (nW a k fn ft gn gt gm (nI 0) o) H ∧ va_S (nA0 a) s.heap H locs ∧ (w ≤ w0) ∧ lv_has ls 3 [(2, .int (nI w)), (0, .ref (a 3)), (1, .int (nI tr))]) ⟨hP, hS, Nat.zero_le _, (lv_sub hl [0, 1, 2] rfl)⟩ ?_
  intro w H locs ls hw hI ih
  obtain ⟨hP, hS, hwl, hl⟩ := hI
  refine lv_iload_n hx hb dX1_way_23 rfl (lv_at hl 0 rfl) ?_
  refine lv_sipush (v := nI 1024) hx hb dX1_way_24 (by decide +kernel) ?_
  refine lv_icmp_ge (tgt := 53) hx hb dX1_way_27 (by decide) (fun c1 => ?_) (fun c1 => ?_)
  · exact absurd (nHi (by decide) hw c1) (by omega)
  · have hlt : w < 1024 := nLo (by decide) hw c1
    refine lv_aload_n hx hb dX1_way_30 rfl (lv_at hl 1 rfl) ?_
    refine va_get (D := (dC, dI)) (ci := 1) (v := .ref (a 5)) (C := RX1) (T := TX1) (N := 4) hx hb hts inX1_way hown hK hP 3 rfl rfl 2 (by decide) (hts (.fieldLink RX1 13 "NumberCircuitsModel" "truths" "[Z") (by decide +kernel)) (fun _ h9 => h9) rfl dX1_way_31 ?_
    refine lv_sipush (v := nI 1024) hx hb dX1_way_34 (by decide +kernel) ?_
    refine lv_iload_n hx hb dX1_way_37 rfl (lv_at hl 2 rfl) ?_
    refine lv_imul hx hb dX1_way_38 ?_
    refine lv_iload_n hx hb dX1_way_39 rfl (lv_at hl 0 rfl) ?_
    refine lv_iadd hx hb dX1_way_40 ?_
    refine lv_topi (fun x_41_2 ex_41_2 => ?_)
    obtain rfl : x_41_2 = nI (1024 * tr + w) := by rw [ex_41_2]; rw [pk_mul, nI_add]
    refine va_zald (i := nI (1024 * tr + w)) hx hb hK hP 5 3 rfl rfl (vp_in_nI (by omega) (by decide)) dX1_way_41 ?_
    refine lv_topi (fun x_42_3 ex_42_3 => ?_)
    obtain rfl : x_42_3 = nb (tb tr w) := by rw [ex_42_3]; rw [nI_clamp (show 1024 * tr + w < 2 ^ 31 by omega)]; exact htb tr w htr hlt
    refine lv_if_eq (tgt := 47) hx hb dX1_way_42 (by decide) (fun c2 => ?_) (fun c2 => ?_)
    · have hne : w ≠ w0 := fun h => by rw [h, hy0] at c2; exact absurd c2 (by decide +kernel)
      refine lv_iinc (v := nI (w + 1)) (lv' := [(2, .int (nI (w + 1))), (0, .ref (a 3)), (1, .int (nI tr))]) hx hb dX1_way_47 hl (k := 0) rfl (nI_1 w) (by decide) rfl (fun ls hl => ?_)
      refine lv_goto (tgt := 23) hx hb dX1_way_50 (by decide) ?_
      exact ih hlt _ _ _ ⟨hP, hS, (by omega), (lv_sub hl [0, 1, 2] rfl)⟩
    · obtain rfl : w = w0 := by
        rcases Nat.lt_or_ge w w0 with q | q
        · rw [hn0 w q] at c2; exact absurd (by decide +kernel) c2
        · omega
      refine lv_iload_n hx hb dX1_way_45 rfl (lv_at hl 0 rfl) ?_
      exact W.iret hx hb hr (fun t ht hW => ⟨⟨_, (), rfl, rfl, by rw [ht]; exact hP, va_K.moved hW.alike hK⟩, hS.F ht⟩) hS.2.2 dX1_way_46
set_option maxHeartbeats 4000000 in
set_option maxRecDepth 100000 in
theorem m_wayN (l : Launch) (dC : Nat → ClassId) (dI : Nat → Nat → Nat) (a : Nat → Nat) (k : Nat → ClassId) (fn ft gn gt gm : Nat → Int32) (fl : Int32) (o : Nat → Int64) (hinj : nInj a) (tb : Nat → Nat → Bool) (htb : ∀ t w : Nat, t < 8 → w < 1024 → gt (1024 * t + w) = nb (tb t w)) (tr : Nat) (htr : tr < 8) (hn0 : ∀ j, j < 1024 → tb tr j = false) : Met l yX1_way wsX1_way ({ frames := 1, cells := 0, slots := 0, locals := 40 }) (va_Pc [.ref (a 3), .int (nI tr)] (nPw dC dI a k fn ft gn gt gm fl o)) (nQi (nI 0) (nPw dC dI a k fn ft gn gt gm (nI 2) o) a) 0 0 (nA0 a) := by
  refine Met.ofW (cc := cX1_way) (maxL := 3) (ret := (some .int)) (by decide) rfl ?_
  intro p e s m args below meth c s₁ B hml hv
  obtain ⟨rfl, hP, hK⟩ := hv
  have hx := B.exec
  have hb := B.bytes
  have hr := B.returns
  have hts := atoms_spec (ws := wsX1_way) B.pre
  have hown : s.vm.findClass RX1 = some m.cls := findClass_of_methodNamed B.named
  have hlocks := B.notSynchronized
  have hS : va_S (nA0 a) s.heap s.heap [] := va_S.rf
  have hl := lv_entry ([.ref (a 3), .int (nI tr)]) (n := 3) (Nat.le_of_ble_eq_true rfl)
  rw [lg_entry_eq]
  generalize (lg_sl ([.ref (a 3), .int (nI tr)]) ++ List.replicate (3 - (lg_sl ([.ref (a 3), .int (nI tr)])).length) Slot.unset).toArray = ls at hl ⊢
  have hl : lv_has ls 3 [(0, .ref (a 3)), (1, .int (nI tr))] := hl
  refine lv_aload_n hx hb dX1_way_0 rfl (lv_at hl 0 rfl) ?_
  refine lv_iconst (v := nI 0) hx hb dX1_way_1 (by decide +kernel) ?_
  refine va_put (D := (dC, dI)) (ci := 1) (v := .int (nI 0)) (ty := .int) (C := RX1) (T := TX1) (N := 4) hx hb hts inX1_way tyX1 tyX1_ok nmX1 hown hK hP (nDA hinj) hS 3 rfl rfl 0 (by decide) (hts (.fieldLink RX1 20 "NumberCircuitsModel" "failed" "I") (by decide +kernel)) (fun _ h9 => h9) rfl (by decide +kernel) rfl rfl (Nat.le_of_ble_eq_true rfl) dX1_way_2 (fun H locs hP _ hS => ?_)
  have hP : va_P (dC, dI) vwCl (nW a k fn ft gn gt gm (nI 0) o) H := hP
  refine lv_aload_n hx hb dX1_way_5 rfl (lv_at hl 0 rfl) ?_
  refine lv_iload_n hx hb dX1_way_6 rfl (lv_at hl 1 rfl) ?_
  refine lv_bipush (v := nI 8) hx hb dX1_way_7 (by decide +kernel) ?_
  refine vp_callSi (W.runV (As := [.int (nI tr), .int (nI 8)]) (rest := []) ⟨hx, hb, hml, hown, hts⟩ (m_out l dC dI a k fn ft gn gt gm (nI 0) o (nI tr) 8) (cwV 2 hts gX1_way_X1_out rfl rfl rfl (by decide +kernel) ⟨Nat.le_of_ble_eq_true rfl, Nat.le_of_ble_eq_true rfl⟩) (nPreV hP hK (va_recv hK hP (ci := 1) (q0 := 3) rfl rfl)) rfl rfl hl.1 rfl (lv_room (Nat.le_of_ble_eq_true rfl)) dX1_way_9 ⟨Nat.zero_le _, Nat.zero_le _⟩) (fun r_9_1 er_9_1 => ?_)
  rw [nO_in (by omega) (by decide)] at er_9_1
  subst er_9_1
  refine lv_if_eq (tgt := 21) hx hb dX1_way_12 (by decide) (fun _ => ?_) (fun c => absurd c (by decide +kernel))
  refine lv_iconst (v := nI 0) hx hb dX1_way_21 (by decide +kernel) ?_
  refine lv_istore_n (lv' := [(2, .int (nI 0)), (0, .ref (a 3)), (1, .int (nI tr))]) hx hb dX1_way_22 rfl hl (by decide) rfl (fun ls hl => ?_)
  refine nc_loop 1024 (fun w H locs ls => va_P (dC, dI) vwCl (nW a k fn ft gn gt gm (nI 0) o) H ∧ va_S (nA0 a) s.heap H locs ∧ lv_has ls 3 [(2, .int (nI w)), (0, .ref (a 3)), (1, .int (nI tr))]) ⟨hP, hS, (lv_sub hl [0, 1, 2] rfl)⟩ ?_
  intro w H locs ls hw hI ih
  obtain ⟨hP, hS, hl⟩ := hI
  refine lv_iload_n hx hb dX1_way_23 rfl (lv_at hl 0 rfl) ?_
  refine lv_sipush (v := nI 1024) hx hb dX1_way_24 (by decide +kernel) ?_
  refine lv_icmp_ge (tgt := 53) hx hb dX1_way_27 (by decide) (fun c1 => ?_) (fun c1 => ?_)
  · refine lv_aload_n hx hb dX1_way_53 rfl (lv_at hl 1 rfl) ?_
    refine lv_iconst (v := nI 2) hx hb dX1_way_54 (by decide +kernel) ?_
    refine va_calli (va_runV (As := [.int (nI 2)]) (rest := []) ⟨hx, hb, hml, hown, hts⟩ (m_fail l dC dI a k fn ft gn gt gm (nI 0) o hinj (nI 2)) (cwV 1 hts gX1_way_X1_fail rfl rfl rfl (by decide +kernel) ⟨Nat.le_of_ble_eq_true rfl, Nat.le_of_ble_eq_true rfl⟩) (nPreV hP hK (va_recv hK hP (ci := 1) (q0 := 3) rfl rfl)) rfl rfl hl.1 rfl (lv_room (Nat.le_of_ble_eq_true rfl)) dX1_way_55 ⟨Nat.zero_le _, Nat.zero_le _⟩) hS (fun _ _ h => h) (fun _ h => h) (fun r_55_2 _ t H locs ht hvm er_55_2 hB _ _ hS => ?_)
    subst er_55_2
    have hP : va_P (dC, dI) vwCl (nW a k fn ft gn gt gm (nI 2) o) H := by rw [← ht]; exact hB.1
    exact W.iret hx hb hr (fun t ht hW => ⟨⟨_, (), rfl, rfl, by rw [ht]; exact hP, va_K.moved hW.alike hK⟩, hS.F ht⟩) hS.2.2 dX1_way_58
  · have hlt : w < 1024 := nLo (by decide) hw c1
    refine lv_aload_n hx hb dX1_way_30 rfl (lv_at hl 1 rfl) ?_
    refine va_get (D := (dC, dI)) (ci := 1) (v := .ref (a 5)) (C := RX1) (T := TX1) (N := 4) hx hb hts inX1_way hown hK hP 3 rfl rfl 2 (by decide) (hts (.fieldLink RX1 13 "NumberCircuitsModel" "truths" "[Z") (by decide +kernel)) (fun _ h9 => h9) rfl dX1_way_31 ?_
    refine lv_sipush (v := nI 1024) hx hb dX1_way_34 (by decide +kernel) ?_
    refine lv_iload_n hx hb dX1_way_37 rfl (lv_at hl 2 rfl) ?_
    refine lv_imul hx hb dX1_way_38 ?_
    refine lv_iload_n hx hb dX1_way_39 rfl (lv_at hl 0 rfl) ?_
    refine lv_iadd hx hb dX1_way_40 ?_
    refine lv_topi (fun x_41_2 ex_41_2 => ?_)
    obtain rfl : x_41_2 = nI (1024 * tr + w) := by rw [ex_41_2]; rw [pk_mul, nI_add]
    refine va_zald (i := nI (1024 * tr + w)) hx hb hK hP 5 3 rfl rfl (vp_in_nI (by omega) (by decide)) dX1_way_41 ?_
    refine lv_topi (fun x_42_3 ex_42_3 => ?_)
    obtain rfl : x_42_3 = nb (tb tr w) := by rw [ex_42_3]; rw [nI_clamp (show 1024 * tr + w < 2 ^ 31 by omega)]; exact htb tr w htr hlt
    refine lv_if_eq (tgt := 47) hx hb dX1_way_42 (by decide) (fun c2 => ?_) (fun c2 => ?_)
    · refine lv_iinc (v := nI (w + 1)) (lv' := [(2, .int (nI (w + 1))), (0, .ref (a 3)), (1, .int (nI tr))]) hx hb dX1_way_47 hl (k := 0) rfl (nI_1 w) (by decide) rfl (fun ls hl => ?_)
      refine lv_goto (tgt := 23) hx hb dX1_way_50 (by decide) ?_
      exact ih hlt _ _ _ ⟨hP, hS, (lv_sub hl [0, 1, 2] rfl)⟩
    · exact absurd (by rw [hn0 w hlt]; decide +kernel) c2
set_option maxHeartbeats 4000000 in
set_option maxRecDepth 100000 in
theorem m_same (l : Launch) (dC : Nat → ClassId) (dI : Nat → Nat → Nat) (a : Nat → Nat) (k : Nat → ClassId) (fn ft gn gt gm : Nat → Int32) (fl : Int32) (o : Nat → Int64) (hinj : nInj a) (p0 q0 : Nat) (hp0 : p0 < 8) (hq0 : q0 < 8) : Met l yX1_same wsX1_same ({ frames := 1, cells := 0, slots := 0, locals := 40 }) (va_Pc [.ref (a 3), .int (nI p0), .int (nI q0)] (nPw dC dI a k fn ft gn gt gm fl o)) (nQi (nb (nAll (nqS gn p0 q0) 1024)) (nPw dC dI a k fn ft gn gt gm (nI 0) o) a) 0 0 (nA0 a) := by
  refine Met.ofW (cc := cX1_same) (maxL := 4) (ret := (some .boolean)) (by decide) rfl ?_
  intro p e s m args below meth c s₁ B hml hv
  obtain ⟨rfl, hP, hK⟩ := hv
  have hx := B.exec
  have hb := B.bytes
  have hr := B.returns
  have hts := atoms_spec (ws := wsX1_same) B.pre
  have hown : s.vm.findClass RX1 = some m.cls := findClass_of_methodNamed B.named
  have hlocks := B.notSynchronized
  have hS : va_S (nA0 a) s.heap s.heap [] := va_S.rf
  have hl := lv_entry ([.ref (a 3), .int (nI p0), .int (nI q0)]) (n := 4) (Nat.le_of_ble_eq_true rfl)
  rw [lg_entry_eq]
  generalize (lg_sl ([.ref (a 3), .int (nI p0), .int (nI q0)]) ++ List.replicate (4 - (lg_sl ([.ref (a 3), .int (nI p0), .int (nI q0)])).length) Slot.unset).toArray = ls at hl ⊢
  have hl : lv_has ls 4 [(0, .ref (a 3)), (1, .int (nI p0)), (2, .int (nI q0))] := hl
  refine lv_aload_n hx hb dX1_same_0 rfl (lv_at hl 0 rfl) ?_
  refine lv_iconst (v := nI 0) hx hb dX1_same_1 (by decide +kernel) ?_
  refine va_put (D := (dC, dI)) (ci := 1) (v := .int (nI 0)) (ty := .int) (C := RX1) (T := TX1) (N := 4) hx hb hts inX1_same tyX1 tyX1_ok nmX1 hown hK hP (nDA hinj) hS 3 rfl rfl 0 (by decide) (hts (.fieldLink RX1 20 "NumberCircuitsModel" "failed" "I") (by decide +kernel)) (fun _ h9 => h9) rfl (by decide +kernel) rfl rfl (Nat.le_of_ble_eq_true rfl) dX1_same_2 (fun H locs hP _ hS => ?_)
  have hP : va_P (dC, dI) vwCl (nW a k fn ft gn gt gm (nI 0) o) H := hP
  refine lv_aload_n hx hb dX1_same_5 rfl (lv_at hl 0 rfl) ?_
  refine lv_iload_n hx hb dX1_same_6 rfl (lv_at hl 1 rfl) ?_
  refine lv_bipush (v := nI 8) hx hb dX1_same_7 (by decide +kernel) ?_
  refine vp_callSi (W.runV (As := [.int (nI p0), .int (nI 8)]) (rest := []) ⟨hx, hb, hml, hown, hts⟩ (m_out l dC dI a k fn ft gn gt gm (nI 0) o (nI p0) 8) (cwV 2 hts gX1_same_X1_out rfl rfl rfl (by decide +kernel) ⟨Nat.le_of_ble_eq_true rfl, Nat.le_of_ble_eq_true rfl⟩) (nPreV hP hK (va_recv hK hP (ci := 1) (q0 := 3) rfl rfl)) rfl rfl hl.1 rfl (lv_room (Nat.le_of_ble_eq_true rfl)) dX1_same_9 ⟨Nat.zero_le _, Nat.zero_le _⟩) (fun r_9_1 er_9_1 => ?_)
  rw [nO_in (by omega) (by decide)] at er_9_1
  subst er_9_1
  refine lv_if_ne (tgt := 25) hx hb dX1_same_12 (by decide) (fun c => absurd c (by decide +kernel)) (fun _ => ?_)
  refine lv_aload_n hx hb dX1_same_15 rfl (lv_at hl 0 rfl) ?_
  refine lv_iload_n hx hb dX1_same_16 rfl (lv_at hl 2 rfl) ?_
  refine lv_bipush (v := nI 8) hx hb dX1_same_17 (by decide +kernel) ?_
  refine vp_callSi (W.runV (As := [.int (nI q0), .int (nI 8)]) (rest := []) ⟨hx, hb, hml, hown, hts⟩ (m_out l dC dI a k fn ft gn gt gm (nI 0) o (nI q0) 8) (cwV 2 hts gX1_same_X1_out rfl rfl rfl (by decide +kernel) ⟨Nat.le_of_ble_eq_true rfl, Nat.le_of_ble_eq_true rfl⟩) (nPreV hP hK (va_recv hK hP (ci := 1) (q0 := 3) rfl rfl)) rfl rfl hl.1 rfl (lv_room (Nat.le_of_ble_eq_true rfl)) dX1_same_19 ⟨Nat.zero_le _, Nat.zero_le _⟩) (fun r_19_2 er_19_2 => ?_)
  rw [nO_in (by omega) (by decide)] at er_19_2
  subst er_19_2
  refine lv_if_eq (tgt := 39) hx hb dX1_same_22 (by decide) (fun _ => ?_) (fun c => absurd c (by decide +kernel))
  refine lv_iconst (v := nI 0) hx hb dX1_same_39 (by decide +kernel) ?_
  refine lv_istore_n (lv' := [(3, .int (nI 0)), (0, .ref (a 3)), (1, .int (nI p0)), (2, .int (nI q0))]) hx hb dX1_same_40 rfl hl (by decide) rfl (fun ls hl => ?_)
  refine nc_loop 1024 (fun w H locs ls => va_P (dC, dI) vwCl (nW a k fn ft gn gt gm (nI 0) o) H ∧ va_S (nA0 a) s.heap H locs ∧ (∀ j, j < w → (nqS gn p0 q0) j = true) ∧ lv_has ls 4 [(3, .int (nI w)), (0, .ref (a 3)), (1, .int (nI p0)), (2, .int (nI q0))]) ⟨hP, hS, (fun j hj => absurd hj (by omega)), (lv_sub hl [0, 1, 2, 3] rfl)⟩ ?_
  intro w H locs ls hw hI ih
  obtain ⟨hP, hS, hq, hl⟩ := hI
  refine lv_iload_n hx hb dX1_same_41 rfl (lv_at hl 0 rfl) ?_
  refine lv_sipush (v := nI 1024) hx hb dX1_same_42 (by decide +kernel) ?_
  refine lv_icmp_ge (tgt := 83) hx hb dX1_same_45 (by decide) (fun c1 => ?_) (fun c1 => ?_)
  · obtain rfl : w = 1024 := nHi (by decide) hw c1
    refine lv_iconst (v := nI 1) hx hb dX1_same_83 (by decide +kernel) ?_
    exact W.zret hx hb hr (by decide +kernel) (fun t ht hW => ⟨⟨_, (), rfl, (by rw [nAll_t 1024 hq]; rfl), by rw [ht]; exact hP, va_K.moved hW.alike hK⟩, hS.F ht⟩) hS.2.2 dX1_same_84
  · have hlt : w < 1024 := nLo (by decide) hw c1
    refine lv_aload_n hx hb dX1_same_48 rfl (lv_at hl 1 rfl) ?_
    refine va_get (D := (dC, dI)) (ci := 1) (v := .ref (a 4)) (C := RX1) (T := TX1) (N := 4) hx hb hts inX1_same hown hK hP 3 rfl rfl 1 (by decide) (hts (.fieldLink RX1 7 "NumberCircuitsModel" "numbers" "[I") (by decide +kernel)) (fun _ h9 => h9) rfl dX1_same_49 ?_
    refine lv_sipush (v := nI 1024) hx hb dX1_same_52 (by decide +kernel) ?_
    refine lv_iload_n hx hb dX1_same_55 rfl (lv_at hl 2 rfl) ?_
    refine lv_imul hx hb dX1_same_56 ?_
    refine lv_iload_n hx hb dX1_same_57 rfl (lv_at hl 0 rfl) ?_
    refine lv_iadd hx hb dX1_same_58 ?_
    refine lv_topi (fun x_59_3 ex_59_3 => ?_)
    obtain rfl : x_59_3 = nI (1024 * p0 + w) := by rw [ex_59_3]; rw [pk_mul, nI_add]
    refine va_iald (i := nI (1024 * p0 + w)) hx hb hK hP 4 2 rfl rfl (vp_in_nI (by omega) (by decide)) dX1_same_59 ?_
    refine lv_topi (fun x_60_4 ex_60_4 => ?_)
    obtain rfl : x_60_4 = gn (1024 * p0 + w) := by rw [ex_60_4]; rw [nI_clamp (show 1024 * p0 + w < 2 ^ 31 by omega)]
    refine lv_aload_n hx hb dX1_same_60 rfl (lv_at hl 1 rfl) ?_
    refine va_get (D := (dC, dI)) (ci := 1) (v := .ref (a 4)) (C := RX1) (T := TX1) (N := 4) hx hb hts inX1_same hown hK hP 3 rfl rfl 1 (by decide) (hts (.fieldLink RX1 7 "NumberCircuitsModel" "numbers" "[I") (by decide +kernel)) (fun _ h9 => h9) rfl dX1_same_61 ?_
    refine lv_sipush (v := nI 1024) hx hb dX1_same_64 (by decide +kernel) ?_
    refine lv_iload_n hx hb dX1_same_67 rfl (lv_at hl 3 rfl) ?_
    refine lv_imul hx hb dX1_same_68 ?_
    refine lv_iload_n hx hb dX1_same_69 rfl (lv_at hl 0 rfl) ?_
    refine lv_iadd hx hb dX1_same_70 ?_
    refine lv_topi (fun x_71_5 ex_71_5 => ?_)
    obtain rfl : x_71_5 = nI (1024 * q0 + w) := by rw [ex_71_5]; rw [pk_mul, nI_add]
    refine va_iald (i := nI (1024 * q0 + w)) hx hb hK hP 4 2 rfl rfl (vp_in_nI (by omega) (by decide)) dX1_same_71 ?_
    refine lv_topi (fun x_72_6 ex_72_6 => ?_)
    obtain rfl : x_72_6 = gn (1024 * q0 + w) := by rw [ex_72_6]; rw [nI_clamp (show 1024 * q0 + w < 2 ^ 31 by omega)]
    refine lv_icmp_eq (tgt := 77) hx hb dX1_same_72 (by decide) (fun c2 => ?_) (fun c2 => ?_)
    · refine lv_iinc (v := nI (w + 1)) (lv' := [(3, .int (nI (w + 1))), (0, .ref (a 3)), (1, .int (nI p0)), (2, .int (nI q0))]) hx hb dX1_same_77 hl (k := 0) rfl (nI_1 w) (by decide) rfl (fun ls hl => ?_)
      refine lv_goto (tgt := 41) hx hb dX1_same_80 (by decide) ?_
      exact ih hlt _ _ _ ⟨hP, hS, lt_s hq (decide_eq_true c2), (lv_sub hl [0, 1, 2, 3] rfl)⟩
    · refine lv_iconst (v := nI 0) hx hb dX1_same_75 (by decide +kernel) ?_
      exact W.zret hx hb hr (by decide +kernel) (fun t ht hW => ⟨⟨_, (), rfl, (by rw [nAll_f (w := w) (decide_eq_false c2) 1024 hlt]; rfl), by rw [ht]; exact hP, va_K.moved hW.alike hK⟩, hS.F ht⟩) hS.2.2 dX1_same_76
theorem nAll_1t {q : Nat → Bool} {v : Nat} (h : q v = true) : nAll q (v + 1) = nAll q v := by
  show (nAll q v && q v) = nAll q v
  rw [h, Bool.and_true]
theorem nAll_1f {q : Nat → Bool} {v : Nat} (h : q v = false) : nAll q (v + 1) = false := by
  show (nAll q v && q v) = false
  rw [h, Bool.and_false]
set_option maxHeartbeats 4000000 in
set_option maxRecDepth 100000 in
theorem m_tidy (l : Launch) (dC : Nat → ClassId) (dI : Nat → Nat → Nat) (a : Nat → Nat) (k : Nat → ClassId) (fn ft gn gt gm : Nat → Int32) (fl : Int32) (o : Nat → Int64) (hinj : nInj a) (wh : Nat) (hwh : wh < 3) : Met l yX1_tidy wsX1_tidy ({ frames := 1, cells := 0, slots := 0, locals := 40 }) (va_Pc [.ref (a 3), .int (nI wh)] (nPw dC dI a k fn ft gn gt gm fl o)) (nQi (nI (nN (nqT gn) 8)) (nPw dC dI a k fn ft gn gt gm (nI 0) o) a) 0 0 (nA0 a) := by
  refine Met.ofW (cc := cX1_tidy) (maxL := 6) (ret := (some .int)) (by decide) rfl ?_
  intro p e s m args below meth c s₁ B hml hv
  obtain ⟨rfl, hP, hK⟩ := hv
  have hx := B.exec
  have hb := B.bytes
  have hr := B.returns
  have hts := atoms_spec (ws := wsX1_tidy) B.pre
  have hown : s.vm.findClass RX1 = some m.cls := findClass_of_methodNamed B.named
  have hlocks := B.notSynchronized
  have hS : va_S (nA0 a) s.heap s.heap [] := va_S.rf
  have hl := lv_entry ([.ref (a 3), .int (nI wh)]) (n := 6) (Nat.le_of_ble_eq_true rfl)
  rw [lg_entry_eq]
  generalize (lg_sl ([.ref (a 3), .int (nI wh)]) ++ List.replicate (6 - (lg_sl ([.ref (a 3), .int (nI wh)])).length) Slot.unset).toArray = ls at hl ⊢
  have hl : lv_has ls 6 [(0, .ref (a 3)), (1, .int (nI wh))] := hl
  refine lv_aload_n hx hb dX1_tidy_0 rfl (lv_at hl 0 rfl) ?_
  refine lv_iconst (v := nI 0) hx hb dX1_tidy_1 (by decide +kernel) ?_
  refine va_put (D := (dC, dI)) (ci := 1) (v := .int (nI 0)) (ty := .int) (C := RX1) (T := TX1) (N := 4) hx hb hts inX1_tidy tyX1 tyX1_ok nmX1 hown hK hP (nDA hinj) hS 3 rfl rfl 0 (by decide) (hts (.fieldLink RX1 20 "NumberCircuitsModel" "failed" "I") (by decide +kernel)) (fun _ h9 => h9) rfl (by decide +kernel) rfl rfl (Nat.le_of_ble_eq_true rfl) dX1_tidy_2 (fun H locs hP _ hS => ?_)
  have hP : va_P (dC, dI) vwCl (nW a k fn ft gn gt gm (nI 0) o) H := hP
  refine lv_aload_n hx hb dX1_tidy_5 rfl (lv_at hl 0 rfl) ?_
  refine lv_iload_n hx hb dX1_tidy_6 rfl (lv_at hl 1 rfl) ?_
  refine lv_iconst (v := nI 3) hx hb dX1_tidy_7 (by decide +kernel) ?_
  refine vp_callSi (W.runV (As := [.int (nI wh), .int (nI 3)]) (rest := []) ⟨hx, hb, hml, hown, hts⟩ (m_out l dC dI a k fn ft gn gt gm (nI 0) o (nI wh) 3) (cwV 2 hts gX1_tidy_X1_out rfl rfl rfl (by decide +kernel) ⟨Nat.le_of_ble_eq_true rfl, Nat.le_of_ble_eq_true rfl⟩) (nPreV hP hK (va_recv hK hP (ci := 1) (q0 := 3) rfl rfl)) rfl rfl hl.1 rfl (lv_room (Nat.le_of_ble_eq_true rfl)) dX1_tidy_8 ⟨Nat.zero_le _, Nat.zero_le _⟩) (fun r_8_1 er_8_1 => ?_)
  rw [nO_in (by omega) (by decide)] at er_8_1
  subst er_8_1
  refine lv_if_eq (tgt := 20) hx hb dX1_tidy_11 (by decide) (fun _ => ?_) (fun c => absurd c (by decide +kernel))
  refine lv_iconst (v := nI 0) hx hb dX1_tidy_20 (by decide +kernel) ?_
  refine lv_istore_n (lv' := [(2, .int (nI 0)), (0, .ref (a 3)), (1, .int (nI wh))]) hx hb dX1_tidy_21 rfl hl (by decide) rfl (fun ls hl => ?_)
  have hl : lv_has ls 6 [(2, .int (nI (nN (nqT gn) 0))), (0, .ref (a 3)), (1, .int (nI wh))] := hl
  refine lv_iconst (v := nI 0) hx hb dX1_tidy_22 (by decide +kernel) ?_
  refine lv_istore_n (lv' := [(3, .int (nI 0)), (2, .int (nI (nN (nqT gn) 0))), (0, .ref (a 3)), (1, .int (nI wh))]) hx hb dX1_tidy_23 rfl hl (by decide) rfl (fun ls hl => ?_)
  refine nc_loop 8 (fun w H locs ls => va_P (dC, dI) vwCl (nW a k fn ft gn gt gm (nI 0) o) H ∧ va_S (nA0 a) s.heap H locs ∧ lv_has ls 6 [(3, .int (nI w)), (2, .int (nI (nN (nqT gn) w))), (0, .ref (a 3)), (1, .int (nI wh))]) ⟨hP, hS, (lv_sub hl [0, 1, 2, 3] rfl)⟩ ?_
  intro w H locs ls hw hI ih
  obtain ⟨hP, hS, hl⟩ := hI
  refine lv_iload_n hx hb dX1_tidy_24 rfl (lv_at hl 0 rfl) ?_
  refine lv_bipush (v := nI 8) hx hb dX1_tidy_25 (by decide +kernel) ?_
  refine lv_icmp_ge (tgt := 88) hx hb dX1_tidy_27 (by decide) (fun c1 => ?_) (fun c1 => ?_)
  · obtain rfl : w = 8 := nHi (by decide) hw c1
    refine lv_iload_n hx hb dX1_tidy_88 rfl (lv_at hl 1 rfl) ?_
    exact W.iret hx hb hr (fun t ht hW => ⟨⟨_, (), rfl, rfl, by rw [ht]; exact hP, va_K.moved hW.alike hK⟩, hS.F ht⟩) hS.2.2 dX1_tidy_89
  · have hlt : w < 8 := nLo (by decide) hw c1
    obtain ⟨v, hv⟩ : ∃ v : Nat, v = w := ⟨w, rfl⟩
    refine lv_iconst (v := nI 0) hx hb dX1_tidy_30 (by decide +kernel) ?_
    refine lv_istore (lv' := [(4, .int (nI 0)), (3, .int (nI w)), (2, .int (nI (nN (nqT gn) w))), (0, .ref (a 3)), (1, .int (nI wh))]) hx hb dX1_tidy_31 hl (by decide) rfl (fun ls hl => ?_)
    have hl : lv_has ls 6 [(4, .int (nb (!nAll (nqZ gn w) 0))), (3, .int (nI w)), (2, .int (nI (nN (nqT gn) w))), (0, .ref (a 3)), (1, .int (nI wh))] := hl
    refine lv_iconst (v := nI 0) hx hb dX1_tidy_33 (by decide +kernel) ?_
    refine lv_istore (lv' := [(5, .int (nI 0)), (4, .int (nb (!nAll (nqZ gn w) 0))), (3, .int (nI w)), (2, .int (nI (nN (nqT gn) w))), (0, .ref (a 3)), (1, .int (nI wh))]) hx hb dX1_tidy_34 hl (by decide) rfl (fun ls hl => ?_)
    refine nc_loop 1024 (fun v H locs ls => va_P (dC, dI) vwCl (nW a k fn ft gn gt gm (nI 0) o) H ∧ va_S (nA0 a) s.heap H locs ∧ lv_has ls 6 [(5, .int (nI v)), (4, .int (nb (!nAll (nqZ gn w) v))), (3, .int (nI w)), (2, .int (nI (nN (nqT gn) w))), (0, .ref (a 3)), (1, .int (nI wh))]) ⟨hP, hS, (lv_sub hl [0, 1, 2, 3, 4, 5] rfl)⟩ ?_
    intro v H locs ls hvw hI ih2
    obtain ⟨hP, hS, hl⟩ := hI
    refine lv_iload hx hb dX1_tidy_36 (lv_at hl 0 rfl) ?_
    refine lv_sipush (v := nI 1024) hx hb dX1_tidy_38 (by decide +kernel) ?_
    refine lv_icmp_ge (tgt := 69) hx hb dX1_tidy_41 (by decide) (fun c3 => ?_) (fun c3 => ?_)
    · obtain rfl : v = 1024 := nHi (by decide) hvw c3
      refine lv_iload_n hx hb dX1_tidy_69 rfl (lv_at hl 3 rfl) ?_
      refine lv_iload hx hb dX1_tidy_70 (lv_at hl 1 rfl) ?_
      refine lv_if_eq (tgt := 79) hx hb dX1_tidy_72 (by decide) (fun c4 => ?_) (fun c4 => ?_)
      · refine lv_iconst (v := nI 0) hx hb dX1_tidy_79 (by decide +kernel) ?_
        refine lv_iadd hx hb dX1_tidy_80 ?_
        refine lv_topi (fun x_81_2 ex_81_2 => ?_)
        obtain rfl : x_81_2 = nI (nN (nqT gn) (w + 1)) := by rw [ex_81_2]; rw [← nN_s, show nqT gn w = false from nb_f c4]; rfl
        refine lv_istore_n (lv' := [(2, .int (nI (nN (nqT gn) (w + 1)))), (5, .int (nI 1024)), (4, .int (nb (!nAll (nqZ gn w) 1024))), (3, .int (nI w)), (0, .ref (a 3)), (1, .int (nI wh))]) hx hb dX1_tidy_81 rfl hl (by decide) rfl (fun ls hl => ?_)
        refine lv_iinc (v := nI (w + 1)) (lv' := [(3, .int (nI (w + 1))), (2, .int (nI (nN (nqT gn) (w + 1)))), (5, .int (nI 1024)), (4, .int (nb (!nAll (nqZ gn w) 1024))), (0, .ref (a 3)), (1, .int (nI wh))]) hx hb dX1_tidy_82 hl (k := 3) rfl (nI_1 w) (by decide) rfl (fun ls hl => ?_)
        refine lv_goto (tgt := 24) hx hb dX1_tidy_85 (by decide) ?_
        exact ih hlt _ _ _ ⟨hP, hS, (lv_sub hl [0, 1, 4, 5] rfl)⟩
      · refine lv_iconst (v := nI 1) hx hb dX1_tidy_75 (by decide +kernel) ?_
        refine lv_goto (tgt := 80) hx hb dX1_tidy_76 (by decide) ?_
        refine lv_iadd hx hb dX1_tidy_80 ?_
        refine lv_topi (fun x_81_2 ex_81_2 => ?_)
        obtain rfl : x_81_2 = nI (nN (nqT gn) (w + 1)) := by rw [ex_81_2]; rw [← nN_s, show nqT gn w = true from nb_t c4]; rfl
        refine lv_istore_n (lv' := [(2, .int (nI (nN (nqT gn) (w + 1)))), (5, .int (nI 1024)), (4, .int (nb (!nAll (nqZ gn w) 1024))), (3, .int (nI w)), (0, .ref (a 3)), (1, .int (nI wh))]) hx hb dX1_tidy_81 rfl hl (by decide) rfl (fun ls hl => ?_)
        refine lv_iinc (v := nI (w + 1)) (lv' := [(3, .int (nI (w + 1))), (2, .int (nI (nN (nqT gn) (w + 1)))), (5, .int (nI 1024)), (4, .int (nb (!nAll (nqZ gn w) 1024))), (0, .ref (a 3)), (1, .int (nI wh))]) hx hb dX1_tidy_82 hl (k := 3) rfl (nI_1 w) (by decide) rfl (fun ls hl => ?_)
        refine lv_goto (tgt := 24) hx hb dX1_tidy_85 (by decide) ?_
        exact ih hlt _ _ _ ⟨hP, hS, (lv_sub hl [0, 1, 4, 5] rfl)⟩
    · have hlv : v < 1024 := nLo (by decide) hvw c3
      refine lv_aload_n hx hb dX1_tidy_44 rfl (lv_at hl 4 rfl) ?_
      refine va_get (D := (dC, dI)) (ci := 1) (v := .ref (a 4)) (C := RX1) (T := TX1) (N := 4) hx hb hts inX1_tidy hown hK hP 3 rfl rfl 1 (by decide) (hts (.fieldLink RX1 7 "NumberCircuitsModel" "numbers" "[I") (by decide +kernel)) (fun _ h9 => h9) rfl dX1_tidy_45 ?_
      refine lv_sipush (v := nI 1024) hx hb dX1_tidy_48 (by decide +kernel) ?_
      refine lv_iload_n hx hb dX1_tidy_51 rfl (lv_at hl 2 rfl) ?_
      refine lv_imul hx hb dX1_tidy_52 ?_
      refine lv_iload hx hb dX1_tidy_53 (lv_at hl 0 rfl) ?_
      refine lv_iadd hx hb dX1_tidy_55 ?_
      refine lv_topi (fun x_56_2 ex_56_2 => ?_)
      obtain rfl : x_56_2 = nI (1024 * w + v) := by rw [ex_56_2]; rw [pk_mul, nI_add]
      refine va_iald (i := nI (1024 * w + v)) hx hb hK hP 4 2 rfl rfl (vp_in_nI (by omega) (by decide)) dX1_tidy_56 ?_
      refine lv_topi (fun x_57_3 ex_57_3 => ?_)
      obtain rfl : x_57_3 = gn (1024 * w + v) := by rw [ex_57_3]; rw [nI_clamp (show 1024 * w + v < 2 ^ 31 by omega)]
      refine lv_if_eq (tgt := 63) hx hb dX1_tidy_57 (by decide) (fun c4 => ?_) (fun c4 => ?_)
      · refine lv_iinc (v := nI (v + 1)) (lv' := [(5, .int (nI (v + 1))), (4, .int (nb (!nAll (nqZ gn w) v))), (3, .int (nI w)), (2, .int (nI (nN (nqT gn) w))), (0, .ref (a 3)), (1, .int (nI wh))]) hx hb dX1_tidy_63 hl (k := 0) rfl (nI_1 v) (by decide) rfl (fun ls hl => ?_)
        refine lv_goto (tgt := 36) hx hb dX1_tidy_66 (by decide) ?_
        have hl := (lv_sub hl [0, 1, 2, 3, 4, 5] rfl)
        rw [show nAll (nqZ gn w) v = nAll (nqZ gn w) (v + 1) from (nAll_1t (decide_eq_true c4)).symm] at hl
        exact ih2 hlv _ _ _ ⟨hP, hS, hl⟩
      · refine lv_iconst (v := nI 1) hx hb dX1_tidy_60 (by decide +kernel) ?_
        refine lv_istore (lv' := [(4, .int (nI 1)), (5, .int (nI v)), (3, .int (nI w)), (2, .int (nI (nN (nqT gn) w))), (0, .ref (a 3)), (1, .int (nI wh))]) hx hb dX1_tidy_61 hl (by decide) rfl (fun ls hl => ?_)
        refine lv_iinc (v := nI (v + 1)) (lv' := [(5, .int (nI (v + 1))), (4, .int (nI 1)), (3, .int (nI w)), (2, .int (nI (nN (nqT gn) w))), (0, .ref (a 3)), (1, .int (nI wh))]) hx hb dX1_tidy_63 hl (k := 1) rfl (nI_1 v) (by decide) rfl (fun ls hl => ?_)
        refine lv_goto (tgt := 36) hx hb dX1_tidy_66 (by decide) ?_
        have hl := (lv_sub hl [0, 1, 2, 3, 4, 5] rfl)
        rw [show nI 1 = nb (!nAll (nqZ gn w) (v + 1)) by rw [nAll_1f (decide_eq_false c4)]; rfl] at hl
        exact ih2 hlv _ _ _ ⟨hP, hS, hl⟩
end
section
set_option maxHeartbeats 4000000 in
set_option maxRecDepth 100000 in
theorem m_constantB (l : Launch) (dC : Nat → ClassId) (dI : Nat → Nat → Nat) (a : Nat → Nat) (k : Nat → ClassId) (fn ft gn gt gm : Nat → Int32) (fl : Int32) (o : Nat → Int64) (hinj : nInj a) (x1 x2 : Int32) (hbad : (nO x1 8) = true) : Met l yX1_constant wsX1_constant ({ frames := 1, cells := 0, slots := 0, locals := 40 }) (va_Pc [.ref (a 3), .int x1, .int x2] (nPw dC dI a k fn ft gn gt gm fl o)) (nQv (nPw dC dI a k fn ft gn gt gm (nI 1) o) a) 0 0 (nA0 a) := by
  refine Met.ofW (cc := cX1_constant) (maxL := 4) (ret := none) (by decide) rfl ?_
  intro p e s m args below meth c s₁ B hml hv
  obtain ⟨rfl, hP, hK⟩ := hv
  have hx := B.exec
  have hb := B.bytes
  have hr := B.returns
  have hts := atoms_spec (ws := wsX1_constant) B.pre
  have hown : s.vm.findClass RX1 = some m.cls := findClass_of_methodNamed B.named
  have hlocks := B.notSynchronized
  have hS : va_S (nA0 a) s.heap s.heap [] := va_S.rf
  have hl := lv_entry ([.ref (a 3), .int x1, .int x2]) (n := 4) (Nat.le_of_ble_eq_true rfl)
  rw [lg_entry_eq]
  generalize (lg_sl ([.ref (a 3), .int x1, .int x2]) ++ List.replicate (4 - (lg_sl ([.ref (a 3), .int x1, .int x2])).length) Slot.unset).toArray = ls at hl ⊢
  have hl : lv_has ls 4 [(0, .ref (a 3)), (1, .int x1), (2, .int x2)] := hl
  refine lv_aload_n hx hb dX1_constant_0 rfl (lv_at hl 0 rfl) ?_
  refine lv_iconst (v := nI 0) hx hb dX1_constant_1 (by decide +kernel) ?_
  refine va_put (D := (dC, dI)) (ci := 1) (v := .int (nI 0)) (ty := .int) (C := RX1) (T := TX1) (N := 4) hx hb hts inX1_constant tyX1 tyX1_ok nmX1 hown hK hP (nDA hinj) hS 3 rfl rfl 0 (by decide) (hts (.fieldLink RX1 20 "NumberCircuitsModel" "failed" "I") (by decide +kernel)) (fun _ h9 => h9) rfl (by decide +kernel) rfl rfl (Nat.le_of_ble_eq_true rfl) dX1_constant_2 (fun H locs hP _ hS => ?_)
  have hP : va_P (dC, dI) vwCl (nW a k fn ft gn gt gm (nI 0) o) H := hP
  refine lv_aload_n hx hb dX1_constant_5 rfl (lv_at hl 0 rfl) ?_
  refine lv_iload_n hx hb dX1_constant_6 rfl (lv_at hl 1 rfl) ?_
  refine lv_bipush (v := nI 8) hx hb dX1_constant_7 (by decide +kernel) ?_
  refine vp_callSi (W.runV (As := [.int x1, .int (nI 8)]) (rest := []) ⟨hx, hb, hml, hown, hts⟩ (m_out l dC dI a k fn ft gn gt gm (nI 0) o x1 8) (cwV 2 hts gX1_constant_X1_out rfl rfl rfl (by decide +kernel) ⟨Nat.le_of_ble_eq_true rfl, Nat.le_of_ble_eq_true rfl⟩) (nPreV hP hK (va_recv hK hP (ci := 1) (q0 := 3) rfl rfl)) rfl rfl hl.1 rfl (lv_room (Nat.le_of_ble_eq_true rfl)) dX1_constant_9 ⟨Nat.zero_le _, Nat.zero_le _⟩) (fun r_9_1 er_9_1 => ?_)
  subst er_9_1
  refine lv_if_eq (tgt := 23) hx hb dX1_constant_12 (by decide) (fun c0 => ?_) (fun c0 => ?_)
  · exact absurd hbad (by rw [nb_f c0]; decide)
  · refine lv_aload_n hx hb dX1_constant_15 rfl (lv_at hl 0 rfl) ?_
    refine lv_iconst (v := nI 1) hx hb dX1_constant_16 (by decide +kernel) ?_
    refine va_put (D := (dC, dI)) (ci := 1) (v := .int (nI 1)) (ty := .int) (C := RX1) (T := TX1) (N := 4) hx hb hts inX1_constant tyX1 tyX1_ok nmX1 hown hK hP (nDA hinj) hS 3 rfl rfl 0 (by decide) (hts (.fieldLink RX1 20 "NumberCircuitsModel" "failed" "I") (by decide +kernel)) (fun _ h9 => h9) rfl (by decide +kernel) rfl rfl (Nat.le_of_ble_eq_true rfl) dX1_constant_17 (fun H locs hP _ hS => ?_)
    have hP : va_P (dC, dI) vwCl (nW a k fn ft gn gt gm (nI 1) o) H := hP
    refine lv_goto (tgt := 52) hx hb dX1_constant_20 (by decide) ?_
    exact W.vret hx hb hr (fun t ht hW => ⟨⟨(), rfl, trivial, by rw [ht]; exact hP, va_K.moved hW.alike hK⟩, hS.F ht⟩) hS.2.2 dX1_constant_52
set_option maxHeartbeats 4000000 in
set_option maxRecDepth 100000 in
theorem m_unknownB (l : Launch) (dC : Nat → ClassId) (dI : Nat → Nat → Nat) (a : Nat → Nat) (k : Nat → ClassId) (fn ft gn gt gm : Nat → Int32) (fl : Int32) (o : Nat → Int64) (hinj : nInj a) (x1 x2 x3 x4 : Int32) (hbad : (nO x1 8 || nO x2 11 || nO x3 11 || !decide (x2 + x3 ≤ nI 10)) = true) : Met l yX1_unknown wsX1_unknown ({ frames := 1, cells := 0, slots := 0, locals := 40 }) (va_Pc [.ref (a 3), .int x1, .int x2, .int x3, .int x4] (nPw dC dI a k fn ft gn gt gm fl o)) (nQv (nPw dC dI a k fn ft gn gt gm (nI 1) o) a) 0 0 (nA0 a) := by
  refine Met.ofW (cc := cX1_unknown) (maxL := 6) (ret := none) (by decide) rfl ?_
  intro p e s m args below meth c s₁ B hml hv
  obtain ⟨rfl, hP, hK⟩ := hv
  have hx := B.exec
  have hb := B.bytes
  have hr := B.returns
  have hts := atoms_spec (ws := wsX1_unknown) B.pre
  have hown : s.vm.findClass RX1 = some m.cls := findClass_of_methodNamed B.named
  have hlocks := B.notSynchronized
  have hS : va_S (nA0 a) s.heap s.heap [] := va_S.rf
  have hl := lv_entry ([.ref (a 3), .int x1, .int x2, .int x3, .int x4]) (n := 6) (Nat.le_of_ble_eq_true rfl)
  rw [lg_entry_eq]
  generalize (lg_sl ([.ref (a 3), .int x1, .int x2, .int x3, .int x4]) ++ List.replicate (6 - (lg_sl ([.ref (a 3), .int x1, .int x2, .int x3, .int x4])).length) Slot.unset).toArray = ls at hl ⊢
  have hl : lv_has ls 6 [(0, .ref (a 3)), (1, .int x1), (2, .int x2), (3, .int x3), (4, .int x4)] := hl
  refine lv_aload_n hx hb dX1_unknown_0 rfl (lv_at hl 0 rfl) ?_
  refine lv_iconst (v := nI 0) hx hb dX1_unknown_1 (by decide +kernel) ?_
  refine va_put (D := (dC, dI)) (ci := 1) (v := .int (nI 0)) (ty := .int) (C := RX1) (T := TX1) (N := 4) hx hb hts inX1_unknown tyX1 tyX1_ok nmX1 hown hK hP (nDA hinj) hS 3 rfl rfl 0 (by decide) (hts (.fieldLink RX1 20 "NumberCircuitsModel" "failed" "I") (by decide +kernel)) (fun _ h9 => h9) rfl (by decide +kernel) rfl rfl (Nat.le_of_ble_eq_true rfl) dX1_unknown_2 (fun H locs hP _ hS => ?_)
  have hP : va_P (dC, dI) vwCl (nW a k fn ft gn gt gm (nI 0) o) H := hP
  refine lv_aload_n hx hb dX1_unknown_5 rfl (lv_at hl 0 rfl) ?_
  refine lv_iload_n hx hb dX1_unknown_6 rfl (lv_at hl 1 rfl) ?_
  refine lv_bipush (v := nI 8) hx hb dX1_unknown_7 (by decide +kernel) ?_
  refine vp_callSi (W.runV (As := [.int x1, .int (nI 8)]) (rest := []) ⟨hx, hb, hml, hown, hts⟩ (m_out l dC dI a k fn ft gn gt gm (nI 0) o x1 8) (cwV 2 hts gX1_unknown_X1_out rfl rfl rfl (by decide +kernel) ⟨Nat.le_of_ble_eq_true rfl, Nat.le_of_ble_eq_true rfl⟩) (nPreV hP hK (va_recv hK hP (ci := 1) (q0 := 3) rfl rfl)) rfl rfl hl.1 rfl (lv_room (Nat.le_of_ble_eq_true rfl)) dX1_unknown_9 ⟨Nat.zero_le _, Nat.zero_le _⟩) (fun r_9_1 er_9_1 => ?_)
  subst er_9_1
  refine lv_if_ne (tgt := 43) hx hb dX1_unknown_12 (by decide) (fun c0 => ?_) (fun c0 => ?_)
  · refine lv_aload_n hx hb dX1_unknown_43 rfl (lv_at hl 0 rfl) ?_
    refine lv_iconst (v := nI 1) hx hb dX1_unknown_44 (by decide +kernel) ?_
    refine va_put (D := (dC, dI)) (ci := 1) (v := .int (nI 1)) (ty := .int) (C := RX1) (T := TX1) (N := 4) hx hb hts inX1_unknown tyX1 tyX1_ok nmX1 hown hK hP (nDA hinj) hS 3 rfl rfl 0 (by decide) (hts (.fieldLink RX1 20 "NumberCircuitsModel" "failed" "I") (by decide +kernel)) (fun _ h9 => h9) rfl (by decide +kernel) rfl rfl (Nat.le_of_ble_eq_true rfl) dX1_unknown_45 (fun H locs hP _ hS => ?_)
    have hP : va_P (dC, dI) vwCl (nW a k fn ft gn gt gm (nI 1) o) H := hP
    refine lv_goto (tgt := 95) hx hb dX1_unknown_48 (by decide) ?_
    exact W.vret hx hb hr (fun t ht hW => ⟨⟨(), rfl, trivial, by rw [ht]; exact hP, va_K.moved hW.alike hK⟩, hS.F ht⟩) hS.2.2 dX1_unknown_95
  · refine lv_aload_n hx hb dX1_unknown_15 rfl (lv_at hl 0 rfl) ?_
    refine lv_iload_n hx hb dX1_unknown_16 rfl (lv_at hl 2 rfl) ?_
    refine lv_bipush (v := nI 11) hx hb dX1_unknown_17 (by decide +kernel) ?_
    refine vp_callSi (W.runV (As := [.int x2, .int (nI 11)]) (rest := []) ⟨hx, hb, hml, hown, hts⟩ (m_out l dC dI a k fn ft gn gt gm (nI 0) o x2 11) (cwV 2 hts gX1_unknown_X1_out rfl rfl rfl (by decide +kernel) ⟨Nat.le_of_ble_eq_true rfl, Nat.le_of_ble_eq_true rfl⟩) (nPreV hP hK (va_recv hK hP (ci := 1) (q0 := 3) rfl rfl)) rfl rfl hl.1 rfl (lv_room (Nat.le_of_ble_eq_true rfl)) dX1_unknown_19 ⟨Nat.zero_le _, Nat.zero_le _⟩) (fun r_19_2 er_19_2 => ?_)
    subst er_19_2
    refine lv_if_ne (tgt := 43) hx hb dX1_unknown_22 (by decide) (fun c1 => ?_) (fun c1 => ?_)
    · refine lv_aload_n hx hb dX1_unknown_43 rfl (lv_at hl 0 rfl) ?_
      refine lv_iconst (v := nI 1) hx hb dX1_unknown_44 (by decide +kernel) ?_
      refine va_put (D := (dC, dI)) (ci := 1) (v := .int (nI 1)) (ty := .int) (C := RX1) (T := TX1) (N := 4) hx hb hts inX1_unknown tyX1 tyX1_ok nmX1 hown hK hP (nDA hinj) hS 3 rfl rfl 0 (by decide) (hts (.fieldLink RX1 20 "NumberCircuitsModel" "failed" "I") (by decide +kernel)) (fun _ h9 => h9) rfl (by decide +kernel) rfl rfl (Nat.le_of_ble_eq_true rfl) dX1_unknown_45 (fun H locs hP _ hS => ?_)
      have hP : va_P (dC, dI) vwCl (nW a k fn ft gn gt gm (nI 1) o) H := hP
      refine lv_goto (tgt := 95) hx hb dX1_unknown_48 (by decide) ?_
      exact W.vret hx hb hr (fun t ht hW => ⟨⟨(), rfl, trivial, by rw [ht]; exact hP, va_K.moved hW.alike hK⟩, hS.F ht⟩) hS.2.2 dX1_unknown_95
    · refine lv_aload_n hx hb dX1_unknown_25 rfl (lv_at hl 0 rfl) ?_
      refine lv_iload_n hx hb dX1_unknown_26 rfl (lv_at hl 3 rfl) ?_
      refine lv_bipush (v := nI 11) hx hb dX1_unknown_27 (by decide +kernel) ?_
      refine vp_callSi (W.runV (As := [.int x3, .int (nI 11)]) (rest := []) ⟨hx, hb, hml, hown, hts⟩ (m_out l dC dI a k fn ft gn gt gm (nI 0) o x3 11) (cwV 2 hts gX1_unknown_X1_out rfl rfl rfl (by decide +kernel) ⟨Nat.le_of_ble_eq_true rfl, Nat.le_of_ble_eq_true rfl⟩) (nPreV hP hK (va_recv hK hP (ci := 1) (q0 := 3) rfl rfl)) rfl rfl hl.1 rfl (lv_room (Nat.le_of_ble_eq_true rfl)) dX1_unknown_29 ⟨Nat.zero_le _, Nat.zero_le _⟩) (fun r_29_3 er_29_3 => ?_)
      subst er_29_3
      refine lv_if_ne (tgt := 43) hx hb dX1_unknown_32 (by decide) (fun c2 => ?_) (fun c2 => ?_)
      · refine lv_aload_n hx hb dX1_unknown_43 rfl (lv_at hl 0 rfl) ?_
        refine lv_iconst (v := nI 1) hx hb dX1_unknown_44 (by decide +kernel) ?_
        refine va_put (D := (dC, dI)) (ci := 1) (v := .int (nI 1)) (ty := .int) (C := RX1) (T := TX1) (N := 4) hx hb hts inX1_unknown tyX1 tyX1_ok nmX1 hown hK hP (nDA hinj) hS 3 rfl rfl 0 (by decide) (hts (.fieldLink RX1 20 "NumberCircuitsModel" "failed" "I") (by decide +kernel)) (fun _ h9 => h9) rfl (by decide +kernel) rfl rfl (Nat.le_of_ble_eq_true rfl) dX1_unknown_45 (fun H locs hP _ hS => ?_)
        have hP : va_P (dC, dI) vwCl (nW a k fn ft gn gt gm (nI 1) o) H := hP
        refine lv_goto (tgt := 95) hx hb dX1_unknown_48 (by decide) ?_
        exact W.vret hx hb hr (fun t ht hW => ⟨⟨(), rfl, trivial, by rw [ht]; exact hP, va_K.moved hW.alike hK⟩, hS.F ht⟩) hS.2.2 dX1_unknown_95
      · refine lv_iload_n hx hb dX1_unknown_35 rfl (lv_at hl 2 rfl) ?_
        refine lv_iload_n hx hb dX1_unknown_36 rfl (lv_at hl 3 rfl) ?_
        refine lv_iadd hx hb dX1_unknown_37 ?_
        refine lv_bipush (v := nI 10) hx hb dX1_unknown_38 (by decide +kernel) ?_
        refine lv_icmp_le (tgt := 51) hx hb dX1_unknown_40 (by decide) (fun ce => ?_) (fun ce => ?_)
        · exact absurd hbad (by rw [nb_f c0, nb_f c1, nb_f c2, decide_eq_true ce]; decide)
        · refine lv_aload_n hx hb dX1_unknown_43 rfl (lv_at hl 0 rfl) ?_
          refine lv_iconst (v := nI 1) hx hb dX1_unknown_44 (by decide +kernel) ?_
          refine va_put (D := (dC, dI)) (ci := 1) (v := .int (nI 1)) (ty := .int) (C := RX1) (T := TX1) (N := 4) hx hb hts inX1_unknown tyX1 tyX1_ok nmX1 hown hK hP (nDA hinj) hS 3 rfl rfl 0 (by decide) (hts (.fieldLink RX1 20 "NumberCircuitsModel" "failed" "I") (by decide +kernel)) (fun _ h9 => h9) rfl (by decide +kernel) rfl rfl (Nat.le_of_ble_eq_true rfl) dX1_unknown_45 (fun H locs hP _ hS => ?_)
          have hP : va_P (dC, dI) vwCl (nW a k fn ft gn gt gm (nI 1) o) H := hP
          refine lv_goto (tgt := 95) hx hb dX1_unknown_48 (by decide) ?_
          exact W.vret hx hb hr (fun t ht hW => ⟨⟨(), rfl, trivial, by rw [ht]; exact hP, va_K.moved hW.alike hK⟩, hS.F ht⟩) hS.2.2 dX1_unknown_95
set_option maxHeartbeats 4000000 in
set_option maxRecDepth 100000 in
theorem m_reckonB (l : Launch) (dC : Nat → ClassId) (dI : Nat → Nat → Nat) (a : Nat → Nat) (k : Nat → ClassId) (fn ft gn gt gm : Nat → Int32) (fl : Int32) (o : Nat → Int64) (hinj : nInj a) (x1 x2 x3 x4 : Int32) (hbad : (nO x1 8 || nO x2 6 || nO x3 8 || nO x4 8) = true) : Met l yX1_reckon wsX1_reckon ({ frames := 1, cells := 0, slots := 0, locals := 40 }) (va_Pc [.ref (a 3), .int x1, .int x2, .int x3, .int x4] (nPw dC dI a k fn ft gn gt gm fl o)) (nQv (nPw dC dI a k fn ft gn gt gm (nI 1) o) a) 0 0 (nA0 a) := by
  refine Met.ofW (cc := cX1_reckon) (maxL := 6) (ret := none) (by decide) rfl ?_
  intro p e s m args below meth c s₁ B hml hv
  obtain ⟨rfl, hP, hK⟩ := hv
  have hx := B.exec
  have hb := B.bytes
  have hr := B.returns
  have hts := atoms_spec (ws := wsX1_reckon) B.pre
  have hown : s.vm.findClass RX1 = some m.cls := findClass_of_methodNamed B.named
  have hlocks := B.notSynchronized
  have hS : va_S (nA0 a) s.heap s.heap [] := va_S.rf
  have hl := lv_entry ([.ref (a 3), .int x1, .int x2, .int x3, .int x4]) (n := 6) (Nat.le_of_ble_eq_true rfl)
  rw [lg_entry_eq]
  generalize (lg_sl ([.ref (a 3), .int x1, .int x2, .int x3, .int x4]) ++ List.replicate (6 - (lg_sl ([.ref (a 3), .int x1, .int x2, .int x3, .int x4])).length) Slot.unset).toArray = ls at hl ⊢
  have hl : lv_has ls 6 [(0, .ref (a 3)), (1, .int x1), (2, .int x2), (3, .int x3), (4, .int x4)] := hl
  refine lv_aload_n hx hb dX1_reckon_0 rfl (lv_at hl 0 rfl) ?_
  refine lv_iconst (v := nI 0) hx hb dX1_reckon_1 (by decide +kernel) ?_
  refine va_put (D := (dC, dI)) (ci := 1) (v := .int (nI 0)) (ty := .int) (C := RX1) (T := TX1) (N := 4) hx hb hts inX1_reckon tyX1 tyX1_ok nmX1 hown hK hP (nDA hinj) hS 3 rfl rfl 0 (by decide) (hts (.fieldLink RX1 20 "NumberCircuitsModel" "failed" "I") (by decide +kernel)) (fun _ h9 => h9) rfl (by decide +kernel) rfl rfl (Nat.le_of_ble_eq_true rfl) dX1_reckon_2 (fun H locs hP _ hS => ?_)
  have hP : va_P (dC, dI) vwCl (nW a k fn ft gn gt gm (nI 0) o) H := hP
  refine lv_aload_n hx hb dX1_reckon_5 rfl (lv_at hl 0 rfl) ?_
  refine lv_iload_n hx hb dX1_reckon_6 rfl (lv_at hl 1 rfl) ?_
  refine lv_bipush (v := nI 8) hx hb dX1_reckon_7 (by decide +kernel) ?_
  refine vp_callSi (W.runV (As := [.int x1, .int (nI 8)]) (rest := []) ⟨hx, hb, hml, hown, hts⟩ (m_out l dC dI a k fn ft gn gt gm (nI 0) o x1 8) (cwV 2 hts gX1_reckon_X1_out rfl rfl rfl (by decide +kernel) ⟨Nat.le_of_ble_eq_true rfl, Nat.le_of_ble_eq_true rfl⟩) (nPreV hP hK (va_recv hK hP (ci := 1) (q0 := 3) rfl rfl)) rfl rfl hl.1 rfl (lv_room (Nat.le_of_ble_eq_true rfl)) dX1_reckon_9 ⟨Nat.zero_le _, Nat.zero_le _⟩) (fun r_9_1 er_9_1 => ?_)
  subst er_9_1
  refine lv_if_ne (tgt := 46) hx hb dX1_reckon_12 (by decide) (fun c0 => ?_) (fun c0 => ?_)
  · refine lv_aload_n hx hb dX1_reckon_46 rfl (lv_at hl 0 rfl) ?_
    refine lv_iconst (v := nI 1) hx hb dX1_reckon_47 (by decide +kernel) ?_
    refine va_put (D := (dC, dI)) (ci := 1) (v := .int (nI 1)) (ty := .int) (C := RX1) (T := TX1) (N := 4) hx hb hts inX1_reckon tyX1 tyX1_ok nmX1 hown hK hP (nDA hinj) hS 3 rfl rfl 0 (by decide) (hts (.fieldLink RX1 20 "NumberCircuitsModel" "failed" "I") (by decide +kernel)) (fun _ h9 => h9) rfl (by decide +kernel) rfl rfl (Nat.le_of_ble_eq_true rfl) dX1_reckon_48 (fun H locs hP _ hS => ?_)
    have hP : va_P (dC, dI) vwCl (nW a k fn ft gn gt gm (nI 1) o) H := hP
    refine lv_goto (tgt := 147) hx hb dX1_reckon_51 (by decide) ?_
    exact W.vret hx hb hr (fun t ht hW => ⟨⟨(), rfl, trivial, by rw [ht]; exact hP, va_K.moved hW.alike hK⟩, hS.F ht⟩) hS.2.2 dX1_reckon_147
  · refine lv_aload_n hx hb dX1_reckon_15 rfl (lv_at hl 0 rfl) ?_
    refine lv_iload_n hx hb dX1_reckon_16 rfl (lv_at hl 2 rfl) ?_
    refine lv_bipush (v := nI 6) hx hb dX1_reckon_17 (by decide +kernel) ?_
    refine vp_callSi (W.runV (As := [.int x2, .int (nI 6)]) (rest := []) ⟨hx, hb, hml, hown, hts⟩ (m_out l dC dI a k fn ft gn gt gm (nI 0) o x2 6) (cwV 2 hts gX1_reckon_X1_out rfl rfl rfl (by decide +kernel) ⟨Nat.le_of_ble_eq_true rfl, Nat.le_of_ble_eq_true rfl⟩) (nPreV hP hK (va_recv hK hP (ci := 1) (q0 := 3) rfl rfl)) rfl rfl hl.1 rfl (lv_room (Nat.le_of_ble_eq_true rfl)) dX1_reckon_19 ⟨Nat.zero_le _, Nat.zero_le _⟩) (fun r_19_2 er_19_2 => ?_)
    subst er_19_2
    refine lv_if_ne (tgt := 46) hx hb dX1_reckon_22 (by decide) (fun c1 => ?_) (fun c1 => ?_)
    · refine lv_aload_n hx hb dX1_reckon_46 rfl (lv_at hl 0 rfl) ?_
      refine lv_iconst (v := nI 1) hx hb dX1_reckon_47 (by decide +kernel) ?_
      refine va_put (D := (dC, dI)) (ci := 1) (v := .int (nI 1)) (ty := .int) (C := RX1) (T := TX1) (N := 4) hx hb hts inX1_reckon tyX1 tyX1_ok nmX1 hown hK hP (nDA hinj) hS 3 rfl rfl 0 (by decide) (hts (.fieldLink RX1 20 "NumberCircuitsModel" "failed" "I") (by decide +kernel)) (fun _ h9 => h9) rfl (by decide +kernel) rfl rfl (Nat.le_of_ble_eq_true rfl) dX1_reckon_48 (fun H locs hP _ hS => ?_)
      have hP : va_P (dC, dI) vwCl (nW a k fn ft gn gt gm (nI 1) o) H := hP
      refine lv_goto (tgt := 147) hx hb dX1_reckon_51 (by decide) ?_
      exact W.vret hx hb hr (fun t ht hW => ⟨⟨(), rfl, trivial, by rw [ht]; exact hP, va_K.moved hW.alike hK⟩, hS.F ht⟩) hS.2.2 dX1_reckon_147
    · refine lv_aload_n hx hb dX1_reckon_25 rfl (lv_at hl 0 rfl) ?_
      refine lv_iload_n hx hb dX1_reckon_26 rfl (lv_at hl 3 rfl) ?_
      refine lv_bipush (v := nI 8) hx hb dX1_reckon_27 (by decide +kernel) ?_
      refine vp_callSi (W.runV (As := [.int x3, .int (nI 8)]) (rest := []) ⟨hx, hb, hml, hown, hts⟩ (m_out l dC dI a k fn ft gn gt gm (nI 0) o x3 8) (cwV 2 hts gX1_reckon_X1_out rfl rfl rfl (by decide +kernel) ⟨Nat.le_of_ble_eq_true rfl, Nat.le_of_ble_eq_true rfl⟩) (nPreV hP hK (va_recv hK hP (ci := 1) (q0 := 3) rfl rfl)) rfl rfl hl.1 rfl (lv_room (Nat.le_of_ble_eq_true rfl)) dX1_reckon_29 ⟨Nat.zero_le _, Nat.zero_le _⟩) (fun r_29_3 er_29_3 => ?_)
      subst er_29_3
      refine lv_if_ne (tgt := 46) hx hb dX1_reckon_32 (by decide) (fun c2 => ?_) (fun c2 => ?_)
      · refine lv_aload_n hx hb dX1_reckon_46 rfl (lv_at hl 0 rfl) ?_
        refine lv_iconst (v := nI 1) hx hb dX1_reckon_47 (by decide +kernel) ?_
        refine va_put (D := (dC, dI)) (ci := 1) (v := .int (nI 1)) (ty := .int) (C := RX1) (T := TX1) (N := 4) hx hb hts inX1_reckon tyX1 tyX1_ok nmX1 hown hK hP (nDA hinj) hS 3 rfl rfl 0 (by decide) (hts (.fieldLink RX1 20 "NumberCircuitsModel" "failed" "I") (by decide +kernel)) (fun _ h9 => h9) rfl (by decide +kernel) rfl rfl (Nat.le_of_ble_eq_true rfl) dX1_reckon_48 (fun H locs hP _ hS => ?_)
        have hP : va_P (dC, dI) vwCl (nW a k fn ft gn gt gm (nI 1) o) H := hP
        refine lv_goto (tgt := 147) hx hb dX1_reckon_51 (by decide) ?_
        exact W.vret hx hb hr (fun t ht hW => ⟨⟨(), rfl, trivial, by rw [ht]; exact hP, va_K.moved hW.alike hK⟩, hS.F ht⟩) hS.2.2 dX1_reckon_147
      · refine lv_aload_n hx hb dX1_reckon_35 rfl (lv_at hl 0 rfl) ?_
        refine lv_iload hx hb dX1_reckon_36 (lv_at hl 4 rfl) ?_
        refine lv_bipush (v := nI 8) hx hb dX1_reckon_38 (by decide +kernel) ?_
        refine vp_callSi (W.runV (As := [.int x4, .int (nI 8)]) (rest := []) ⟨hx, hb, hml, hown, hts⟩ (m_out l dC dI a k fn ft gn gt gm (nI 0) o x4 8) (cwV 2 hts gX1_reckon_X1_out rfl rfl rfl (by decide +kernel) ⟨Nat.le_of_ble_eq_true rfl, Nat.le_of_ble_eq_true rfl⟩) (nPreV hP hK (va_recv hK hP (ci := 1) (q0 := 3) rfl rfl)) rfl rfl hl.1 rfl (lv_room (Nat.le_of_ble_eq_true rfl)) dX1_reckon_40 ⟨Nat.zero_le _, Nat.zero_le _⟩) (fun r_40_4 er_40_4 => ?_)
        subst er_40_4
        refine lv_if_eq (tgt := 54) hx hb dX1_reckon_43 (by decide) (fun c3 => ?_) (fun c3 => ?_)
        · exact absurd hbad (by rw [nb_f c0, nb_f c1, nb_f c2, nb_f c3]; decide)
        · refine lv_aload_n hx hb dX1_reckon_46 rfl (lv_at hl 0 rfl) ?_
          refine lv_iconst (v := nI 1) hx hb dX1_reckon_47 (by decide +kernel) ?_
          refine va_put (D := (dC, dI)) (ci := 1) (v := .int (nI 1)) (ty := .int) (C := RX1) (T := TX1) (N := 4) hx hb hts inX1_reckon tyX1 tyX1_ok nmX1 hown hK hP (nDA hinj) hS 3 rfl rfl 0 (by decide) (hts (.fieldLink RX1 20 "NumberCircuitsModel" "failed" "I") (by decide +kernel)) (fun _ h9 => h9) rfl (by decide +kernel) rfl rfl (Nat.le_of_ble_eq_true rfl) dX1_reckon_48 (fun H locs hP _ hS => ?_)
          have hP : va_P (dC, dI) vwCl (nW a k fn ft gn gt gm (nI 1) o) H := hP
          refine lv_goto (tgt := 147) hx hb dX1_reckon_51 (by decide) ?_
          exact W.vret hx hb hr (fun t ht hW => ⟨⟨(), rfl, trivial, by rw [ht]; exact hP, va_K.moved hW.alike hK⟩, hS.F ht⟩) hS.2.2 dX1_reckon_147
set_option maxHeartbeats 4000000 in
set_option maxRecDepth 100000 in
theorem m_compareB (l : Launch) (dC : Nat → ClassId) (dI : Nat → Nat → Nat) (a : Nat → Nat) (k : Nat → ClassId) (fn ft gn gt gm : Nat → Int32) (fl : Int32) (o : Nat → Int64) (hinj : nInj a) (x1 x2 x3 x4 : Int32) (hbad : (nO x1 8 || nO x2 4 || nO x3 8 || nO x4 8) = true) : Met l yX1_compare wsX1_compare ({ frames := 1, cells := 0, slots := 0, locals := 40 }) (va_Pc [.ref (a 3), .int x1, .int x2, .int x3, .int x4] (nPw dC dI a k fn ft gn gt gm fl o)) (nQi (nI 0) (nPw dC dI a k fn ft gn gt gm (nI 1) o) a) 0 0 (nA0 a) := by
  refine Met.ofW (cc := cX1_compare) (maxL := 8) (ret := (some .int)) (by decide) rfl ?_
  intro p e s m args below meth c s₁ B hml hv
  obtain ⟨rfl, hP, hK⟩ := hv
  have hx := B.exec
  have hb := B.bytes
  have hr := B.returns
  have hts := atoms_spec (ws := wsX1_compare) B.pre
  have hown : s.vm.findClass RX1 = some m.cls := findClass_of_methodNamed B.named
  have hlocks := B.notSynchronized
  have hS : va_S (nA0 a) s.heap s.heap [] := va_S.rf
  have hl := lv_entry ([.ref (a 3), .int x1, .int x2, .int x3, .int x4]) (n := 8) (Nat.le_of_ble_eq_true rfl)
  rw [lg_entry_eq]
  generalize (lg_sl ([.ref (a 3), .int x1, .int x2, .int x3, .int x4]) ++ List.replicate (8 - (lg_sl ([.ref (a 3), .int x1, .int x2, .int x3, .int x4])).length) Slot.unset).toArray = ls at hl ⊢
  have hl : lv_has ls 8 [(0, .ref (a 3)), (1, .int x1), (2, .int x2), (3, .int x3), (4, .int x4)] := hl
  refine lv_aload_n hx hb dX1_compare_0 rfl (lv_at hl 0 rfl) ?_
  refine lv_iconst (v := nI 0) hx hb dX1_compare_1 (by decide +kernel) ?_
  refine va_put (D := (dC, dI)) (ci := 1) (v := .int (nI 0)) (ty := .int) (C := RX1) (T := TX1) (N := 4) hx hb hts inX1_compare tyX1 tyX1_ok nmX1 hown hK hP (nDA hinj) hS 3 rfl rfl 0 (by decide) (hts (.fieldLink RX1 20 "NumberCircuitsModel" "failed" "I") (by decide +kernel)) (fun _ h9 => h9) rfl (by decide +kernel) rfl rfl (Nat.le_of_ble_eq_true rfl) dX1_compare_2 (fun H locs hP _ hS => ?_)
  have hP : va_P (dC, dI) vwCl (nW a k fn ft gn gt gm (nI 0) o) H := hP
  refine lv_aload_n hx hb dX1_compare_5 rfl (lv_at hl 0 rfl) ?_
  refine lv_iload_n hx hb dX1_compare_6 rfl (lv_at hl 1 rfl) ?_
  refine lv_bipush (v := nI 8) hx hb dX1_compare_7 (by decide +kernel) ?_
  refine vp_callSi (W.runV (As := [.int x1, .int (nI 8)]) (rest := []) ⟨hx, hb, hml, hown, hts⟩ (m_out l dC dI a k fn ft gn gt gm (nI 0) o x1 8) (cwV 2 hts gX1_compare_X1_out rfl rfl rfl (by decide +kernel) ⟨Nat.le_of_ble_eq_true rfl, Nat.le_of_ble_eq_true rfl⟩) (nPreV hP hK (va_recv hK hP (ci := 1) (q0 := 3) rfl rfl)) rfl rfl hl.1 rfl (lv_room (Nat.le_of_ble_eq_true rfl)) dX1_compare_9 ⟨Nat.zero_le _, Nat.zero_le _⟩) (fun r_9_1 er_9_1 => ?_)
  subst er_9_1
  refine lv_if_ne (tgt := 45) hx hb dX1_compare_12 (by decide) (fun c0 => ?_) (fun c0 => ?_)
  · refine lv_aload_n hx hb dX1_compare_45 rfl (lv_at hl 0 rfl) ?_
    refine lv_iconst (v := nI 1) hx hb dX1_compare_46 (by decide +kernel) ?_
    refine va_calli (va_runV (As := [.int (nI 1)]) (rest := []) ⟨hx, hb, hml, hown, hts⟩ (m_fail l dC dI a k fn ft gn gt gm (nI 0) o hinj (nI 1)) (cwV 1 hts gX1_compare_X1_fail rfl rfl rfl (by decide +kernel) ⟨Nat.le_of_ble_eq_true rfl, Nat.le_of_ble_eq_true rfl⟩) (nPreV hP hK (va_recv hK hP (ci := 1) (q0 := 3) rfl rfl)) rfl rfl hl.1 rfl (lv_room (Nat.le_of_ble_eq_true rfl)) dX1_compare_47 ⟨Nat.zero_le _, Nat.zero_le _⟩) hS (fun _ _ h => h) (fun _ h => h) (fun r_47_2 _ t H locs ht hvm er_47_2 hB _ _ hS => ?_)
    subst er_47_2
    have hP : va_P (dC, dI) vwCl (nW a k fn ft gn gt gm (nI 1) o) H := by rw [← ht]; exact hB.1
    exact W.iret hx hb hr (fun t ht hW => ⟨⟨_, (), rfl, rfl, by rw [ht]; exact hP, va_K.moved hW.alike hK⟩, hS.F ht⟩) hS.2.2 dX1_compare_50
  · refine lv_aload_n hx hb dX1_compare_15 rfl (lv_at hl 0 rfl) ?_
    refine lv_iload_n hx hb dX1_compare_16 rfl (lv_at hl 2 rfl) ?_
    refine lv_iconst (v := nI 4) hx hb dX1_compare_17 (by decide +kernel) ?_
    refine vp_callSi (W.runV (As := [.int x2, .int (nI 4)]) (rest := []) ⟨hx, hb, hml, hown, hts⟩ (m_out l dC dI a k fn ft gn gt gm (nI 0) o x2 4) (cwV 2 hts gX1_compare_X1_out rfl rfl rfl (by decide +kernel) ⟨Nat.le_of_ble_eq_true rfl, Nat.le_of_ble_eq_true rfl⟩) (nPreV hP hK (va_recv hK hP (ci := 1) (q0 := 3) rfl rfl)) rfl rfl hl.1 rfl (lv_room (Nat.le_of_ble_eq_true rfl)) dX1_compare_18 ⟨Nat.zero_le _, Nat.zero_le _⟩) (fun r_18_2 er_18_2 => ?_)
    subst er_18_2
    refine lv_if_ne (tgt := 45) hx hb dX1_compare_21 (by decide) (fun c1 => ?_) (fun c1 => ?_)
    · refine lv_aload_n hx hb dX1_compare_45 rfl (lv_at hl 0 rfl) ?_
      refine lv_iconst (v := nI 1) hx hb dX1_compare_46 (by decide +kernel) ?_
      refine va_calli (va_runV (As := [.int (nI 1)]) (rest := []) ⟨hx, hb, hml, hown, hts⟩ (m_fail l dC dI a k fn ft gn gt gm (nI 0) o hinj (nI 1)) (cwV 1 hts gX1_compare_X1_fail rfl rfl rfl (by decide +kernel) ⟨Nat.le_of_ble_eq_true rfl, Nat.le_of_ble_eq_true rfl⟩) (nPreV hP hK (va_recv hK hP (ci := 1) (q0 := 3) rfl rfl)) rfl rfl hl.1 rfl (lv_room (Nat.le_of_ble_eq_true rfl)) dX1_compare_47 ⟨Nat.zero_le _, Nat.zero_le _⟩) hS (fun _ _ h => h) (fun _ h => h) (fun r_47_3 _ t H locs ht hvm er_47_3 hB _ _ hS => ?_)
      subst er_47_3
      have hP : va_P (dC, dI) vwCl (nW a k fn ft gn gt gm (nI 1) o) H := by rw [← ht]; exact hB.1
      exact W.iret hx hb hr (fun t ht hW => ⟨⟨_, (), rfl, rfl, by rw [ht]; exact hP, va_K.moved hW.alike hK⟩, hS.F ht⟩) hS.2.2 dX1_compare_50
    · refine lv_aload_n hx hb dX1_compare_24 rfl (lv_at hl 0 rfl) ?_
      refine lv_iload_n hx hb dX1_compare_25 rfl (lv_at hl 3 rfl) ?_
      refine lv_bipush (v := nI 8) hx hb dX1_compare_26 (by decide +kernel) ?_
      refine vp_callSi (W.runV (As := [.int x3, .int (nI 8)]) (rest := []) ⟨hx, hb, hml, hown, hts⟩ (m_out l dC dI a k fn ft gn gt gm (nI 0) o x3 8) (cwV 2 hts gX1_compare_X1_out rfl rfl rfl (by decide +kernel) ⟨Nat.le_of_ble_eq_true rfl, Nat.le_of_ble_eq_true rfl⟩) (nPreV hP hK (va_recv hK hP (ci := 1) (q0 := 3) rfl rfl)) rfl rfl hl.1 rfl (lv_room (Nat.le_of_ble_eq_true rfl)) dX1_compare_28 ⟨Nat.zero_le _, Nat.zero_le _⟩) (fun r_28_3 er_28_3 => ?_)
      subst er_28_3
      refine lv_if_ne (tgt := 45) hx hb dX1_compare_31 (by decide) (fun c2 => ?_) (fun c2 => ?_)
      · refine lv_aload_n hx hb dX1_compare_45 rfl (lv_at hl 0 rfl) ?_
        refine lv_iconst (v := nI 1) hx hb dX1_compare_46 (by decide +kernel) ?_
        refine va_calli (va_runV (As := [.int (nI 1)]) (rest := []) ⟨hx, hb, hml, hown, hts⟩ (m_fail l dC dI a k fn ft gn gt gm (nI 0) o hinj (nI 1)) (cwV 1 hts gX1_compare_X1_fail rfl rfl rfl (by decide +kernel) ⟨Nat.le_of_ble_eq_true rfl, Nat.le_of_ble_eq_true rfl⟩) (nPreV hP hK (va_recv hK hP (ci := 1) (q0 := 3) rfl rfl)) rfl rfl hl.1 rfl (lv_room (Nat.le_of_ble_eq_true rfl)) dX1_compare_47 ⟨Nat.zero_le _, Nat.zero_le _⟩) hS (fun _ _ h => h) (fun _ h => h) (fun r_47_4 _ t H locs ht hvm er_47_4 hB _ _ hS => ?_)
        subst er_47_4
        have hP : va_P (dC, dI) vwCl (nW a k fn ft gn gt gm (nI 1) o) H := by rw [← ht]; exact hB.1
        exact W.iret hx hb hr (fun t ht hW => ⟨⟨_, (), rfl, rfl, by rw [ht]; exact hP, va_K.moved hW.alike hK⟩, hS.F ht⟩) hS.2.2 dX1_compare_50
      · refine lv_aload_n hx hb dX1_compare_34 rfl (lv_at hl 0 rfl) ?_
        refine lv_iload hx hb dX1_compare_35 (lv_at hl 4 rfl) ?_
        refine lv_bipush (v := nI 8) hx hb dX1_compare_37 (by decide +kernel) ?_
        refine vp_callSi (W.runV (As := [.int x4, .int (nI 8)]) (rest := []) ⟨hx, hb, hml, hown, hts⟩ (m_out l dC dI a k fn ft gn gt gm (nI 0) o x4 8) (cwV 2 hts gX1_compare_X1_out rfl rfl rfl (by decide +kernel) ⟨Nat.le_of_ble_eq_true rfl, Nat.le_of_ble_eq_true rfl⟩) (nPreV hP hK (va_recv hK hP (ci := 1) (q0 := 3) rfl rfl)) rfl rfl hl.1 rfl (lv_room (Nat.le_of_ble_eq_true rfl)) dX1_compare_39 ⟨Nat.zero_le _, Nat.zero_le _⟩) (fun r_39_4 er_39_4 => ?_)
        subst er_39_4
        refine lv_if_eq (tgt := 51) hx hb dX1_compare_42 (by decide) (fun c3 => ?_) (fun c3 => ?_)
        · exact absurd hbad (by rw [nb_f c0, nb_f c1, nb_f c2, nb_f c3]; decide)
        · refine lv_aload_n hx hb dX1_compare_45 rfl (lv_at hl 0 rfl) ?_
          refine lv_iconst (v := nI 1) hx hb dX1_compare_46 (by decide +kernel) ?_
          refine va_calli (va_runV (As := [.int (nI 1)]) (rest := []) ⟨hx, hb, hml, hown, hts⟩ (m_fail l dC dI a k fn ft gn gt gm (nI 0) o hinj (nI 1)) (cwV 1 hts gX1_compare_X1_fail rfl rfl rfl (by decide +kernel) ⟨Nat.le_of_ble_eq_true rfl, Nat.le_of_ble_eq_true rfl⟩) (nPreV hP hK (va_recv hK hP (ci := 1) (q0 := 3) rfl rfl)) rfl rfl hl.1 rfl (lv_room (Nat.le_of_ble_eq_true rfl)) dX1_compare_47 ⟨Nat.zero_le _, Nat.zero_le _⟩) hS (fun _ _ h => h) (fun _ h => h) (fun r_47_5 _ t H locs ht hvm er_47_5 hB _ _ hS => ?_)
          subst er_47_5
          have hP : va_P (dC, dI) vwCl (nW a k fn ft gn gt gm (nI 1) o) H := by rw [← ht]; exact hB.1
          exact W.iret hx hb hr (fun t ht hW => ⟨⟨_, (), rfl, rfl, by rw [ht]; exact hP, va_K.moved hW.alike hK⟩, hS.F ht⟩) hS.2.2 dX1_compare_50
set_option maxHeartbeats 4000000 in
set_option maxRecDepth 100000 in
theorem m_chooseB (l : Launch) (dC : Nat → ClassId) (dI : Nat → Nat → Nat) (a : Nat → Nat) (k : Nat → ClassId) (fn ft gn gt gm : Nat → Int32) (fl : Int32) (o : Nat → Int64) (hinj : nInj a) (x1 x2 x3 x4 : Int32) (hbad : (nO x1 8 || nO x2 8 || nO x3 8 || nO x4 8) = true) : Met l yX1_choose wsX1_choose ({ frames := 1, cells := 0, slots := 0, locals := 40 }) (va_Pc [.ref (a 3), .int x1, .int x2, .int x3, .int x4] (nPw dC dI a k fn ft gn gt gm fl o)) (nQv (nPw dC dI a k fn ft gn gt gm (nI 1) o) a) 0 0 (nA0 a) := by
  refine Met.ofW (cc := cX1_choose) (maxL := 6) (ret := none) (by decide) rfl ?_
  intro p e s m args below meth c s₁ B hml hv
  obtain ⟨rfl, hP, hK⟩ := hv
  have hx := B.exec
  have hb := B.bytes
  have hr := B.returns
  have hts := atoms_spec (ws := wsX1_choose) B.pre
  have hown : s.vm.findClass RX1 = some m.cls := findClass_of_methodNamed B.named
  have hlocks := B.notSynchronized
  have hS : va_S (nA0 a) s.heap s.heap [] := va_S.rf
  have hl := lv_entry ([.ref (a 3), .int x1, .int x2, .int x3, .int x4]) (n := 6) (Nat.le_of_ble_eq_true rfl)
  rw [lg_entry_eq]
  generalize (lg_sl ([.ref (a 3), .int x1, .int x2, .int x3, .int x4]) ++ List.replicate (6 - (lg_sl ([.ref (a 3), .int x1, .int x2, .int x3, .int x4])).length) Slot.unset).toArray = ls at hl ⊢
  have hl : lv_has ls 6 [(0, .ref (a 3)), (1, .int x1), (2, .int x2), (3, .int x3), (4, .int x4)] := hl
  refine lv_aload_n hx hb dX1_choose_0 rfl (lv_at hl 0 rfl) ?_
  refine lv_iconst (v := nI 0) hx hb dX1_choose_1 (by decide +kernel) ?_
  refine va_put (D := (dC, dI)) (ci := 1) (v := .int (nI 0)) (ty := .int) (C := RX1) (T := TX1) (N := 4) hx hb hts inX1_choose tyX1 tyX1_ok nmX1 hown hK hP (nDA hinj) hS 3 rfl rfl 0 (by decide) (hts (.fieldLink RX1 20 "NumberCircuitsModel" "failed" "I") (by decide +kernel)) (fun _ h9 => h9) rfl (by decide +kernel) rfl rfl (Nat.le_of_ble_eq_true rfl) dX1_choose_2 (fun H locs hP _ hS => ?_)
  have hP : va_P (dC, dI) vwCl (nW a k fn ft gn gt gm (nI 0) o) H := hP
  refine lv_aload_n hx hb dX1_choose_5 rfl (lv_at hl 0 rfl) ?_
  refine lv_iload_n hx hb dX1_choose_6 rfl (lv_at hl 1 rfl) ?_
  refine lv_bipush (v := nI 8) hx hb dX1_choose_7 (by decide +kernel) ?_
  refine vp_callSi (W.runV (As := [.int x1, .int (nI 8)]) (rest := []) ⟨hx, hb, hml, hown, hts⟩ (m_out l dC dI a k fn ft gn gt gm (nI 0) o x1 8) (cwV 2 hts gX1_choose_X1_out rfl rfl rfl (by decide +kernel) ⟨Nat.le_of_ble_eq_true rfl, Nat.le_of_ble_eq_true rfl⟩) (nPreV hP hK (va_recv hK hP (ci := 1) (q0 := 3) rfl rfl)) rfl rfl hl.1 rfl (lv_room (Nat.le_of_ble_eq_true rfl)) dX1_choose_9 ⟨Nat.zero_le _, Nat.zero_le _⟩) (fun r_9_1 er_9_1 => ?_)
  subst er_9_1
  refine lv_if_ne (tgt := 46) hx hb dX1_choose_12 (by decide) (fun c0 => ?_) (fun c0 => ?_)
  · refine lv_aload_n hx hb dX1_choose_46 rfl (lv_at hl 0 rfl) ?_
    refine lv_iconst (v := nI 1) hx hb dX1_choose_47 (by decide +kernel) ?_
    refine va_put (D := (dC, dI)) (ci := 1) (v := .int (nI 1)) (ty := .int) (C := RX1) (T := TX1) (N := 4) hx hb hts inX1_choose tyX1 tyX1_ok nmX1 hown hK hP (nDA hinj) hS 3 rfl rfl 0 (by decide) (hts (.fieldLink RX1 20 "NumberCircuitsModel" "failed" "I") (by decide +kernel)) (fun _ h9 => h9) rfl (by decide +kernel) rfl rfl (Nat.le_of_ble_eq_true rfl) dX1_choose_48 (fun H locs hP _ hS => ?_)
    have hP : va_P (dC, dI) vwCl (nW a k fn ft gn gt gm (nI 1) o) H := hP
    refine lv_goto (tgt := 149) hx hb dX1_choose_51 (by decide) ?_
    exact W.vret hx hb hr (fun t ht hW => ⟨⟨(), rfl, trivial, by rw [ht]; exact hP, va_K.moved hW.alike hK⟩, hS.F ht⟩) hS.2.2 dX1_choose_149
  · refine lv_aload_n hx hb dX1_choose_15 rfl (lv_at hl 0 rfl) ?_
    refine lv_iload_n hx hb dX1_choose_16 rfl (lv_at hl 2 rfl) ?_
    refine lv_bipush (v := nI 8) hx hb dX1_choose_17 (by decide +kernel) ?_
    refine vp_callSi (W.runV (As := [.int x2, .int (nI 8)]) (rest := []) ⟨hx, hb, hml, hown, hts⟩ (m_out l dC dI a k fn ft gn gt gm (nI 0) o x2 8) (cwV 2 hts gX1_choose_X1_out rfl rfl rfl (by decide +kernel) ⟨Nat.le_of_ble_eq_true rfl, Nat.le_of_ble_eq_true rfl⟩) (nPreV hP hK (va_recv hK hP (ci := 1) (q0 := 3) rfl rfl)) rfl rfl hl.1 rfl (lv_room (Nat.le_of_ble_eq_true rfl)) dX1_choose_19 ⟨Nat.zero_le _, Nat.zero_le _⟩) (fun r_19_2 er_19_2 => ?_)
    subst er_19_2
    refine lv_if_ne (tgt := 46) hx hb dX1_choose_22 (by decide) (fun c1 => ?_) (fun c1 => ?_)
    · refine lv_aload_n hx hb dX1_choose_46 rfl (lv_at hl 0 rfl) ?_
      refine lv_iconst (v := nI 1) hx hb dX1_choose_47 (by decide +kernel) ?_
      refine va_put (D := (dC, dI)) (ci := 1) (v := .int (nI 1)) (ty := .int) (C := RX1) (T := TX1) (N := 4) hx hb hts inX1_choose tyX1 tyX1_ok nmX1 hown hK hP (nDA hinj) hS 3 rfl rfl 0 (by decide) (hts (.fieldLink RX1 20 "NumberCircuitsModel" "failed" "I") (by decide +kernel)) (fun _ h9 => h9) rfl (by decide +kernel) rfl rfl (Nat.le_of_ble_eq_true rfl) dX1_choose_48 (fun H locs hP _ hS => ?_)
      have hP : va_P (dC, dI) vwCl (nW a k fn ft gn gt gm (nI 1) o) H := hP
      refine lv_goto (tgt := 149) hx hb dX1_choose_51 (by decide) ?_
      exact W.vret hx hb hr (fun t ht hW => ⟨⟨(), rfl, trivial, by rw [ht]; exact hP, va_K.moved hW.alike hK⟩, hS.F ht⟩) hS.2.2 dX1_choose_149
    · refine lv_aload_n hx hb dX1_choose_25 rfl (lv_at hl 0 rfl) ?_
      refine lv_iload_n hx hb dX1_choose_26 rfl (lv_at hl 3 rfl) ?_
      refine lv_bipush (v := nI 8) hx hb dX1_choose_27 (by decide +kernel) ?_
      refine vp_callSi (W.runV (As := [.int x3, .int (nI 8)]) (rest := []) ⟨hx, hb, hml, hown, hts⟩ (m_out l dC dI a k fn ft gn gt gm (nI 0) o x3 8) (cwV 2 hts gX1_choose_X1_out rfl rfl rfl (by decide +kernel) ⟨Nat.le_of_ble_eq_true rfl, Nat.le_of_ble_eq_true rfl⟩) (nPreV hP hK (va_recv hK hP (ci := 1) (q0 := 3) rfl rfl)) rfl rfl hl.1 rfl (lv_room (Nat.le_of_ble_eq_true rfl)) dX1_choose_29 ⟨Nat.zero_le _, Nat.zero_le _⟩) (fun r_29_3 er_29_3 => ?_)
      subst er_29_3
      refine lv_if_ne (tgt := 46) hx hb dX1_choose_32 (by decide) (fun c2 => ?_) (fun c2 => ?_)
      · refine lv_aload_n hx hb dX1_choose_46 rfl (lv_at hl 0 rfl) ?_
        refine lv_iconst (v := nI 1) hx hb dX1_choose_47 (by decide +kernel) ?_
        refine va_put (D := (dC, dI)) (ci := 1) (v := .int (nI 1)) (ty := .int) (C := RX1) (T := TX1) (N := 4) hx hb hts inX1_choose tyX1 tyX1_ok nmX1 hown hK hP (nDA hinj) hS 3 rfl rfl 0 (by decide) (hts (.fieldLink RX1 20 "NumberCircuitsModel" "failed" "I") (by decide +kernel)) (fun _ h9 => h9) rfl (by decide +kernel) rfl rfl (Nat.le_of_ble_eq_true rfl) dX1_choose_48 (fun H locs hP _ hS => ?_)
        have hP : va_P (dC, dI) vwCl (nW a k fn ft gn gt gm (nI 1) o) H := hP
        refine lv_goto (tgt := 149) hx hb dX1_choose_51 (by decide) ?_
        exact W.vret hx hb hr (fun t ht hW => ⟨⟨(), rfl, trivial, by rw [ht]; exact hP, va_K.moved hW.alike hK⟩, hS.F ht⟩) hS.2.2 dX1_choose_149
      · refine lv_aload_n hx hb dX1_choose_35 rfl (lv_at hl 0 rfl) ?_
        refine lv_iload hx hb dX1_choose_36 (lv_at hl 4 rfl) ?_
        refine lv_bipush (v := nI 8) hx hb dX1_choose_38 (by decide +kernel) ?_
        refine vp_callSi (W.runV (As := [.int x4, .int (nI 8)]) (rest := []) ⟨hx, hb, hml, hown, hts⟩ (m_out l dC dI a k fn ft gn gt gm (nI 0) o x4 8) (cwV 2 hts gX1_choose_X1_out rfl rfl rfl (by decide +kernel) ⟨Nat.le_of_ble_eq_true rfl, Nat.le_of_ble_eq_true rfl⟩) (nPreV hP hK (va_recv hK hP (ci := 1) (q0 := 3) rfl rfl)) rfl rfl hl.1 rfl (lv_room (Nat.le_of_ble_eq_true rfl)) dX1_choose_40 ⟨Nat.zero_le _, Nat.zero_le _⟩) (fun r_40_4 er_40_4 => ?_)
        subst er_40_4
        refine lv_if_eq (tgt := 54) hx hb dX1_choose_43 (by decide) (fun c3 => ?_) (fun c3 => ?_)
        · exact absurd hbad (by rw [nb_f c0, nb_f c1, nb_f c2, nb_f c3]; decide)
        · refine lv_aload_n hx hb dX1_choose_46 rfl (lv_at hl 0 rfl) ?_
          refine lv_iconst (v := nI 1) hx hb dX1_choose_47 (by decide +kernel) ?_
          refine va_put (D := (dC, dI)) (ci := 1) (v := .int (nI 1)) (ty := .int) (C := RX1) (T := TX1) (N := 4) hx hb hts inX1_choose tyX1 tyX1_ok nmX1 hown hK hP (nDA hinj) hS 3 rfl rfl 0 (by decide) (hts (.fieldLink RX1 20 "NumberCircuitsModel" "failed" "I") (by decide +kernel)) (fun _ h9 => h9) rfl (by decide +kernel) rfl rfl (Nat.le_of_ble_eq_true rfl) dX1_choose_48 (fun H locs hP _ hS => ?_)
          have hP : va_P (dC, dI) vwCl (nW a k fn ft gn gt gm (nI 1) o) H := hP
          refine lv_goto (tgt := 149) hx hb dX1_choose_51 (by decide) ?_
          exact W.vret hx hb hr (fun t ht hW => ⟨⟨(), rfl, trivial, by rw [ht]; exact hP, va_K.moved hW.alike hK⟩, hS.F ht⟩) hS.2.2 dX1_choose_149
set_option maxHeartbeats 4000000 in
set_option maxRecDepth 100000 in
theorem m_joinB (l : Launch) (dC : Nat → ClassId) (dI : Nat → Nat → Nat) (a : Nat → Nat) (k : Nat → ClassId) (fn ft gn gt gm : Nat → Int32) (fl : Int32) (o : Nat → Int64) (hinj : nInj a) (x1 x2 x3 x4 : Int32) (hbad : (nO x1 8 || nO x2 4 || nO x3 8 || nO x4 8) = true) : Met l yX1_join wsX1_join ({ frames := 1, cells := 0, slots := 0, locals := 40 }) (va_Pc [.ref (a 3), .int x1, .int x2, .int x3, .int x4] (nPw dC dI a k fn ft gn gt gm fl o)) (nQi (nI 0) (nPw dC dI a k fn ft gn gt gm (nI 1) o) a) 0 0 (nA0 a) := by
  refine Met.ofW (cc := cX1_join) (maxL := 8) (ret := (some .int)) (by decide) rfl ?_
  intro p e s m args below meth c s₁ B hml hv
  obtain ⟨rfl, hP, hK⟩ := hv
  have hx := B.exec
  have hb := B.bytes
  have hr := B.returns
  have hts := atoms_spec (ws := wsX1_join) B.pre
  have hown : s.vm.findClass RX1 = some m.cls := findClass_of_methodNamed B.named
  have hlocks := B.notSynchronized
  have hS : va_S (nA0 a) s.heap s.heap [] := va_S.rf
  have hl := lv_entry ([.ref (a 3), .int x1, .int x2, .int x3, .int x4]) (n := 8) (Nat.le_of_ble_eq_true rfl)
  rw [lg_entry_eq]
  generalize (lg_sl ([.ref (a 3), .int x1, .int x2, .int x3, .int x4]) ++ List.replicate (8 - (lg_sl ([.ref (a 3), .int x1, .int x2, .int x3, .int x4])).length) Slot.unset).toArray = ls at hl ⊢
  have hl : lv_has ls 8 [(0, .ref (a 3)), (1, .int x1), (2, .int x2), (3, .int x3), (4, .int x4)] := hl
  refine lv_aload_n hx hb dX1_join_0 rfl (lv_at hl 0 rfl) ?_
  refine lv_iconst (v := nI 0) hx hb dX1_join_1 (by decide +kernel) ?_
  refine va_put (D := (dC, dI)) (ci := 1) (v := .int (nI 0)) (ty := .int) (C := RX1) (T := TX1) (N := 4) hx hb hts inX1_join tyX1 tyX1_ok nmX1 hown hK hP (nDA hinj) hS 3 rfl rfl 0 (by decide) (hts (.fieldLink RX1 20 "NumberCircuitsModel" "failed" "I") (by decide +kernel)) (fun _ h9 => h9) rfl (by decide +kernel) rfl rfl (Nat.le_of_ble_eq_true rfl) dX1_join_2 (fun H locs hP _ hS => ?_)
  have hP : va_P (dC, dI) vwCl (nW a k fn ft gn gt gm (nI 0) o) H := hP
  refine lv_aload_n hx hb dX1_join_5 rfl (lv_at hl 0 rfl) ?_
  refine lv_iload_n hx hb dX1_join_6 rfl (lv_at hl 1 rfl) ?_
  refine lv_bipush (v := nI 8) hx hb dX1_join_7 (by decide +kernel) ?_
  refine vp_callSi (W.runV (As := [.int x1, .int (nI 8)]) (rest := []) ⟨hx, hb, hml, hown, hts⟩ (m_out l dC dI a k fn ft gn gt gm (nI 0) o x1 8) (cwV 2 hts gX1_join_X1_out rfl rfl rfl (by decide +kernel) ⟨Nat.le_of_ble_eq_true rfl, Nat.le_of_ble_eq_true rfl⟩) (nPreV hP hK (va_recv hK hP (ci := 1) (q0 := 3) rfl rfl)) rfl rfl hl.1 rfl (lv_room (Nat.le_of_ble_eq_true rfl)) dX1_join_9 ⟨Nat.zero_le _, Nat.zero_le _⟩) (fun r_9_1 er_9_1 => ?_)
  subst er_9_1
  refine lv_if_ne (tgt := 45) hx hb dX1_join_12 (by decide) (fun c0 => ?_) (fun c0 => ?_)
  · refine lv_aload_n hx hb dX1_join_45 rfl (lv_at hl 0 rfl) ?_
    refine lv_iconst (v := nI 1) hx hb dX1_join_46 (by decide +kernel) ?_
    refine va_calli (va_runV (As := [.int (nI 1)]) (rest := []) ⟨hx, hb, hml, hown, hts⟩ (m_fail l dC dI a k fn ft gn gt gm (nI 0) o hinj (nI 1)) (cwV 1 hts gX1_join_X1_fail rfl rfl rfl (by decide +kernel) ⟨Nat.le_of_ble_eq_true rfl, Nat.le_of_ble_eq_true rfl⟩) (nPreV hP hK (va_recv hK hP (ci := 1) (q0 := 3) rfl rfl)) rfl rfl hl.1 rfl (lv_room (Nat.le_of_ble_eq_true rfl)) dX1_join_47 ⟨Nat.zero_le _, Nat.zero_le _⟩) hS (fun _ _ h => h) (fun _ h => h) (fun r_47_2 _ t H locs ht hvm er_47_2 hB _ _ hS => ?_)
    subst er_47_2
    have hP : va_P (dC, dI) vwCl (nW a k fn ft gn gt gm (nI 1) o) H := by rw [← ht]; exact hB.1
    exact W.iret hx hb hr (fun t ht hW => ⟨⟨_, (), rfl, rfl, by rw [ht]; exact hP, va_K.moved hW.alike hK⟩, hS.F ht⟩) hS.2.2 dX1_join_50
  · refine lv_aload_n hx hb dX1_join_15 rfl (lv_at hl 0 rfl) ?_
    refine lv_iload_n hx hb dX1_join_16 rfl (lv_at hl 2 rfl) ?_
    refine lv_iconst (v := nI 4) hx hb dX1_join_17 (by decide +kernel) ?_
    refine vp_callSi (W.runV (As := [.int x2, .int (nI 4)]) (rest := []) ⟨hx, hb, hml, hown, hts⟩ (m_out l dC dI a k fn ft gn gt gm (nI 0) o x2 4) (cwV 2 hts gX1_join_X1_out rfl rfl rfl (by decide +kernel) ⟨Nat.le_of_ble_eq_true rfl, Nat.le_of_ble_eq_true rfl⟩) (nPreV hP hK (va_recv hK hP (ci := 1) (q0 := 3) rfl rfl)) rfl rfl hl.1 rfl (lv_room (Nat.le_of_ble_eq_true rfl)) dX1_join_18 ⟨Nat.zero_le _, Nat.zero_le _⟩) (fun r_18_2 er_18_2 => ?_)
    subst er_18_2
    refine lv_if_ne (tgt := 45) hx hb dX1_join_21 (by decide) (fun c1 => ?_) (fun c1 => ?_)
    · refine lv_aload_n hx hb dX1_join_45 rfl (lv_at hl 0 rfl) ?_
      refine lv_iconst (v := nI 1) hx hb dX1_join_46 (by decide +kernel) ?_
      refine va_calli (va_runV (As := [.int (nI 1)]) (rest := []) ⟨hx, hb, hml, hown, hts⟩ (m_fail l dC dI a k fn ft gn gt gm (nI 0) o hinj (nI 1)) (cwV 1 hts gX1_join_X1_fail rfl rfl rfl (by decide +kernel) ⟨Nat.le_of_ble_eq_true rfl, Nat.le_of_ble_eq_true rfl⟩) (nPreV hP hK (va_recv hK hP (ci := 1) (q0 := 3) rfl rfl)) rfl rfl hl.1 rfl (lv_room (Nat.le_of_ble_eq_true rfl)) dX1_join_47 ⟨Nat.zero_le _, Nat.zero_le _⟩) hS (fun _ _ h => h) (fun _ h => h) (fun r_47_3 _ t H locs ht hvm er_47_3 hB _ _ hS => ?_)
      subst er_47_3
      have hP : va_P (dC, dI) vwCl (nW a k fn ft gn gt gm (nI 1) o) H := by rw [← ht]; exact hB.1
      exact W.iret hx hb hr (fun t ht hW => ⟨⟨_, (), rfl, rfl, by rw [ht]; exact hP, va_K.moved hW.alike hK⟩, hS.F ht⟩) hS.2.2 dX1_join_50
    · refine lv_aload_n hx hb dX1_join_24 rfl (lv_at hl 0 rfl) ?_
      refine lv_iload_n hx hb dX1_join_25 rfl (lv_at hl 3 rfl) ?_
      refine lv_bipush (v := nI 8) hx hb dX1_join_26 (by decide +kernel) ?_
      refine vp_callSi (W.runV (As := [.int x3, .int (nI 8)]) (rest := []) ⟨hx, hb, hml, hown, hts⟩ (m_out l dC dI a k fn ft gn gt gm (nI 0) o x3 8) (cwV 2 hts gX1_join_X1_out rfl rfl rfl (by decide +kernel) ⟨Nat.le_of_ble_eq_true rfl, Nat.le_of_ble_eq_true rfl⟩) (nPreV hP hK (va_recv hK hP (ci := 1) (q0 := 3) rfl rfl)) rfl rfl hl.1 rfl (lv_room (Nat.le_of_ble_eq_true rfl)) dX1_join_28 ⟨Nat.zero_le _, Nat.zero_le _⟩) (fun r_28_3 er_28_3 => ?_)
      subst er_28_3
      refine lv_if_ne (tgt := 45) hx hb dX1_join_31 (by decide) (fun c2 => ?_) (fun c2 => ?_)
      · refine lv_aload_n hx hb dX1_join_45 rfl (lv_at hl 0 rfl) ?_
        refine lv_iconst (v := nI 1) hx hb dX1_join_46 (by decide +kernel) ?_
        refine va_calli (va_runV (As := [.int (nI 1)]) (rest := []) ⟨hx, hb, hml, hown, hts⟩ (m_fail l dC dI a k fn ft gn gt gm (nI 0) o hinj (nI 1)) (cwV 1 hts gX1_join_X1_fail rfl rfl rfl (by decide +kernel) ⟨Nat.le_of_ble_eq_true rfl, Nat.le_of_ble_eq_true rfl⟩) (nPreV hP hK (va_recv hK hP (ci := 1) (q0 := 3) rfl rfl)) rfl rfl hl.1 rfl (lv_room (Nat.le_of_ble_eq_true rfl)) dX1_join_47 ⟨Nat.zero_le _, Nat.zero_le _⟩) hS (fun _ _ h => h) (fun _ h => h) (fun r_47_4 _ t H locs ht hvm er_47_4 hB _ _ hS => ?_)
        subst er_47_4
        have hP : va_P (dC, dI) vwCl (nW a k fn ft gn gt gm (nI 1) o) H := by rw [← ht]; exact hB.1
        exact W.iret hx hb hr (fun t ht hW => ⟨⟨_, (), rfl, rfl, by rw [ht]; exact hP, va_K.moved hW.alike hK⟩, hS.F ht⟩) hS.2.2 dX1_join_50
      · refine lv_aload_n hx hb dX1_join_34 rfl (lv_at hl 0 rfl) ?_
        refine lv_iload hx hb dX1_join_35 (lv_at hl 4 rfl) ?_
        refine lv_bipush (v := nI 8) hx hb dX1_join_37 (by decide +kernel) ?_
        refine vp_callSi (W.runV (As := [.int x4, .int (nI 8)]) (rest := []) ⟨hx, hb, hml, hown, hts⟩ (m_out l dC dI a k fn ft gn gt gm (nI 0) o x4 8) (cwV 2 hts gX1_join_X1_out rfl rfl rfl (by decide +kernel) ⟨Nat.le_of_ble_eq_true rfl, Nat.le_of_ble_eq_true rfl⟩) (nPreV hP hK (va_recv hK hP (ci := 1) (q0 := 3) rfl rfl)) rfl rfl hl.1 rfl (lv_room (Nat.le_of_ble_eq_true rfl)) dX1_join_39 ⟨Nat.zero_le _, Nat.zero_le _⟩) (fun r_39_4 er_39_4 => ?_)
        subst er_39_4
        refine lv_if_eq (tgt := 51) hx hb dX1_join_42 (by decide) (fun c3 => ?_) (fun c3 => ?_)
        · exact absurd hbad (by rw [nb_f c0, nb_f c1, nb_f c2, nb_f c3]; decide)
        · refine lv_aload_n hx hb dX1_join_45 rfl (lv_at hl 0 rfl) ?_
          refine lv_iconst (v := nI 1) hx hb dX1_join_46 (by decide +kernel) ?_
          refine va_calli (va_runV (As := [.int (nI 1)]) (rest := []) ⟨hx, hb, hml, hown, hts⟩ (m_fail l dC dI a k fn ft gn gt gm (nI 0) o hinj (nI 1)) (cwV 1 hts gX1_join_X1_fail rfl rfl rfl (by decide +kernel) ⟨Nat.le_of_ble_eq_true rfl, Nat.le_of_ble_eq_true rfl⟩) (nPreV hP hK (va_recv hK hP (ci := 1) (q0 := 3) rfl rfl)) rfl rfl hl.1 rfl (lv_room (Nat.le_of_ble_eq_true rfl)) dX1_join_47 ⟨Nat.zero_le _, Nat.zero_le _⟩) hS (fun _ _ h => h) (fun _ h => h) (fun r_47_5 _ t H locs ht hvm er_47_5 hB _ _ hS => ?_)
          subst er_47_5
          have hP : va_P (dC, dI) vwCl (nW a k fn ft gn gt gm (nI 1) o) H := by rw [← ht]; exact hB.1
          exact W.iret hx hb hr (fun t ht hW => ⟨⟨_, (), rfl, rfl, by rw [ht]; exact hP, va_K.moved hW.alike hK⟩, hS.F ht⟩) hS.2.2 dX1_join_50
set_option maxHeartbeats 4000000 in
set_option maxRecDepth 100000 in
theorem m_valueB (l : Launch) (dC : Nat → ClassId) (dI : Nat → Nat → Nat) (a : Nat → Nat) (k : Nat → ClassId) (fn ft gn gt gm : Nat → Int32) (fl : Int32) (o : Nat → Int64) (hinj : nInj a) (x1 x2 : Int32) (hbad : (nO x1 8 || nO x2 1024) = true) : Met l yX1_value wsX1_value ({ frames := 1, cells := 0, slots := 0, locals := 40 }) (va_Pc [.ref (a 3), .int x1, .int x2] (nPw dC dI a k fn ft gn gt gm fl o)) (nQi (nI 0) (nPw dC dI a k fn ft gn gt gm (nI 1) o) a) 0 0 (nA0 a) := by
  refine Met.ofW (cc := cX1_value) (maxL := 3) (ret := (some .int)) (by decide) rfl ?_
  intro p e s m args below meth c s₁ B hml hv
  obtain ⟨rfl, hP, hK⟩ := hv
  have hx := B.exec
  have hb := B.bytes
  have hr := B.returns
  have hts := atoms_spec (ws := wsX1_value) B.pre
  have hown : s.vm.findClass RX1 = some m.cls := findClass_of_methodNamed B.named
  have hlocks := B.notSynchronized
  have hS : va_S (nA0 a) s.heap s.heap [] := va_S.rf
  have hl := lv_entry ([.ref (a 3), .int x1, .int x2]) (n := 3) (Nat.le_of_ble_eq_true rfl)
  rw [lg_entry_eq]
  generalize (lg_sl ([.ref (a 3), .int x1, .int x2]) ++ List.replicate (3 - (lg_sl ([.ref (a 3), .int x1, .int x2])).length) Slot.unset).toArray = ls at hl ⊢
  have hl : lv_has ls 3 [(0, .ref (a 3)), (1, .int x1), (2, .int x2)] := hl
  refine lv_aload_n hx hb dX1_value_0 rfl (lv_at hl 0 rfl) ?_
  refine lv_iconst (v := nI 0) hx hb dX1_value_1 (by decide +kernel) ?_
  refine va_put (D := (dC, dI)) (ci := 1) (v := .int (nI 0)) (ty := .int) (C := RX1) (T := TX1) (N := 4) hx hb hts inX1_value tyX1 tyX1_ok nmX1 hown hK hP (nDA hinj) hS 3 rfl rfl 0 (by decide) (hts (.fieldLink RX1 20 "NumberCircuitsModel" "failed" "I") (by decide +kernel)) (fun _ h9 => h9) rfl (by decide +kernel) rfl rfl (Nat.le_of_ble_eq_true rfl) dX1_value_2 (fun H locs hP _ hS => ?_)
  have hP : va_P (dC, dI) vwCl (nW a k fn ft gn gt gm (nI 0) o) H := hP
  refine lv_aload_n hx hb dX1_value_5 rfl (lv_at hl 0 rfl) ?_
  refine lv_iload_n hx hb dX1_value_6 rfl (lv_at hl 1 rfl) ?_
  refine lv_bipush (v := nI 8) hx hb dX1_value_7 (by decide +kernel) ?_
  refine vp_callSi (W.runV (As := [.int x1, .int (nI 8)]) (rest := []) ⟨hx, hb, hml, hown, hts⟩ (m_out l dC dI a k fn ft gn gt gm (nI 0) o x1 8) (cwV 2 hts gX1_value_X1_out rfl rfl rfl (by decide +kernel) ⟨Nat.le_of_ble_eq_true rfl, Nat.le_of_ble_eq_true rfl⟩) (nPreV hP hK (va_recv hK hP (ci := 1) (q0 := 3) rfl rfl)) rfl rfl hl.1 rfl (lv_room (Nat.le_of_ble_eq_true rfl)) dX1_value_9 ⟨Nat.zero_le _, Nat.zero_le _⟩) (fun r_9_1 er_9_1 => ?_)
  subst er_9_1
  refine lv_if_ne (tgt := 26) hx hb dX1_value_12 (by decide) (fun c0 => ?_) (fun c0 => ?_)
  · refine lv_aload_n hx hb dX1_value_26 rfl (lv_at hl 0 rfl) ?_
    refine lv_iconst (v := nI 1) hx hb dX1_value_27 (by decide +kernel) ?_
    refine va_calli (va_runV (As := [.int (nI 1)]) (rest := []) ⟨hx, hb, hml, hown, hts⟩ (m_fail l dC dI a k fn ft gn gt gm (nI 0) o hinj (nI 1)) (cwV 1 hts gX1_value_X1_fail rfl rfl rfl (by decide +kernel) ⟨Nat.le_of_ble_eq_true rfl, Nat.le_of_ble_eq_true rfl⟩) (nPreV hP hK (va_recv hK hP (ci := 1) (q0 := 3) rfl rfl)) rfl rfl hl.1 rfl (lv_room (Nat.le_of_ble_eq_true rfl)) dX1_value_28 ⟨Nat.zero_le _, Nat.zero_le _⟩) hS (fun _ _ h => h) (fun _ h => h) (fun r_28_2 _ t H locs ht hvm er_28_2 hB _ _ hS => ?_)
    subst er_28_2
    have hP : va_P (dC, dI) vwCl (nW a k fn ft gn gt gm (nI 1) o) H := by rw [← ht]; exact hB.1
    exact W.iret hx hb hr (fun t ht hW => ⟨⟨_, (), rfl, rfl, by rw [ht]; exact hP, va_K.moved hW.alike hK⟩, hS.F ht⟩) hS.2.2 dX1_value_31
  · refine lv_aload_n hx hb dX1_value_15 rfl (lv_at hl 0 rfl) ?_
    refine lv_iload_n hx hb dX1_value_16 rfl (lv_at hl 2 rfl) ?_
    refine lv_sipush (v := nI 1024) hx hb dX1_value_17 (by decide +kernel) ?_
    refine vp_callSi (W.runV (As := [.int x2, .int (nI 1024)]) (rest := []) ⟨hx, hb, hml, hown, hts⟩ (m_out l dC dI a k fn ft gn gt gm (nI 0) o x2 1024) (cwV 2 hts gX1_value_X1_out rfl rfl rfl (by decide +kernel) ⟨Nat.le_of_ble_eq_true rfl, Nat.le_of_ble_eq_true rfl⟩) (nPreV hP hK (va_recv hK hP (ci := 1) (q0 := 3) rfl rfl)) rfl rfl hl.1 rfl (lv_room (Nat.le_of_ble_eq_true rfl)) dX1_value_20 ⟨Nat.zero_le _, Nat.zero_le _⟩) (fun r_20_2 er_20_2 => ?_)
    subst er_20_2
    refine lv_if_eq (tgt := 32) hx hb dX1_value_23 (by decide) (fun c1 => ?_) (fun c1 => ?_)
    · exact absurd hbad (by rw [nb_f c0, nb_f c1]; decide)
    · refine lv_aload_n hx hb dX1_value_26 rfl (lv_at hl 0 rfl) ?_
      refine lv_iconst (v := nI 1) hx hb dX1_value_27 (by decide +kernel) ?_
      refine va_calli (va_runV (As := [.int (nI 1)]) (rest := []) ⟨hx, hb, hml, hown, hts⟩ (m_fail l dC dI a k fn ft gn gt gm (nI 0) o hinj (nI 1)) (cwV 1 hts gX1_value_X1_fail rfl rfl rfl (by decide +kernel) ⟨Nat.le_of_ble_eq_true rfl, Nat.le_of_ble_eq_true rfl⟩) (nPreV hP hK (va_recv hK hP (ci := 1) (q0 := 3) rfl rfl)) rfl rfl hl.1 rfl (lv_room (Nat.le_of_ble_eq_true rfl)) dX1_value_28 ⟨Nat.zero_le _, Nat.zero_le _⟩) hS (fun _ _ h => h) (fun _ h => h) (fun r_28_3 _ t H locs ht hvm er_28_3 hB _ _ hS => ?_)
      subst er_28_3
      have hP : va_P (dC, dI) vwCl (nW a k fn ft gn gt gm (nI 1) o) H := by rw [← ht]; exact hB.1
      exact W.iret hx hb hr (fun t ht hW => ⟨⟨_, (), rfl, rfl, by rw [ht]; exact hP, va_K.moved hW.alike hK⟩, hS.F ht⟩) hS.2.2 dX1_value_31
set_option maxHeartbeats 4000000 in
set_option maxRecDepth 100000 in
theorem m_wayB (l : Launch) (dC : Nat → ClassId) (dI : Nat → Nat → Nat) (a : Nat → Nat) (k : Nat → ClassId) (fn ft gn gt gm : Nat → Int32) (fl : Int32) (o : Nat → Int64) (hinj : nInj a) (x1 : Int32) (hbad : (nO x1 8) = true) : Met l yX1_way wsX1_way ({ frames := 1, cells := 0, slots := 0, locals := 40 }) (va_Pc [.ref (a 3), .int x1] (nPw dC dI a k fn ft gn gt gm fl o)) (nQi (nI 0) (nPw dC dI a k fn ft gn gt gm (nI 1) o) a) 0 0 (nA0 a) := by
  refine Met.ofW (cc := cX1_way) (maxL := 3) (ret := (some .int)) (by decide) rfl ?_
  intro p e s m args below meth c s₁ B hml hv
  obtain ⟨rfl, hP, hK⟩ := hv
  have hx := B.exec
  have hb := B.bytes
  have hr := B.returns
  have hts := atoms_spec (ws := wsX1_way) B.pre
  have hown : s.vm.findClass RX1 = some m.cls := findClass_of_methodNamed B.named
  have hlocks := B.notSynchronized
  have hS : va_S (nA0 a) s.heap s.heap [] := va_S.rf
  have hl := lv_entry ([.ref (a 3), .int x1]) (n := 3) (Nat.le_of_ble_eq_true rfl)
  rw [lg_entry_eq]
  generalize (lg_sl ([.ref (a 3), .int x1]) ++ List.replicate (3 - (lg_sl ([.ref (a 3), .int x1])).length) Slot.unset).toArray = ls at hl ⊢
  have hl : lv_has ls 3 [(0, .ref (a 3)), (1, .int x1)] := hl
  refine lv_aload_n hx hb dX1_way_0 rfl (lv_at hl 0 rfl) ?_
  refine lv_iconst (v := nI 0) hx hb dX1_way_1 (by decide +kernel) ?_
  refine va_put (D := (dC, dI)) (ci := 1) (v := .int (nI 0)) (ty := .int) (C := RX1) (T := TX1) (N := 4) hx hb hts inX1_way tyX1 tyX1_ok nmX1 hown hK hP (nDA hinj) hS 3 rfl rfl 0 (by decide) (hts (.fieldLink RX1 20 "NumberCircuitsModel" "failed" "I") (by decide +kernel)) (fun _ h9 => h9) rfl (by decide +kernel) rfl rfl (Nat.le_of_ble_eq_true rfl) dX1_way_2 (fun H locs hP _ hS => ?_)
  have hP : va_P (dC, dI) vwCl (nW a k fn ft gn gt gm (nI 0) o) H := hP
  refine lv_aload_n hx hb dX1_way_5 rfl (lv_at hl 0 rfl) ?_
  refine lv_iload_n hx hb dX1_way_6 rfl (lv_at hl 1 rfl) ?_
  refine lv_bipush (v := nI 8) hx hb dX1_way_7 (by decide +kernel) ?_
  refine vp_callSi (W.runV (As := [.int x1, .int (nI 8)]) (rest := []) ⟨hx, hb, hml, hown, hts⟩ (m_out l dC dI a k fn ft gn gt gm (nI 0) o x1 8) (cwV 2 hts gX1_way_X1_out rfl rfl rfl (by decide +kernel) ⟨Nat.le_of_ble_eq_true rfl, Nat.le_of_ble_eq_true rfl⟩) (nPreV hP hK (va_recv hK hP (ci := 1) (q0 := 3) rfl rfl)) rfl rfl hl.1 rfl (lv_room (Nat.le_of_ble_eq_true rfl)) dX1_way_9 ⟨Nat.zero_le _, Nat.zero_le _⟩) (fun r_9_1 er_9_1 => ?_)
  subst er_9_1
  refine lv_if_eq (tgt := 21) hx hb dX1_way_12 (by decide) (fun c0 => ?_) (fun c0 => ?_)
  · exact absurd hbad (by rw [nb_f c0]; decide)
  · refine lv_aload_n hx hb dX1_way_15 rfl (lv_at hl 0 rfl) ?_
    refine lv_iconst (v := nI 1) hx hb dX1_way_16 (by decide +kernel) ?_
    refine va_calli (va_runV (As := [.int (nI 1)]) (rest := []) ⟨hx, hb, hml, hown, hts⟩ (m_fail l dC dI a k fn ft gn gt gm (nI 0) o hinj (nI 1)) (cwV 1 hts gX1_way_X1_fail rfl rfl rfl (by decide +kernel) ⟨Nat.le_of_ble_eq_true rfl, Nat.le_of_ble_eq_true rfl⟩) (nPreV hP hK (va_recv hK hP (ci := 1) (q0 := 3) rfl rfl)) rfl rfl hl.1 rfl (lv_room (Nat.le_of_ble_eq_true rfl)) dX1_way_17 ⟨Nat.zero_le _, Nat.zero_le _⟩) hS (fun _ _ h => h) (fun _ h => h) (fun r_17_2 _ t H locs ht hvm er_17_2 hB _ _ hS => ?_)
    subst er_17_2
    have hP : va_P (dC, dI) vwCl (nW a k fn ft gn gt gm (nI 1) o) H := by rw [← ht]; exact hB.1
    exact W.iret hx hb hr (fun t ht hW => ⟨⟨_, (), rfl, rfl, by rw [ht]; exact hP, va_K.moved hW.alike hK⟩, hS.F ht⟩) hS.2.2 dX1_way_20
set_option maxHeartbeats 4000000 in
set_option maxRecDepth 100000 in
theorem m_sameB (l : Launch) (dC : Nat → ClassId) (dI : Nat → Nat → Nat) (a : Nat → Nat) (k : Nat → ClassId) (fn ft gn gt gm : Nat → Int32) (fl : Int32) (o : Nat → Int64) (hinj : nInj a) (x1 x2 : Int32) (hbad : (nO x1 8 || nO x2 8) = true) : Met l yX1_same wsX1_same ({ frames := 1, cells := 0, slots := 0, locals := 40 }) (va_Pc [.ref (a 3), .int x1, .int x2] (nPw dC dI a k fn ft gn gt gm fl o)) (nQi (nI 0) (nPw dC dI a k fn ft gn gt gm (nI 1) o) a) 0 0 (nA0 a) := by
  refine Met.ofW (cc := cX1_same) (maxL := 4) (ret := (some .boolean)) (by decide) rfl ?_
  intro p e s m args below meth c s₁ B hml hv
  obtain ⟨rfl, hP, hK⟩ := hv
  have hx := B.exec
  have hb := B.bytes
  have hr := B.returns
  have hts := atoms_spec (ws := wsX1_same) B.pre
  have hown : s.vm.findClass RX1 = some m.cls := findClass_of_methodNamed B.named
  have hlocks := B.notSynchronized
  have hS : va_S (nA0 a) s.heap s.heap [] := va_S.rf
  have hl := lv_entry ([.ref (a 3), .int x1, .int x2]) (n := 4) (Nat.le_of_ble_eq_true rfl)
  rw [lg_entry_eq]
  generalize (lg_sl ([.ref (a 3), .int x1, .int x2]) ++ List.replicate (4 - (lg_sl ([.ref (a 3), .int x1, .int x2])).length) Slot.unset).toArray = ls at hl ⊢
  have hl : lv_has ls 4 [(0, .ref (a 3)), (1, .int x1), (2, .int x2)] := hl
  refine lv_aload_n hx hb dX1_same_0 rfl (lv_at hl 0 rfl) ?_
  refine lv_iconst (v := nI 0) hx hb dX1_same_1 (by decide +kernel) ?_
  refine va_put (D := (dC, dI)) (ci := 1) (v := .int (nI 0)) (ty := .int) (C := RX1) (T := TX1) (N := 4) hx hb hts inX1_same tyX1 tyX1_ok nmX1 hown hK hP (nDA hinj) hS 3 rfl rfl 0 (by decide) (hts (.fieldLink RX1 20 "NumberCircuitsModel" "failed" "I") (by decide +kernel)) (fun _ h9 => h9) rfl (by decide +kernel) rfl rfl (Nat.le_of_ble_eq_true rfl) dX1_same_2 (fun H locs hP _ hS => ?_)
  have hP : va_P (dC, dI) vwCl (nW a k fn ft gn gt gm (nI 0) o) H := hP
  refine lv_aload_n hx hb dX1_same_5 rfl (lv_at hl 0 rfl) ?_
  refine lv_iload_n hx hb dX1_same_6 rfl (lv_at hl 1 rfl) ?_
  refine lv_bipush (v := nI 8) hx hb dX1_same_7 (by decide +kernel) ?_
  refine vp_callSi (W.runV (As := [.int x1, .int (nI 8)]) (rest := []) ⟨hx, hb, hml, hown, hts⟩ (m_out l dC dI a k fn ft gn gt gm (nI 0) o x1 8) (cwV 2 hts gX1_same_X1_out rfl rfl rfl (by decide +kernel) ⟨Nat.le_of_ble_eq_true rfl, Nat.le_of_ble_eq_true rfl⟩) (nPreV hP hK (va_recv hK hP (ci := 1) (q0 := 3) rfl rfl)) rfl rfl hl.1 rfl (lv_room (Nat.le_of_ble_eq_true rfl)) dX1_same_9 ⟨Nat.zero_le _, Nat.zero_le _⟩) (fun r_9_1 er_9_1 => ?_)
  subst er_9_1
  refine lv_if_ne (tgt := 25) hx hb dX1_same_12 (by decide) (fun c0 => ?_) (fun c0 => ?_)
  · refine lv_aload_n hx hb dX1_same_25 rfl (lv_at hl 0 rfl) ?_
    refine lv_iconst (v := nI 1) hx hb dX1_same_26 (by decide +kernel) ?_
    refine va_calli (va_runV (As := [.int (nI 1)]) (rest := []) ⟨hx, hb, hml, hown, hts⟩ (m_fail l dC dI a k fn ft gn gt gm (nI 0) o hinj (nI 1)) (cwV 1 hts gX1_same_X1_fail rfl rfl rfl (by decide +kernel) ⟨Nat.le_of_ble_eq_true rfl, Nat.le_of_ble_eq_true rfl⟩) (nPreV hP hK (va_recv hK hP (ci := 1) (q0 := 3) rfl rfl)) rfl rfl hl.1 rfl (lv_room (Nat.le_of_ble_eq_true rfl)) dX1_same_27 ⟨Nat.zero_le _, Nat.zero_le _⟩) hS (fun _ _ h => h) (fun _ h => h) (fun r_27_2 _ t H locs ht hvm er_27_2 hB _ _ hS => ?_)
    subst er_27_2
    have hP : va_P (dC, dI) vwCl (nW a k fn ft gn gt gm (nI 1) o) H := by rw [← ht]; exact hB.1
    refine lv_if_le (tgt := 37) hx hb dX1_same_30 (by decide) (fun _ => ?_) (fun c => absurd c (by decide +kernel))
    refine lv_iconst (v := nI 0) hx hb dX1_same_37 (by decide +kernel) ?_
    exact W.zret hx hb hr (by decide +kernel) (fun t ht hW => ⟨⟨_, (), rfl, rfl, by rw [ht]; exact hP, va_K.moved hW.alike hK⟩, hS.F ht⟩) hS.2.2 dX1_same_38
  · refine lv_aload_n hx hb dX1_same_15 rfl (lv_at hl 0 rfl) ?_
    refine lv_iload_n hx hb dX1_same_16 rfl (lv_at hl 2 rfl) ?_
    refine lv_bipush (v := nI 8) hx hb dX1_same_17 (by decide +kernel) ?_
    refine vp_callSi (W.runV (As := [.int x2, .int (nI 8)]) (rest := []) ⟨hx, hb, hml, hown, hts⟩ (m_out l dC dI a k fn ft gn gt gm (nI 0) o x2 8) (cwV 2 hts gX1_same_X1_out rfl rfl rfl (by decide +kernel) ⟨Nat.le_of_ble_eq_true rfl, Nat.le_of_ble_eq_true rfl⟩) (nPreV hP hK (va_recv hK hP (ci := 1) (q0 := 3) rfl rfl)) rfl rfl hl.1 rfl (lv_room (Nat.le_of_ble_eq_true rfl)) dX1_same_19 ⟨Nat.zero_le _, Nat.zero_le _⟩) (fun r_19_2 er_19_2 => ?_)
    subst er_19_2
    refine lv_if_eq (tgt := 39) hx hb dX1_same_22 (by decide) (fun c1 => ?_) (fun c1 => ?_)
    · exact absurd hbad (by rw [nb_f c0, nb_f c1]; decide)
    · refine lv_aload_n hx hb dX1_same_25 rfl (lv_at hl 0 rfl) ?_
      refine lv_iconst (v := nI 1) hx hb dX1_same_26 (by decide +kernel) ?_
      refine va_calli (va_runV (As := [.int (nI 1)]) (rest := []) ⟨hx, hb, hml, hown, hts⟩ (m_fail l dC dI a k fn ft gn gt gm (nI 0) o hinj (nI 1)) (cwV 1 hts gX1_same_X1_fail rfl rfl rfl (by decide +kernel) ⟨Nat.le_of_ble_eq_true rfl, Nat.le_of_ble_eq_true rfl⟩) (nPreV hP hK (va_recv hK hP (ci := 1) (q0 := 3) rfl rfl)) rfl rfl hl.1 rfl (lv_room (Nat.le_of_ble_eq_true rfl)) dX1_same_27 ⟨Nat.zero_le _, Nat.zero_le _⟩) hS (fun _ _ h => h) (fun _ h => h) (fun r_27_3 _ t H locs ht hvm er_27_3 hB _ _ hS => ?_)
      subst er_27_3
      have hP : va_P (dC, dI) vwCl (nW a k fn ft gn gt gm (nI 1) o) H := by rw [← ht]; exact hB.1
      refine lv_if_le (tgt := 37) hx hb dX1_same_30 (by decide) (fun _ => ?_) (fun c => absurd c (by decide +kernel))
      refine lv_iconst (v := nI 0) hx hb dX1_same_37 (by decide +kernel) ?_
      exact W.zret hx hb hr (by decide +kernel) (fun t ht hW => ⟨⟨_, (), rfl, rfl, by rw [ht]; exact hP, va_K.moved hW.alike hK⟩, hS.F ht⟩) hS.2.2 dX1_same_38
set_option maxHeartbeats 4000000 in
set_option maxRecDepth 100000 in
theorem m_tidyB (l : Launch) (dC : Nat → ClassId) (dI : Nat → Nat → Nat) (a : Nat → Nat) (k : Nat → ClassId) (fn ft gn gt gm : Nat → Int32) (fl : Int32) (o : Nat → Int64) (hinj : nInj a) (x1 : Int32) (hbad : (nO x1 3) = true) : Met l yX1_tidy wsX1_tidy ({ frames := 1, cells := 0, slots := 0, locals := 40 }) (va_Pc [.ref (a 3), .int x1] (nPw dC dI a k fn ft gn gt gm fl o)) (nQi (nI 0) (nPw dC dI a k fn ft gn gt gm (nI 1) o) a) 0 0 (nA0 a) := by
  refine Met.ofW (cc := cX1_tidy) (maxL := 6) (ret := (some .int)) (by decide) rfl ?_
  intro p e s m args below meth c s₁ B hml hv
  obtain ⟨rfl, hP, hK⟩ := hv
  have hx := B.exec
  have hb := B.bytes
  have hr := B.returns
  have hts := atoms_spec (ws := wsX1_tidy) B.pre
  have hown : s.vm.findClass RX1 = some m.cls := findClass_of_methodNamed B.named
  have hlocks := B.notSynchronized
  have hS : va_S (nA0 a) s.heap s.heap [] := va_S.rf
  have hl := lv_entry ([.ref (a 3), .int x1]) (n := 6) (Nat.le_of_ble_eq_true rfl)
  rw [lg_entry_eq]
  generalize (lg_sl ([.ref (a 3), .int x1]) ++ List.replicate (6 - (lg_sl ([.ref (a 3), .int x1])).length) Slot.unset).toArray = ls at hl ⊢
  have hl : lv_has ls 6 [(0, .ref (a 3)), (1, .int x1)] := hl
  refine lv_aload_n hx hb dX1_tidy_0 rfl (lv_at hl 0 rfl) ?_
  refine lv_iconst (v := nI 0) hx hb dX1_tidy_1 (by decide +kernel) ?_
  refine va_put (D := (dC, dI)) (ci := 1) (v := .int (nI 0)) (ty := .int) (C := RX1) (T := TX1) (N := 4) hx hb hts inX1_tidy tyX1 tyX1_ok nmX1 hown hK hP (nDA hinj) hS 3 rfl rfl 0 (by decide) (hts (.fieldLink RX1 20 "NumberCircuitsModel" "failed" "I") (by decide +kernel)) (fun _ h9 => h9) rfl (by decide +kernel) rfl rfl (Nat.le_of_ble_eq_true rfl) dX1_tidy_2 (fun H locs hP _ hS => ?_)
  have hP : va_P (dC, dI) vwCl (nW a k fn ft gn gt gm (nI 0) o) H := hP
  refine lv_aload_n hx hb dX1_tidy_5 rfl (lv_at hl 0 rfl) ?_
  refine lv_iload_n hx hb dX1_tidy_6 rfl (lv_at hl 1 rfl) ?_
  refine lv_iconst (v := nI 3) hx hb dX1_tidy_7 (by decide +kernel) ?_
  refine vp_callSi (W.runV (As := [.int x1, .int (nI 3)]) (rest := []) ⟨hx, hb, hml, hown, hts⟩ (m_out l dC dI a k fn ft gn gt gm (nI 0) o x1 3) (cwV 2 hts gX1_tidy_X1_out rfl rfl rfl (by decide +kernel) ⟨Nat.le_of_ble_eq_true rfl, Nat.le_of_ble_eq_true rfl⟩) (nPreV hP hK (va_recv hK hP (ci := 1) (q0 := 3) rfl rfl)) rfl rfl hl.1 rfl (lv_room (Nat.le_of_ble_eq_true rfl)) dX1_tidy_8 ⟨Nat.zero_le _, Nat.zero_le _⟩) (fun r_8_1 er_8_1 => ?_)
  subst er_8_1
  refine lv_if_eq (tgt := 20) hx hb dX1_tidy_11 (by decide) (fun c0 => ?_) (fun c0 => ?_)
  · exact absurd hbad (by rw [nb_f c0]; decide)
  · refine lv_aload_n hx hb dX1_tidy_14 rfl (lv_at hl 0 rfl) ?_
    refine lv_iconst (v := nI 1) hx hb dX1_tidy_15 (by decide +kernel) ?_
    refine va_calli (va_runV (As := [.int (nI 1)]) (rest := []) ⟨hx, hb, hml, hown, hts⟩ (m_fail l dC dI a k fn ft gn gt gm (nI 0) o hinj (nI 1)) (cwV 1 hts gX1_tidy_X1_fail rfl rfl rfl (by decide +kernel) ⟨Nat.le_of_ble_eq_true rfl, Nat.le_of_ble_eq_true rfl⟩) (nPreV hP hK (va_recv hK hP (ci := 1) (q0 := 3) rfl rfl)) rfl rfl hl.1 rfl (lv_room (Nat.le_of_ble_eq_true rfl)) dX1_tidy_16 ⟨Nat.zero_le _, Nat.zero_le _⟩) hS (fun _ _ h => h) (fun _ h => h) (fun r_16_2 _ t H locs ht hvm er_16_2 hB _ _ hS => ?_)
    subst er_16_2
    have hP : va_P (dC, dI) vwCl (nW a k fn ft gn gt gm (nI 1) o) H := by rw [← ht]; exact hB.1
    exact W.iret hx hb hr (fun t ht hW => ⟨⟨_, (), rfl, rfl, by rw [ht]; exact hP, va_K.moved hW.alike hK⟩, hS.F ht⟩) hS.2.2 dX1_tidy_19
end
