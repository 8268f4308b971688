section
-- ===== PART A: goes FIRST, ahead of the names: the tables' words, and 'selects' of the private methods out of them =====
/-- a private method of a class that the tables say can be made, by its rows of tables_1 -/
def lw_okq (q : MethodName × Nat) : Prop := (q.1.cls ≠ "java/lang/invoke/MethodHandle" ∧ q.1.cls ≠ "java/lang/invoke/VarHandle") ∧ Cond.instantiable q.1.cls q.2 ∈ tables_1 ∧ Cond.privateMethod q.1 ∈ tables_1 ∧ Cond.instanceMethod q.1 ∈ tables_1
theorem lw_p0 : lw_okq (⟨"java/lang/Throwable", "fillInStackTrace", "(I)Ljava/lang/Throwable;"⟩, 6) := ⟨⟨by decide +kernel, by decide +kernel⟩, List.mem_of_getElem? (i := 134) (by decide +kernel), List.mem_of_getElem? (i := 132) (by decide +kernel), List.mem_of_getElem? (i := 133) (by decide +kernel)⟩
theorem lw_p1 : lw_okq (⟨"PageBail", "sweepOn", "()I"⟩, 7) := ⟨⟨by decide +kernel, by decide +kernel⟩, List.mem_of_getElem? (i := 13) (by decide +kernel), List.mem_of_getElem? (i := 208) (by decide +kernel), List.mem_of_getElem? (i := 209) (by decide +kernel)⟩
theorem lw_p2 : lw_okq (⟨"PageBail$PageRow", "remove", "(I)V"⟩, 2) := ⟨⟨by decide +kernel, by decide +kernel⟩, List.mem_of_getElem? (i := 36) (by decide +kernel), List.mem_of_getElem? (i := 216) (by decide +kernel), List.mem_of_getElem? (i := 217) (by decide +kernel)⟩
theorem lw_p3 : lw_okq (⟨"PageBail", "takeOut", "(I)V"⟩, 7) := ⟨⟨by decide +kernel, by decide +kernel⟩, List.mem_of_getElem? (i := 13) (by decide +kernel), List.mem_of_getElem? (i := 296) (by decide +kernel), List.mem_of_getElem? (i := 297) (by decide +kernel)⟩
theorem lw_p4 : lw_okq (⟨"PageBail$PageRow", "borrowOrJoin", "(I)V"⟩, 2) := ⟨⟨by decide +kernel, by decide +kernel⟩, List.mem_of_getElem? (i := 36) (by decide +kernel), List.mem_of_getElem? (i := 308) (by decide +kernel), List.mem_of_getElem? (i := 309) (by decide +kernel)⟩
theorem lw_p5 : lw_okq (⟨"PageBail", "keepOverdue", "()I"⟩, 7) := ⟨⟨by decide +kernel, by decide +kernel⟩, List.mem_of_getElem? (i := 13) (by decide +kernel), List.mem_of_getElem? (i := 359) (by decide +kernel), List.mem_of_getElem? (i := 360) (by decide +kernel)⟩
theorem lw_p6 : lw_okq (⟨"PageBail", "pageToPutOn", "(I)I"⟩, 7) := ⟨⟨by decide +kernel, by decide +kernel⟩, List.mem_of_getElem? (i := 13) (by decide +kernel), List.mem_of_getElem? (i := 388) (by decide +kernel), List.mem_of_getElem? (i := 389) (by decide +kernel)⟩
def lw_privs_1 : List (MethodName × Nat) := [(⟨"java/lang/Throwable", "fillInStackTrace", "(I)Ljava/lang/Throwable;"⟩, 6), (⟨"PageBail", "sweepOn", "()I"⟩, 7), (⟨"PageBail$PageRow", "remove", "(I)V"⟩, 2), (⟨"PageBail", "takeOut", "(I)V"⟩, 7), (⟨"PageBail$PageRow", "borrowOrJoin", "(I)V"⟩, 2), (⟨"PageBail", "keepOverdue", "()I"⟩, 7), (⟨"PageBail", "pageToPutOn", "(I)I"⟩, 7)]
theorem lw_r1 : ∀ q ∈ lw_privs_1, lw_okq q := List.forall_mem_cons.mpr ⟨lw_p0, List.forall_mem_cons.mpr ⟨lw_p1, List.forall_mem_cons.mpr ⟨lw_p2, List.forall_mem_cons.mpr ⟨lw_p3, List.forall_mem_cons.mpr ⟨lw_p4, List.forall_mem_cons.mpr ⟨lw_p5, List.forall_mem_cons.mpr ⟨lw_p6, fun _ h => absurd h List.not_mem_nil⟩⟩⟩⟩⟩⟩⟩
def lw_privs : List (MethodName × Nat) := lw_privs_1
def lw_tbl : List Cond := k2_sels lw_privs ++ tables_1
theorem lw_privs_ok : ∀ q ∈ lw_privs, lw_okq q := lw_r1
/-! ===== BEGIN words of one list among another's, by their places ===== -/
theorem goodIn_r {big : List Cond} (ws : List Cond) (ps : List Nat) (hp : ws = ps.filterMap (fun i => big[i]?)) (h : ws.all goodWord = true) : GoodIn big ws := by
  intro w hw
  have h1 := List.all_eq_true.mp h w hw
  rw [hp] at hw
  obtain ⟨i, -, hi⟩ := List.mem_filterMap.mp hw
  have hm : w ∈ big := by first | exact List.mem_of_getElem? hi | exact List.getElem?_mem hi
  exact ⟨hm, good_of_word h1⟩
theorem goodIn_app {big a b : List Cond} (ha : GoodIn big a) (hb : GoodIn big b) : GoodIn big (a ++ b) := fun w h => (List.mem_append.mp h).elim (ha w) (hb w)
theorem goodIn_ca {big a b : List Cond} {c : Cond} (ha : GoodIn big (c :: a)) (hb : GoodIn big b) : GoodIn big (c :: (a ++ b)) := fun w h => (List.mem_cons.mp h).elim (fun e => ha w (List.mem_cons.mpr (Or.inl e))) (fun h => (List.mem_append.mp h).elim (fun h => ha w (List.mem_cons.mpr (Or.inr h))) (hb w))
theorem goodIn_sub {big ws : List Cond} (hm : ∀ w ∈ ws, w ∈ big) (h : ws.all goodWord = true) : GoodIn big ws := fun w hw => ⟨hm w hw, good_of_word (List.all_eq_true.mp h w hw)⟩
/-! ===== END ===== -/

/-! ===== BEGIN exceptions that leave a method, and their catching by the caller (launches without stack traces) ===== -/
section VXA
/-! The laws vx_back, vx_callV, vx_callS, vx_callSW, vx_throw0, vx_throwS follow proofs of the library, with one case more: JvmDerived/Free/Laws.lean (Back.of_free), Shelf42/LK1.lean (callV, callS), Shelf/KitTraced.lean (throwNew0V, throwNewS). -/
/-- where a method has thrown q: the class by its name, the cell, what was written, the world -/
def vx_T (XC : String → State → State → Prop) (st : State) (q : Addr) (t : State) (mc ms : Nat) (free : Addr → Prop) : Prop :=
  ∃ (E : String) (ce : Cell) (L : List Loc), XC E st t ∧ t.heap[q]? = some ce ∧ ce.vm = .none ∧ st.vm.findClass E = some ce.cls ∧ st.WarmedH t.vm ∧ st.sameButNew ({ t with vm := st.vm } : State) L mc ms ∧ ∀ z ∈ L, free z.base
def vx_Q (Qc : Array Value → State → Outcome → State → Prop) (XC : String → State → State → Prop) (mc ms : Nat) (free : Addr → Prop) : Array Value → State → Outcome → State → Prop := fun a st o t =>
  (Qc a st o t ∧ ∃ L, FrameEnd st o t L mc ms ∧ ∀ q ∈ L, free q.base) ∨ ∃ q, o = .threw q ∧ vx_T XC st q t mc ms free
/-- a callee that returns or throws -/
def vx_Met (l : Launch) (y : MethodName) (ws : List Cond) (rm : Room) (Pc : Array Value → State → Prop) (Qc : Array Value → State → Outcome → State → Prop) (XC : String → State → State → Prop) (mc ms : Nat) (free : Addr → Prop) : Prop :=
  MetFree l y (headSpec ws rm) Pc (fun _ _ _ _ _ => True) (vx_Q Qc XC mc ms free)
def vx_Post (XC : String → State → State → Prop) (mc ms : Nat) (free : Addr → Prop) : Pt → Array Value → Addr → Pt → Prop := fun A a q B =>
  ∃ (g : JFrame) (mk : MethodId) (t : State) (L : List Loc) (E : String) (ce : Cell), B.U.heap = t.heap ∧ B.U.vm = t.vm ∧ XC E (A.U.calling g mk a) t ∧ t.heap[q]? = some ce ∧ ce.vm = .none ∧ A.U.vm.findClass E = some ce.cls ∧ B.locs = A.locs ++ L ∧ (∀ z ∈ L, free z.base) ∧ B.cells = A.cells + mc ∧ B.slots = A.slots + ms
def vx_Back (l : Launch) (R : Room) (p : Program) (e : Env) (below : List Frame) (s : State) (sargs : Array Value) (y : MethodName) (len W9 : Nat)
    (Pre : Pt → Array Value → Prop) (Post : Pt → Array Value → Option Value → Pt → Prop) (PostX : Pt → Array Value → Addr → Pt → Prop) : Prop :=
  ∀ (m : MethodId) (meth : Method) (c : Code) (A : Pt) (g : JFrame) (ig : Instr) (mk : MethodId) (a : Array Value),
    Stand p l e R s m sargs below meth c A.U A.locs A.cells A.slots → g.method = m → g.locals.size = c.maxLocals → decode c.code g.pc = .ok (ig, len) →
    2 * g.monitorRoom + (g.stack.map fun v => v.category).sum ≤ W9 → A.U.methodNamed? y = some mk → Pre A a →
    (∃ (v : Option Value) (B : Pt), Stand p l e R s m sargs below meth c B.U B.locs B.cells B.slots ∧ Post A a v B ∧
      Steps p.tables e below (doInvoke e (A.U.setTop g) [] mk a).1 (B.U.setTop { g with pc := g.pc + len, stack := v.toList ++ g.stack })) ∨
    (∃ (q : Addr) (B : Pt), Stand p l e R s m sargs below meth c B.U B.locs B.cells B.slots ∧ PostX A a q B ∧
      Steps p.tables e below (doInvoke e (A.U.setTop g) [] mk a).1 ((B.U.setTop g).pushFrame (.throwing q)))
section Payer
variable {l : Launch} {R : Room} {p : Program} {e : Env} {below : List Frame} {s : State} {sargs : Array Value} {y : MethodName} {len W9 : Nat}
theorem vx_back {ws : List Cond} {rm : Room} {Pc : Array Value → State → Prop} {Qc : Array Value → State → Outcome → State → Prop} {XC : String → State → State → Prop} {mc ms : Nat} {free : Addr → Prop} {bytes : ByteArray} {maxL : Nat} {ret : Option FieldType}
    (hM : vx_Met l y ws rm Pc Qc XC mc ms free) (hblind : FrameBlind Pc) (hrc : rm.cells = mc) (hrs : rm.slots = ms)
    (hframes : rm.frames + 1 ≤ R.frames) (hlocals : W9 + (maxL + 11) + rm.locals ≤ R.locals)
    (hws : ∀ w ∈ ws, ∀ a' U, s.WarmedH U.vm → w.before a' U = true) (hcode : Cond.code y bytes maxL ret ∈ ws) (hinit : ∀ a' U, s.WarmedH U.vm → (Cond.initialized y.cls).before a' U = true) :
    vx_Back l R p e below s sargs y len W9 (PreOf R mc ms Pc) (PostOf Qc mc ms free) (vx_Post XC mc ms free) := by
  intro m meth c A g ig mk a X hg hsize hdg hW hn hp
  have h1 : (headSpec ws rm).pre.before a A.U = true := atoms_intro fun w hw => hws w hw _ _ X.warmed
  have h2 : (Cond.code y bytes maxL ret).before a A.U = true := hws _ hcode _ _ X.warmed
  have h3 : (Cond.initialized y.cls).before a A.U = true := hinit _ _ X.warmed
  have h4 : A.cells + (headSpec ws rm).room.cells ≤ R.cells := by rw [show (headSpec ws rm).room.cells = mc from hrc]; exact hp.1
  have h5 : A.slots + (headSpec ws rm).room.slots ≤ R.slots := by rw [show (headSpec ws rm).room.slots = ms from hrs]; exact hp.2.1
  have hPc : Pc a (A.U.calling g mk a) := hblind _ _ _ _ hp.2.2
  obtain ⟨U, Ls, c0, s0⟩ := A
  dsimp only [Pt.U, Pt.locs, Pt.cells, Pt.slots] at h1 h2 h3 h4 h5 X hn hPc ⊢
  obtain ⟨methY, cY, hmY, hcY, -, hlY, -, -, -, -⟩ := Cond.code_spec hn h2
  obtain ⟨kY, hkY, -⟩ := className_of_methodNamed hn
  have hinitY : kY.init = .initialized := Cond.initialized_spec (findClass_of_methodNamed hn) hkY h3
  have h : At U g.method c below := by rw [hg]; exact X.here
  have hlocals9 : W9 + (maxL + 11) + (headSpec ws rm).room.locals ≤ R.locals := hlocals
  have happ : (headSpec ws rm).appliesLoose y e.platform (U.calling g mk a) = true :=
    Spec.appliesLoose_calling (g := g) h hdg hn hkY hinitY
      (X.room_calling (g := g) (R' := (headSpec ws rm).room) hsize hmY hcY hframes (by rw [hlY]; omega) h4 h5) h1
  obtain ⟨mid, hmid⟩ := h.above
  have hfr : (U.setTop g).frames = (.java g :: mid) ++ below := by rw [State.frames_setTop' g h.top, hmid]; rfl
  obtain ⟨o, s₂, hsteps, -, hend, hq⟩ := Steps.callFree hM p X.admits X.cas X.clock (acts := []) hfr happ hPc trivial
  have hq' : vx_Q Qc XC mc ms free a (U.calling g mk a) o s₂ := hq
  rw [State.frames_setTop' g h.top] at hend
  obtain ⟨g₀, hg0⟩ := Option.isSome_iff_exists.mp h.top
  obtain ⟨r, hr⟩ := State.topJava?_eq_some.mp hg0
  have hr' : (({ U with heap := s₂.heap, slotsUsed := s₂.slotsUsed } : State).setVm s₂.vm).frames = .java g₀ :: r := hr
  rcases hq' with ⟨hqc, L, hfe, hL⟩ | ⟨q, rfl, E, ce, L, hx, hce, hcv, hcl, hW₂, hsm, hL⟩
  · obtain ⟨⟨v, rfl⟩, hW₂, e2, q2, q3, q4, q5, q6⟩ := id hfe
    have e3 : s₂ = ({ (U.calling g mk a).setFrames s₂.frames with heap := s₂.heap, slotsUsed := s₂.slotsUsed } : State).setVm s₂.vm := by
      have : s₂ = ({ s₂ with vm := (U.calling g mk a).vm } : State).setVm s₂.vm := rfl
      rw [e2] at this
      exact this
    obtain ⟨c₂, i₂, len₂, hc₂, hd₂, hf₂⟩ := hend
    have hW' : U.WarmedH s₂.vm := hW₂
    have hcc : c₂ = c := by
      have h1 : s₂.code? g.method = U.code? g.method := by
        rw [State.code?_eq, State.code?_eq, hW'.alike.method?]
      exact Option.some.inj (hc₂.symm.trans (h1.trans h.code))
    subst hcc
    have hlen : len₂ = len := by rw [hdg] at hd₂; cases hd₂; rfl
    subst hlen
    have hs₂ : s₂ = (({ U with heap := s₂.heap, slotsUsed := s₂.slotsUsed } : State).setVm s₂.vm).setTop { g with pc := g.pc + len₂, stack := v.toList ++ g.stack } := by
      refine e3.trans ?_
      rw [hf₂, State.calling_eq h.top, State.setFrames_setFrames, State.setTop_of_frames _ hr', hr]
      rfl
    have hsame : U.sameButNew ({ U with heap := s₂.heap, slotsUsed := s₂.slotsUsed } : State) L mc ms := by
      refine ⟨?_, q2, q3, q4, q5, q6⟩
      obtain ⟨t, ht, -⟩ := State.frames_cons hr
      show ({ U with heap := s₂.heap, slotsUsed := s₂.slotsUsed } : State) = { U.setFrames U.frames with heap := s₂.heap, slotsUsed := s₂.slotsUsed }
      rw [State.setFrames_self ht]
    subst hg
    refine Or.inl ⟨v, ⟨(({ U with heap := s₂.heap, slotsUsed := s₂.slotsUsed } : State).setVm s₂.vm), Ls ++ L, c0 + mc, s0 + ms⟩,
      ⟨X.admits, X.cas, X.clock, X.frames, X.room, X.hears, X.method, X.code, (X.here.setHeapUsed s₂.heap s₂.slotsUsed).setVm hW'.alike, X.tail, State.WarmedH.trans X.warmed hW', X.limits, X.bytes, X.same.trans (hsame.setVm s.vm)⟩,
      ⟨g, mk, s₂, L, rfl, rfl, hqc, rfl, hL, rfl, rfl⟩, ?_⟩
    show Steps p.tables e below _ ((({ U with heap := s₂.heap, slotsUsed := s₂.slotsUsed } : State).setVm s₂.vm).setTop { g with pc := g.pc + len₂, stack := v.toList ++ g.stack })
    rw [← hs₂]
    exact hsteps
  · obtain ⟨e2, q2, q3, q4, q5, q6⟩ := id hsm
    have e3 : s₂ = ({ (U.calling g mk a).setFrames s₂.frames with heap := s₂.heap, slotsUsed := s₂.slotsUsed } : State).setVm s₂.vm := by
      have : s₂ = ({ s₂ with vm := (U.calling g mk a).vm } : State).setVm s₂.vm := rfl
      rw [e2] at this
      exact this
    have hf₂ : s₂.frames = .throwing q :: .java g :: U.frames.tail := hend
    have hW' : U.WarmedH s₂.vm := hW₂
    have hs₂ : s₂ = ((({ U with heap := s₂.heap, slotsUsed := s₂.slotsUsed } : State).setVm s₂.vm).setTop g).pushFrame (.throwing q) := by
      refine e3.trans ?_
      rw [hf₂, State.calling_eq h.top, State.setFrames_setFrames, State.pushFrame, State.frames_setTop _ hr', State.setTop_of_frames _ hr', State.setFrames_setFrames, hr]
      rfl
    have hsame : U.sameButNew ({ U with heap := s₂.heap, slotsUsed := s₂.slotsUsed } : State) L mc ms := by
      refine ⟨?_, q2, q3, q4, q5, q6⟩
      obtain ⟨t, ht, -⟩ := State.frames_cons hr
      show ({ U with heap := s₂.heap, slotsUsed := s₂.slotsUsed } : State) = { U.setFrames U.frames with heap := s₂.heap, slotsUsed := s₂.slotsUsed }
      rw [State.setFrames_self ht]
    subst hg
    refine Or.inr ⟨q, ⟨(({ U with heap := s₂.heap, slotsUsed := s₂.slotsUsed } : State).setVm s₂.vm), Ls ++ L, c0 + mc, s0 + ms⟩,
      ⟨X.admits, X.cas, X.clock, X.frames, X.room, X.hears, X.method, X.code, (X.here.setHeapUsed s₂.heap s₂.slotsUsed).setVm hW'.alike, X.tail, State.WarmedH.trans X.warmed hW', X.limits, X.bytes, X.same.trans (hsame.setVm s.vm)⟩,
      ⟨g, mk, s₂, L, E, ce, rfl, rfl, hx, hce, hcv, hcl, rfl, hL, rfl, rfl⟩, ?_⟩
    show Steps p.tables e below _ (((({ U with heap := s₂.heap, slotsUsed := s₂.slotsUsed } : State).setVm s₂.vm).setTop g).pushFrame (.throwing q))
    rw [← hs₂]
    exact hsteps
end Payer
section Calls
variable {p : Program} {l : Launch} {e : Env} {R : Room} {s : State} {m : MethodId} {args : Array Value} {below : List Frame} {meth : Method} {c : Code} {T : State} {locs : List Loc} {cells slots : Nat}
theorem vx_callV (X : Stand p l e R s m args below meth c T locs cells slots) (hexec : p.tables.exec = Jvm.exec) {own C : String} {index : Nat} {y : MethodName} {bytes : ByteArray} {maxL : Nat} {ret : Option FieldType}
    (hown : s.vm.findClass own = some m.cls) (hlink : (Cond.methodLink own index y).before args s = true) (hinst : (Cond.instanceMethod y).before args s = true) (hsel : (Cond.selects C y y).before args s = true)
    (hcode : (Cond.code y bytes maxL ret).before args s = true) (hy : y.cls ≠ "java/lang/invoke/MethodHandle" ∧ y.cls ≠ "java/lang/invoke/VarHandle")
    {W9 : Nat} {Pre : Pt → Array Value → Prop} {Post : Pt → Array Value → Option Value → Pt → Prop} {PostX : Pt → Array Value → Addr → Pt → Prop} (hK : vx_Back l R p e below s args y 3 W9 Pre Post PostX)
    {b : Addr} {cellB : Cell} (hcell : T.heap[b]? = some cellB) (hobj : cellB.vm.isStatics = false) (hcls : s.vm.findClass C = some cellB.cls)
    {g : JFrame} (hg : g.method = m) (hsize : g.locals.size = c.maxLocals) {argsL rest : List Value} (hlen : ∀ sig, parseMethodDescriptor y.desc = some sig → argsL.length = sig.parameters.length)
    (hstack : g.stack = argsL.reverse ++ .ref b :: rest) (hW : 2 * g.monitorRoom + (rest.map fun v => v.category).sum ≤ W9) (hdg : decode c.code g.pc = .ok (.invokevirtual index, 3))
    (hpre : ∀ vm₁, s.WarmedH vm₁ → Pre ⟨T.setVm vm₁, locs, cells, slots⟩ (Value.ref b :: argsL).toArray) :
    (∃ (v : Option Value) (vm₁ : Vm) (B : Pt), s.WarmedH vm₁ ∧ Stand p l e R s m args below meth c B.U B.locs B.cells B.slots ∧ Post ⟨T.setVm vm₁, locs, cells, slots⟩ (Value.ref b :: argsL).toArray v B ∧
      ∀ target, Steps p.tables e below (B.U.setTop { g with pc := g.pc + 3, stack := v.toList ++ rest }) target → Steps p.tables e below (T.setTop g) target) ∨
    (∃ (q : Addr) (vm₁ : Vm) (B : Pt), s.WarmedH vm₁ ∧ Stand p l e R s m args below meth c B.U B.locs B.cells B.slots ∧ PostX ⟨T.setVm vm₁, locs, cells, slots⟩ (Value.ref b :: argsL).toArray q B ∧
      Steps p.tables e below (T.setTop g) ((B.U.setTop { g with stack := rest }).pushFrame (.throwing q))) := by
  obtain ⟨mk, methM, hnamed, hmethM, hstM, habM⟩ := Cond.instanceMethod_spec hinst
  obtain ⟨methM', cM, hmethM', -, -, -, -, -, -, hsigM⟩ := Cond.code_spec hnamed hcode
  cases hmethM.symm.trans hmethM'
  obtain ⟨c2, r2, m2, q1, q2, q3, q4, kP, hkP, hkPi⟩ := Cond.selects_spec hsel
  cases hcls.symm.trans q1
  cases (State.methodFound?_of_named hnamed hy).symm.trans q2
  cases hnamed.symm.trans q3
  have hselP : selectMethod e.platform s.vm cellB.cls mk = .method mk := by rw [Launch.admits_selectMethod X.admits]; exact q4
  obtain ⟨vm₁, X₁, hstep₁⟩ := X.invokevirtual hexec hown hlink hnamed hmethM hstM hkP hkPi hy (a := b) (cell := cellB) hcell
    (fun z h => by rw [h] at hobj; cases hobj) hselP hmethM habM hkP hkPi (g := g) hg (argsL := argsL) (rest := rest) (hlen _ hsigM) hstack hdg
  rcases hK m meth c ⟨T.setVm vm₁, locs, cells, slots⟩ { g with stack := rest } (.invokevirtual index) mk (Value.ref b :: argsL).toArray X₁ hg hsize hdg hW (X₁.named hnamed) (hpre vm₁ X₁.warmed) with ⟨v, B, X', hpost, hsteps⟩ | ⟨q, B, X', hpost, hsteps⟩
  · exact Or.inl ⟨v, vm₁, B, X₁.warmed, X', hpost, fun target h => hstep₁ _ fun acts => by rw [doInvoke_state]; exact hsteps.trans h⟩
  · exact Or.inr ⟨q, vm₁, B, X₁.warmed, X', hpost, hstep₁ _ fun acts => by rw [doInvoke_state]; exact hsteps⟩
theorem vx_callS (X : Stand p l e R s m args below meth c T locs cells slots) (hexec : p.tables.exec = Jvm.exec) {own : String} {index : Nat} {y : MethodName} {bytes : ByteArray} {maxL : Nat} {ret : Option FieldType}
    (hown : s.vm.findClass own = some m.cls) (hlink : (Cond.methodLink own index y).before args s = true) (hstat : (Cond.static y).before args s = true) (hinit : (Cond.initialized y.cls).before args s = true)
    (hcode : (Cond.code y bytes maxL ret).before args s = true) (hy : y.cls ≠ "java/lang/invoke/MethodHandle" ∧ y.cls ≠ "java/lang/invoke/VarHandle")
    {W9 : Nat} {Pre : Pt → Array Value → Prop} {Post : Pt → Array Value → Option Value → Pt → Prop} {PostX : Pt → Array Value → Addr → Pt → Prop} (hK : vx_Back l R p e below s args y 3 W9 Pre Post PostX)
    {g : JFrame} (hg : g.method = m) (hsize : g.locals.size = c.maxLocals) {argsL rest : List Value} (hlen : ∀ sig, parseMethodDescriptor y.desc = some sig → argsL.length = sig.parameters.length)
    (hstack : g.stack = argsL.reverse ++ rest) (hW : 2 * g.monitorRoom + (rest.map fun v => v.category).sum ≤ W9) (hdg : decode c.code g.pc = .ok (.invokestatic index, 3))
    (hpre : ∀ vm₁, s.WarmedH vm₁ → Pre ⟨T.setVm vm₁, locs, cells, slots⟩ argsL.toArray) :
    (∃ (v : Option Value) (vm₁ : Vm) (B : Pt), s.WarmedH vm₁ ∧ Stand p l e R s m args below meth c B.U B.locs B.cells B.slots ∧ Post ⟨T.setVm vm₁, locs, cells, slots⟩ argsL.toArray v B ∧
      ∀ target, Steps p.tables e below (B.U.setTop { g with pc := g.pc + 3, stack := v.toList ++ rest }) target → Steps p.tables e below (T.setTop g) target) ∨
    (∃ (q : Addr) (vm₁ : Vm) (B : Pt), s.WarmedH vm₁ ∧ Stand p l e R s m args below meth c B.U B.locs B.cells B.slots ∧ PostX ⟨T.setVm vm₁, locs, cells, slots⟩ argsL.toArray q B ∧
      Steps p.tables e below (T.setTop g) ((B.U.setTop { g with stack := rest }).pushFrame (.throwing q))) := by
  obtain ⟨mk, hnamed⟩ := Cond.code_named hcode
  obtain ⟨methM, cM, hmethM, -, -, -, -, -, -, hsigM⟩ := Cond.code_spec hnamed hcode
  have hstatic : methM.isStatic = true := Cond.static_spec hnamed hmethM hstat
  obtain ⟨kP, hkP, -⟩ := className_of_methodNamed hnamed
  have hinitP : kP.init = .initialized := Cond.initialized_spec (findClass_of_methodNamed hnamed) hkP hinit
  obtain ⟨vm₁, X₁, hstep₁⟩ := X.invokestatic hexec hown hlink hnamed hmethM hstatic hkP hinitP hy (g := g) hg (argsL := argsL) (rest := rest) (hlen _ hsigM) hstack hdg
  rcases hK m meth c ⟨T.setVm vm₁, locs, cells, slots⟩ { g with stack := rest } (.invokestatic index) mk argsL.toArray X₁ hg hsize hdg hW (X₁.named hnamed) (hpre vm₁ X₁.warmed) with ⟨v, B, X', hpost, hsteps⟩ | ⟨q, B, X', hpost, hsteps⟩
  · exact Or.inl ⟨v, vm₁, B, X₁.warmed, X', hpost, fun target h => hstep₁ _ fun acts => by rw [doInvoke_state]; exact hsteps.trans h⟩
  · exact Or.inr ⟨q, vm₁, B, X₁.warmed, X', hpost, hstep₁ _ fun acts => by rw [doInvoke_state]; exact hsteps⟩
end Calls
theorem vx_cls {s : State} {T : State} {vm₁ : Vm} {E : String} {k : ClassId} (hW : s.WarmedH vm₁) (h : (T.setVm vm₁).vm.findClass E = some k) : s.vm.findClass E = some k := by
  have h1 : vm₁.findClass E = some k := h
  rw [hW.alike.findClass] at h1
  exact h1
/-- the method's frame g, with q thrown over it -/
def vx_W (p : Program) (l : Launch) (e : Env) (R : Room) (s : State) (m : MethodId) (args : Array Value) (below : List Frame) (meth : Method) (c : Code) (H : Heap) (locs : List Loc) (cells slots : Nat) (Q : State → Prop) (g : JFrame) (q : Addr) : Prop :=
  ∀ T : State, T.heap = H → Stand p l e R s m args below meth c T locs cells slots → ∃ t, Steps p.tables e below ((T.setTop g).pushFrame (.throwing q)) t ∧ Q t
def vx_Run (p : Program) (l : Launch) (e : Env) (R : Room) (s : State) (m : MethodId) (args : Array Value) (below : List Frame) (meth : Method) (c : Code) (H : Heap) (locs : List Loc) (cells slots mc ms : Nat) (g : JFrame) (rest : List Value) (Qa : State → Outcome → State → Prop) (XC : String → State → State → Prop) (free : Addr → Prop) : Prop :=
  ∀ T : State, T.heap = H → Stand p l e R s m args below meth c T locs cells slots →
    (∃ (v : Option Value) (st₀ t T' : State) (L : List Loc), st₀.heap = H ∧ Stand p l e R s m args below meth c T' (locs ++ L) (cells + mc) (slots + ms) ∧ (∀ q ∈ L, free q.base) ∧ T'.heap = t.heap ∧ T'.vm = t.vm ∧ Qa st₀ (.returned v) t ∧
      Goes p e below T g T' { g with pc := g.pc + 3, stack := v.toList ++ rest }) ∨
    (∃ (q : Addr) (st₀ t T' : State) (L : List Loc) (E : String) (ce : Cell), st₀.heap = H ∧ Stand p l e R s m args below meth c T' (locs ++ L) (cells + mc) (slots + ms) ∧ (∀ z ∈ L, free z.base) ∧ T'.heap = t.heap ∧ T'.vm = t.vm ∧ XC E st₀ t ∧ t.heap[q]? = some ce ∧ ce.vm = .none ∧ s.vm.findClass E = some ce.cls ∧
      Steps p.tables e below (T.setTop g) ((T'.setTop { g with stack := rest }).pushFrame (.throwing q)))
def vx_X {S : Type} (px : S → Prop) (B : String → S → State → Prop) (A : Nat → Prop) : String → State → State → Prop := fun E st t => ∃ u : S, px u ∧ B E u t ∧ va_F A st t
section Runs
variable {p : Program} {l : Launch} {e : Env} {R : Room} {s : State} {m : MethodId} {args : Array Value} {below : List Frame} {meth : Method} {c : Code} {H : Heap} {locs : List Loc} {cells slots : Nat}
variable {y : MethodName} {bytes cc : ByteArray} {maxL nL mc ms n index : Nat} {ret : Option FieldType} {ws : List Cond} {rm : Room} {Pc : Array Value → State → Prop} {Qc : Array Value → State → Outcome → State → Prop} {XC : String → State → State → Prop} {free : Addr → Prop} {Ts : List Cond} {own C : String} {b : Addr} {As rest : List Value} {g : JFrame}
theorem vx_callBack (cb : CallB R s args own index y bytes maxL ret ws rm mc ms n) (hM : vx_Met l y ws rm Pc Qc XC mc ms free) (hbl : FrameBlind Pc) : vx_Back l R p e below s args y 3 8 (PreOf R mc ms Pc) (PostOf Qc mc ms free) (vx_Post XC mc ms free) := by
  obtain ⟨hrc, hrs, hfr, hlo, hws, hcw, -, hini, -⟩ := cb
  exact vx_back (bytes := bytes) (maxL := maxL) (ret := ret) hM hbl hrc hrs hfr hlo hws hcw (fun a' U hW => word_at hW (Or.inl (by first | rfl | simp [Cond.onTables, Cond.keeps, Cond.steady])) hini)
theorem vx_runV (S : CallFix p m c cc nL s args Ts own) (hM : vx_Met l y ws rm Pc Qc XC mc ms free) (cw : CallW R s args own C index y bytes maxL ret ws rm mc ms n) (hp : PreV s H C b Pc As)
    (hg : g.method = m) (hn : As.length = n) (hsize : g.locals.size = nL) (hstack : g.stack = As.reverse ++ .ref b :: rest) (hW : 2 * g.monitorRoom + (rest.map fun v => v.category).sum ≤ 8) (hdg : decode cc g.pc = .ok (.invokevirtual index, 3)) (hf : cells + mc ≤ R.cells ∧ slots + ms ≤ R.slots) :
    vx_Run p l e R s m args below meth c H locs cells slots mc ms g rest (Qc (Value.ref b :: As).toArray) XC free := by
  have hK : vx_Back l R p e below s args y 3 8 (PreOf R mc ms Pc) (PostOf Qc mc ms free) (vx_Post XC mc ms free) := vx_callBack cw.1 hM hp.1
  obtain ⟨⟨-, -, -, -, -, -, hcode, -, hy, hlen, hl⟩, hin, hse⟩ := cw
  obtain ⟨hx, hb, hml, ho, -⟩ := S
  obtain ⟨-, ⟨cellB, hcB, hoB, hclB⟩, hPc⟩ := hp
  intro T hT X
  rcases vx_callV X hx (C := C) (bytes := bytes) (maxL := maxL) (ret := ret) ho hl hin hse hcode hy hK (by rw [hT]; exact hcB) hoB hclB hg (hsize.trans hml.symm) (argsL := As) (rest := rest) (fun sig h => hn.trans (hlen sig h)) hstack hW (by rw [hb]; exact hdg)
    (fun vm₁ hW₁ => ⟨hf.1, hf.2, hPc (T.setVm vm₁) hT hW₁⟩) with ⟨v, vm₁, ⟨U', l2, c2, s2⟩, hW₁, X', ⟨g', mk, t, L, e1, e2, hq, h1, hL, h2, h3⟩, st⟩ | ⟨q, vm₁, ⟨U', l2, c2, s2⟩, hW₁, X', ⟨g', mk, t, L, E, ce, e1, e2, hq, hce, hcv, hcl, h1, hL, h2, h3⟩, st⟩
  · dsimp only [Pt.U, Pt.locs, Pt.cells, Pt.slots] at X' e1 e2 h1 h2 h3 st
    subst h1; subst h2; subst h3
    exact Or.inl ⟨v, (T.setVm vm₁).calling g' mk (Value.ref b :: As).toArray, t, U', L, hT, X', hL, e1, e2, hq, st⟩
  · dsimp only [Pt.U, Pt.locs, Pt.cells, Pt.slots] at X' e1 e2 h1 h2 h3 st hcl
    subst h1; subst h2; subst h3
    exact Or.inr ⟨q, (T.setVm vm₁).calling g' mk (Value.ref b :: As).toArray, t, U', L, E, ce, hT, X', hL, e1, e2, hq, hce, hcv, vx_cls hW₁ hcl, st⟩
theorem vx_runS (S : CallFix p m c cc nL s args Ts own) (hM : vx_Met l y ws rm Pc Qc XC mc ms free) (cw : CallB R s args own index y bytes maxL ret ws rm mc ms n ∧ (Cond.static y).before args s = true) (hp : PreS s H Pc As)
    (hg : g.method = m) (hn : As.length = n) (hsize : g.locals.size = nL) (hstack : g.stack = As.reverse ++ rest) (hW : 2 * g.monitorRoom + (rest.map fun v => v.category).sum ≤ 8) (hdg : decode cc g.pc = .ok (.invokestatic index, 3)) (hf : cells + mc ≤ R.cells ∧ slots + ms ≤ R.slots) :
    vx_Run p l e R s m args below meth c H locs cells slots mc ms g rest (Qc As.toArray) XC free := by
  have hK : vx_Back l R p e below s args y 3 8 (PreOf R mc ms Pc) (PostOf Qc mc ms free) (vx_Post XC mc ms free) := vx_callBack cw.1 hM hp.1
  obtain ⟨⟨-, -, -, -, -, -, hcode, hini, hy, hlen, hl⟩, hstt⟩ := cw
  obtain ⟨hx, hb, hml, ho, -⟩ := S
  intro T hT X
  rcases vx_callS X hx (bytes := bytes) (maxL := maxL) (ret := ret) ho hl hstt hini hcode hy hK hg (hsize.trans hml.symm) (argsL := As) (rest := rest) (fun sig h => hn.trans (hlen sig h)) hstack hW (by rw [hb]; exact hdg)
    (fun vm₁ hW₁ => ⟨hf.1, hf.2, hp.2 (T.setVm vm₁) hT hW₁⟩) with ⟨v, vm₁, ⟨U', l2, c2, s2⟩, hW₁, X', ⟨g', mk, t, L, e1, e2, hq, h1, hL, h2, h3⟩, st⟩ | ⟨q, vm₁, ⟨U', l2, c2, s2⟩, hW₁, X', ⟨g', mk, t, L, E, ce, e1, e2, hq, hce, hcv, hcl, h1, hL, h2, h3⟩, st⟩
  · dsimp only [Pt.U, Pt.locs, Pt.cells, Pt.slots] at X' e1 e2 h1 h2 h3 st
    subst h1; subst h2; subst h3
    exact Or.inl ⟨v, (T.setVm vm₁).calling g' mk As.toArray, t, U', L, hT, X', hL, e1, e2, hq, st⟩
  · dsimp only [Pt.U, Pt.locs, Pt.cells, Pt.slots] at X' e1 e2 h1 h2 h3 st hcl
    subst h1; subst h2; subst h3
    exact Or.inr ⟨q, (T.setVm vm₁).calling g' mk As.toArray, t, U', L, E, ce, hT, X', hL, e1, e2, hq, hce, hcv, vx_cls hW₁ hcl, st⟩
end Runs
section Rows
variable {p : Program} {l : Launch} {e : Env} {R : Room} {s : State} {m : MethodId} {args : Array Value} {below : List Frame} {meth : Method} {c : Code} {H : Heap} {locs : List Loc} {cells slots : Nat} {Q : State → Prop}
variable {mc ms : Nat} {free : Addr → Prop} {A0 A1 : Nat → Prop} {H0 : Heap} {a : Array Value} {pc : Nat} {ls : Array Slot} {st0 rest : List Value}
theorem vx_keep {st₀ t T' : State} {L : List Loc} (h0 : st₀.heap = H) (e1 : T'.heap = t.heap) (hS : va_S A0 H0 H locs) (hA : ∀ q, q < H.size → A1 q → A0 q) (hf : ∀ q, free q → A0 q) (hL : ∀ q ∈ L, free q.base) (hF : va_F A1 st₀ t) :
    H.size ≤ T'.heap.size ∧ (∀ q : Nat, q < H.size → ¬ A1 q → T'.heap[q]? = H[q]?) ∧ va_S A0 H0 T'.heap (locs ++ L) := by
  obtain ⟨hz, hk⟩ := hF
  rw [h0] at hz hk
  exact ⟨by rw [e1]; exact hz, fun q h1 h2 => by rw [e1]; exact hk q h1 h2,
    ⟨Nat.le_trans hS.1 (by rw [e1]; exact hz), fun q h1 h2 => by rw [e1, hk q (Nat.lt_of_lt_of_le h1 hS.1) (fun z => h2 (hA q (Nat.lt_of_lt_of_le h1 hS.1) z))]; exact hS.2.1 q h1 h2, fun q hq => by
      rcases List.mem_append.mp hq with h | h
      · exact hS.2.2 q h
      · exact hf _ (hL q h)⟩⟩
theorem vx_calli {S SX : Type} {post : Int32 → S → Prop} {px : SX → Prop} {B : S → State → Prop} {BX : String → SX → State → Prop} {AX : Nat → Prop} (hr : vx_Run p l e R s m args below meth c H locs cells slots mc ms (F0 m pc ls st0) rest (va_Qi post B A1 a) (vx_X px BX AX) free) (hS : va_S A0 H0 H locs) (hA : ∀ q, q < H.size → A1 q → A0 q) (hf : ∀ q, free q → A0 q) (hAX : ∀ q, q < H.size → AX q → A0 q)
    (kx : ∀ (E : String) (ce : Cell) (q9 : Addr) (u : SX) (t : State) (H1 : Heap) (locs1 : List Loc), t.heap = H1 → s.vm.Alike t.vm → px u → BX E u t → H.size ≤ H1.size → (∀ q : Nat, q < H.size → ¬ AX q → H1[q]? = H[q]?) → va_S A0 H0 H1 locs1 → H1[q9]? = some ce → ce.vm = .none → s.vm.findClass E = some ce.cls → vx_W p l e R s m args below meth c H1 locs1 (cells + mc) (slots + ms) Q (F0 m pc ls rest) q9)
    (kk : ∀ (r : Int32) (u : S) (t : State) (H1 : Heap) (locs1 : List Loc), t.heap = H1 → s.vm.Alike t.vm → post r u → B u t → H.size ≤ H1.size → (∀ q : Nat, q < H.size → ¬ A1 q → H1[q]? = H[q]?) → va_S A0 H0 H1 locs1 → W p l e R s m args below meth c H1 locs1 (cells + mc) (slots + ms) Q (F0 m (pc + 3) ls (.int r :: rest))) : W p l e R s m args below meth c H locs cells slots Q (F0 m pc ls st0) := by
  intro T hT X
  rcases hr T hT X with ⟨v, st₀, t, T', L, h0, X', hL, e1, e2, ⟨⟨r, u, hv, hp, hb⟩, hF⟩, st⟩ | ⟨q, st₀, t, T', L, E, ce, h0, X', hL, e1, e2, ⟨u, hp, hb, hF⟩, hce, hcv, hcl, st⟩
  · cases hv
    obtain ⟨k1, k2, k3⟩ := vx_keep h0 e1 hS hA hf hL hF
    obtain ⟨t2, a1, b1⟩ := kk r u t T'.heap (locs ++ L) e1.symm (by rw [← e2]; exact X'.warmed.alike) hp hb k1 k2 k3 T' rfl X'
    exact ⟨t2, st t2 a1, b1⟩
  · obtain ⟨k1, k2, k3⟩ := vx_keep h0 e1 hS hAX hf hL hF
    obtain ⟨t2, a1, b1⟩ := kx E ce q u t T'.heap (locs ++ L) e1.symm (by rw [← e2]; exact X'.warmed.alike) hp hb k1 k2 k3 (by rw [e1]; exact hce) hcv hcl T' rfl X'
    exact ⟨t2, st.trans a1, b1⟩
theorem vx_calll {S SX : Type} {post : Int64 → S → Prop} {px : SX → Prop} {B : S → State → Prop} {BX : String → SX → State → Prop} {AX : Nat → Prop} (hr : vx_Run p l e R s m args below meth c H locs cells slots mc ms (F0 m pc ls st0) rest (va_Ql post B A1 a) (vx_X px BX AX) free) (hS : va_S A0 H0 H locs) (hA : ∀ q, q < H.size → A1 q → A0 q) (hf : ∀ q, free q → A0 q) (hAX : ∀ q, q < H.size → AX q → A0 q)
    (kx : ∀ (E : String) (ce : Cell) (q9 : Addr) (u : SX) (t : State) (H1 : Heap) (locs1 : List Loc), t.heap = H1 → s.vm.Alike t.vm → px u → BX E u t → H.size ≤ H1.size → (∀ q : Nat, q < H.size → ¬ AX q → H1[q]? = H[q]?) → va_S A0 H0 H1 locs1 → H1[q9]? = some ce → ce.vm = .none → s.vm.findClass E = some ce.cls → vx_W p l e R s m args below meth c H1 locs1 (cells + mc) (slots + ms) Q (F0 m pc ls rest) q9)
    (kk : ∀ (r : Int64) (u : S) (t : State) (H1 : Heap) (locs1 : List Loc), t.heap = H1 → s.vm.Alike t.vm → post r u → B u t → H.size ≤ H1.size → (∀ q : Nat, q < H.size → ¬ A1 q → H1[q]? = H[q]?) → va_S A0 H0 H1 locs1 → W p l e R s m args below meth c H1 locs1 (cells + mc) (slots + ms) Q (F0 m (pc + 3) ls (.long r :: rest))) : W p l e R s m args below meth c H locs cells slots Q (F0 m pc ls st0) := by
  intro T hT X
  rcases hr T hT X with ⟨v, st₀, t, T', L, h0, X', hL, e1, e2, ⟨⟨r, u, hv, hp, hb⟩, hF⟩, st⟩ | ⟨q, st₀, t, T', L, E, ce, h0, X', hL, e1, e2, ⟨u, hp, hb, hF⟩, hce, hcv, hcl, st⟩
  · cases hv
    obtain ⟨k1, k2, k3⟩ := vx_keep h0 e1 hS hA hf hL hF
    obtain ⟨t2, a1, b1⟩ := kk r u t T'.heap (locs ++ L) e1.symm (by rw [← e2]; exact X'.warmed.alike) hp hb k1 k2 k3 T' rfl X'
    exact ⟨t2, st t2 a1, b1⟩
  · obtain ⟨k1, k2, k3⟩ := vx_keep h0 e1 hS hAX hf hL hF
    obtain ⟨t2, a1, b1⟩ := kx E ce q u t T'.heap (locs ++ L) e1.symm (by rw [← e2]; exact X'.warmed.alike) hp hb k1 k2 k3 (by rw [e1]; exact hce) hcv hcl T' rfl X'
    exact ⟨t2, st.trans a1, b1⟩
theorem vx_callf {S SX : Type} {post : UInt32 → S → Prop} {px : SX → Prop} {B : S → State → Prop} {BX : String → SX → State → Prop} {AX : Nat → Prop} (hr : vx_Run p l e R s m args below meth c H locs cells slots mc ms (F0 m pc ls st0) rest (va_Qf post B A1 a) (vx_X px BX AX) free) (hS : va_S A0 H0 H locs) (hA : ∀ q, q < H.size → A1 q → A0 q) (hf : ∀ q, free q → A0 q) (hAX : ∀ q, q < H.size → AX q → A0 q)
    (kx : ∀ (E : String) (ce : Cell) (q9 : Addr) (u : SX) (t : State) (H1 : Heap) (locs1 : List Loc), t.heap = H1 → s.vm.Alike t.vm → px u → BX E u t → H.size ≤ H1.size → (∀ q : Nat, q < H.size → ¬ AX q → H1[q]? = H[q]?) → va_S A0 H0 H1 locs1 → H1[q9]? = some ce → ce.vm = .none → s.vm.findClass E = some ce.cls → vx_W p l e R s m args below meth c H1 locs1 (cells + mc) (slots + ms) Q (F0 m pc ls rest) q9)
    (kk : ∀ (r : UInt32) (u : S) (t : State) (H1 : Heap) (locs1 : List Loc), t.heap = H1 → s.vm.Alike t.vm → post r u → B u t → H.size ≤ H1.size → (∀ q : Nat, q < H.size → ¬ A1 q → H1[q]? = H[q]?) → va_S A0 H0 H1 locs1 → W p l e R s m args below meth c H1 locs1 (cells + mc) (slots + ms) Q (F0 m (pc + 3) ls (.float r :: rest))) : W p l e R s m args below meth c H locs cells slots Q (F0 m pc ls st0) := by
  intro T hT X
  rcases hr T hT X with ⟨v, st₀, t, T', L, h0, X', hL, e1, e2, ⟨⟨r, u, hv, hp, hb⟩, hF⟩, st⟩ | ⟨q, st₀, t, T', L, E, ce, h0, X', hL, e1, e2, ⟨u, hp, hb, hF⟩, hce, hcv, hcl, st⟩
  · cases hv
    obtain ⟨k1, k2, k3⟩ := vx_keep h0 e1 hS hA hf hL hF
    obtain ⟨t2, a1, b1⟩ := kk r u t T'.heap (locs ++ L) e1.symm (by rw [← e2]; exact X'.warmed.alike) hp hb k1 k2 k3 T' rfl X'
    exact ⟨t2, st t2 a1, b1⟩
  · obtain ⟨k1, k2, k3⟩ := vx_keep h0 e1 hS hAX hf hL hF
    obtain ⟨t2, a1, b1⟩ := kx E ce q u t T'.heap (locs ++ L) e1.symm (by rw [← e2]; exact X'.warmed.alike) hp hb k1 k2 k3 (by rw [e1]; exact hce) hcv hcl T' rfl X'
    exact ⟨t2, st.trans a1, b1⟩
theorem vx_calld {S SX : Type} {post : UInt64 → S → Prop} {px : SX → Prop} {B : S → State → Prop} {BX : String → SX → State → Prop} {AX : Nat → Prop} (hr : vx_Run p l e R s m args below meth c H locs cells slots mc ms (F0 m pc ls st0) rest (va_Qd post B A1 a) (vx_X px BX AX) free) (hS : va_S A0 H0 H locs) (hA : ∀ q, q < H.size → A1 q → A0 q) (hf : ∀ q, free q → A0 q) (hAX : ∀ q, q < H.size → AX q → A0 q)
    (kx : ∀ (E : String) (ce : Cell) (q9 : Addr) (u : SX) (t : State) (H1 : Heap) (locs1 : List Loc), t.heap = H1 → s.vm.Alike t.vm → px u → BX E u t → H.size ≤ H1.size → (∀ q : Nat, q < H.size → ¬ AX q → H1[q]? = H[q]?) → va_S A0 H0 H1 locs1 → H1[q9]? = some ce → ce.vm = .none → s.vm.findClass E = some ce.cls → vx_W p l e R s m args below meth c H1 locs1 (cells + mc) (slots + ms) Q (F0 m pc ls rest) q9)
    (kk : ∀ (r : UInt64) (u : S) (t : State) (H1 : Heap) (locs1 : List Loc), t.heap = H1 → s.vm.Alike t.vm → post r u → B u t → H.size ≤ H1.size → (∀ q : Nat, q < H.size → ¬ A1 q → H1[q]? = H[q]?) → va_S A0 H0 H1 locs1 → W p l e R s m args below meth c H1 locs1 (cells + mc) (slots + ms) Q (F0 m (pc + 3) ls (.double r :: rest))) : W p l e R s m args below meth c H locs cells slots Q (F0 m pc ls st0) := by
  intro T hT X
  rcases hr T hT X with ⟨v, st₀, t, T', L, h0, X', hL, e1, e2, ⟨⟨r, u, hv, hp, hb⟩, hF⟩, st⟩ | ⟨q, st₀, t, T', L, E, ce, h0, X', hL, e1, e2, ⟨u, hp, hb, hF⟩, hce, hcv, hcl, st⟩
  · cases hv
    obtain ⟨k1, k2, k3⟩ := vx_keep h0 e1 hS hA hf hL hF
    obtain ⟨t2, a1, b1⟩ := kk r u t T'.heap (locs ++ L) e1.symm (by rw [← e2]; exact X'.warmed.alike) hp hb k1 k2 k3 T' rfl X'
    exact ⟨t2, st t2 a1, b1⟩
  · obtain ⟨k1, k2, k3⟩ := vx_keep h0 e1 hS hAX hf hL hF
    obtain ⟨t2, a1, b1⟩ := kx E ce q u t T'.heap (locs ++ L) e1.symm (by rw [← e2]; exact X'.warmed.alike) hp hb k1 k2 k3 (by rw [e1]; exact hce) hcv hcl T' rfl X'
    exact ⟨t2, st.trans a1, b1⟩
theorem vx_callv {S SX : Type} {post : S → Prop} {px : SX → Prop} {B : S → State → Prop} {BX : String → SX → State → Prop} {AX : Nat → Prop} (hr : vx_Run p l e R s m args below meth c H locs cells slots mc ms (F0 m pc ls st0) rest (va_Qv post B A1 a) (vx_X px BX AX) free) (hS : va_S A0 H0 H locs) (hA : ∀ q, q < H.size → A1 q → A0 q) (hf : ∀ q, free q → A0 q) (hAX : ∀ q, q < H.size → AX q → A0 q)
    (kx : ∀ (E : String) (ce : Cell) (q9 : Addr) (u : SX) (t : State) (H1 : Heap) (locs1 : List Loc), t.heap = H1 → s.vm.Alike t.vm → px u → BX E u t → H.size ≤ H1.size → (∀ q : Nat, q < H.size → ¬ AX q → H1[q]? = H[q]?) → va_S A0 H0 H1 locs1 → H1[q9]? = some ce → ce.vm = .none → s.vm.findClass E = some ce.cls → vx_W p l e R s m args below meth c H1 locs1 (cells + mc) (slots + ms) Q (F0 m pc ls rest) q9)
    (kk : ∀ (u : S) (t : State) (H1 : Heap) (locs1 : List Loc), t.heap = H1 → s.vm.Alike t.vm → post u → B u t → H.size ≤ H1.size → (∀ q : Nat, q < H.size → ¬ A1 q → H1[q]? = H[q]?) → va_S A0 H0 H1 locs1 → W p l e R s m args below meth c H1 locs1 (cells + mc) (slots + ms) Q (F0 m (pc + 3) ls (rest))) : W p l e R s m args below meth c H locs cells slots Q (F0 m pc ls st0) := by
  intro T hT X
  rcases hr T hT X with ⟨v, st₀, t, T', L, h0, X', hL, e1, e2, ⟨⟨u, hv, hp, hb⟩, hF⟩, st⟩ | ⟨q, st₀, t, T', L, E, ce, h0, X', hL, e1, e2, ⟨u, hp, hb, hF⟩, hce, hcv, hcl, st⟩
  · cases hv
    obtain ⟨k1, k2, k3⟩ := vx_keep h0 e1 hS hA hf hL hF
    obtain ⟨t2, a1, b1⟩ := kk u t T'.heap (locs ++ L) e1.symm (by rw [← e2]; exact X'.warmed.alike) hp hb k1 k2 k3 T' rfl X'
    exact ⟨t2, st t2 a1, b1⟩
  · obtain ⟨k1, k2, k3⟩ := vx_keep h0 e1 hS hAX hf hL hF
    obtain ⟨t2, a1, b1⟩ := kx E ce q u t T'.heap (locs ++ L) e1.symm (by rw [← e2]; exact X'.warmed.alike) hp hb k1 k2 k3 (by rw [e1]; exact hce) hcv hcl T' rfl X'
    exact ⟨t2, st.trans a1, b1⟩
/-- caught by the row x of this method's table; the rows ahead don't take it -/
theorem vx_catch {own name : String} {E : String} {ce : Cell} {q : Addr} (hown : s.vm.findClass own = some m.cls) (pre : List ExceptionTableEntry) (x : ExceptionTableEntry) (suf : List ExceptionTableEntry) (hsplit : c.exceptionTable.toList = pre ++ x :: suf)
    (hpass : ∀ z ∈ pre, covers z pc = false ∨ (z.catchType ≠ 0 ∧ ∃ nm : String, (Cond.classLink own z.catchType nm).before args s = true ∧ va_Nc E nm s)) (hx : covers x pc = true) (h0 : x.catchType ≠ 0)
    (hlink : (Cond.classLink own x.catchType name).before args s = true) (hcast : (Cond.castable E name).before args s = true) (hcell : H[q]? = some ce) (hv : ce.vm = .none) (hcl : s.vm.findClass E = some ce.cls)
    (kk : W p l e R s m args below meth c H locs cells slots Q (F0 m x.handlerPc ls [.ref q])) : vx_W p l e R s m args below meth c H locs cells slots Q (F0 m pc ls rest) q := by
  intro T hT X
  have hpl : e.platform.magicAccessors = ({} : Platform).magicAccessors := by rw [X.admits.platform]
  obtain ⟨c3, c4, hc3, hc4, hasg⟩ := Cond.castable_spec hcast
  cases Option.some.inj (hc3.symm.trans hcl)
  obtain ⟨c5, hc5, hcl5⟩ := Cond.classLink_spec hown hlink e.platform hpl
  cases Option.some.inj (hc4.symm.trans hc5)
  obtain ⟨vm', X', st⟩ := X.thenCaughtThrough q (g := F0 m pc ls rest) rfl (Steps.refl _) (by rw [hT]; exact hcell) (by rw [hv]; rfl) (by obtain ⟨k9, h9, -⟩ := Vm.findClass_spec hcl; exact ⟨k9, h9⟩) pre x suf hsplit
    (fun z hz => by
      rcases hpass z hz with h | ⟨hz0, nm, hl1, hn1⟩
      · exact Or.inl h
      · obtain ⟨c6, hc6, hcl6⟩ := Cond.classLink_spec hown hl1 e.platform hpl
        obtain ⟨a8, b8, h1, h2, h3⟩ := hn1
        cases Option.some.inj (h1.symm.trans hcl)
        cases Option.some.inj (h2.symm.trans hc6)
        exact Or.inr ⟨hz0, _, hcl6, h3⟩) hx (Or.inr ⟨h0, c4, hcl5, hasg⟩)
  obtain ⟨t, a1, b1⟩ := kk (T.setVm vm') hT X'
  exact ⟨t, st.trans a1, b1⟩
end Rows
section Ends
variable {p : Program} {l : Launch} {e : Env} {R : Room} {s : State} {m : MethodId} {args : Array Value} {below : List Frame} {meth : Method} {c : Code} {H : Heap} {locs : List Loc} {cells slots : Nat} {Q : State → Prop}
variable {mc ms : Nat} {free : Addr → Prop} {A0 A1 : Nat → Prop} {H0 : Heap} {a : Array Value} {ls : Array Slot} {st0 rest : List Value}
variable {Qc : Array Value → State → Outcome → State → Prop} {XC : String → State → State → Prop}
/-- what a body that may throw owes at its end -/
def vx_MQ (below : List Frame) (Qc : Array Value → State → Outcome → State → Prop) (XC : String → State → State → Prop) (a : Array Value) (s : State) (mc ms : Nat) (free : Addr → Prop) : State → Prop := fun t =>
  ∃ o, t.status = .running ∧ Ended t below o ∧ vx_Q Qc XC mc ms free a s o t
theorem vx_ret {g : JFrame} {mc ms : Nat} (k : W p l e R s m args below meth c H locs cells slots (MQ below Qc args s mc ms free) g) : W p l e R s m args below meth c H locs cells slots (vx_MQ below Qc XC args s mc ms free) g := by
  intro T hT X
  obtain ⟨t, a1, o, b1, b2, b3, b4⟩ := k T hT X
  exact ⟨t, a1, o, b1, b2, Or.inl ⟨b3, b4⟩⟩
/-- not caught here: it goes on to the caller -/
theorem vx_widen {g : JFrame} {q : Addr} {k n : Nat} (h1 : cells ≤ k) (h2 : slots ≤ n) (kk : vx_W p l e R s m args below meth c H locs k n Q g q) : vx_W p l e R s m args below meth c H locs cells slots Q g q := fun T hT X => kk T hT (stand_widen X h1 h2)
theorem vx_out {pc : Nat} {E : String} {ce : Cell} {q : Addr} {mc ms : Nat} (hout : ∀ x ∈ c.exceptionTable.toList, covers x pc = false) (hlocks : meth.locks = false) (hcell : H[q]? = some ce) (hv : ce.vm = .none) (hcl : s.vm.findClass E = some ce.cls)
    (hx : ∀ t : State, t.heap = H → s.vm.Alike t.vm → XC E s t) (hf : ∀ z ∈ locs, free z.base) (hc : cells ≤ mc) (hs : slots ≤ ms) :
    vx_W p l e R s m args below meth c H locs cells slots (vx_MQ below Qc XC args s mc ms free) (F0 m pc ls rest) q := by
  intro T hT X
  obtain ⟨st1, hrun, hend, hW, hsm⟩ := X.leaveThrown q (g := F0 m pc ls rest) rfl rfl rfl hout hlocks
  have hcell9 : (T.setFrames (.throwing q :: below)).heap[q]? = some ce := by
    show T.heap[q]? = some ce
    rw [hT]; exact hcell
  exact ⟨_, st1, .threw q, hrun, hend, Or.inr ⟨q, rfl, E, ce, locs, hx _ hT hW.alike, hcell9, hv, hcl, hW, hsm.mono hc hs, hf⟩⟩
theorem vx_frame {U : State} {k n : Nat} (h : s.sameButNew ({ U with vm := s.vm } : State) locs k n) : s.heap.size ≤ U.heap.size ∧ ∀ q : Nat, q < s.heap.size → (∀ z ∈ locs, z.base ≠ q) → U.heap[q]? = s.heap[q]? := by
  obtain ⟨-, h2, -, -, -, h6⟩ := h
  refine ⟨h2, fun q hq hz => ?_⟩
  obtain ⟨c9, e1, e2, e3, e4⟩ := h6 q _ (Array.getElem?_eq_getElem hq)
  have hs : c9.slots = (s.heap[q]).slots := Array.ext_getElem? fun i => e4 i fun hm => hz _ hm rfl
  have h9 : c9 = s.heap[q] := by
    rw [hs] at e2
    exact e2
  have e5 : U.heap[q]? = some c9 := e1
  rw [e5, h9, Array.getElem?_eq_getElem hq]
/-- the words of a throw but the four that speak of the heap -/
def vx_no (w : Cond) : Bool := decide (w ≠ .isRef (.static Bundle.tN "UNASSIGNED_STACK" Bundle.steD)) && decide (w ≠ .isRef (.static Bundle.tN "SUPPRESSED_SENTINEL" Bundle.listD)) && decide (w ≠ .laysStatic Bundle.tN "UNASSIGNED_STACK" Bundle.steD) && decide (w ≠ .laysStatic Bundle.tN "SUPPRESSED_SENTINEL" Bundle.listD)
def vx_at0 (own : String) (ic : Nat) (X : String) (names : List String) : List Cond := (Bundle.ownAtoms0 own ic X names).filter vx_no
def vx_atS (own : String) (ic : Nat) (X : String) (names : List String) : List Cond := (Bundle.ownAtoms own ic X names).filter vx_no
/-- a word that the tables alone decide, or a good one -/
def vx_ot (w : Cond) : Bool := w.onTables || goodWord w
theorem vx_ot_at {args a' : Array Value} {s U : State} {w : Cond} (hW : s.WarmedH U.vm) (hvm : s.vm = U.vm) (hg : vx_ot w = true) (h : w.before args s = true) : w.before a' U = true := by
  simp only [vx_ot, Bool.or_eq_true] at hg
  rcases hg with hg | hg
  · exact va_tabs hg hvm h
  · exact word_at hW (good_of_word hg) h
/-- a list's words: the good ones out of the method's own list, the others by premises of their own -/
theorem vx_hat {args : Array Value} {s : State} {L B : List Cond} (h1 : ∀ w ∈ L.filter goodWord, w.before args s = true) (h2 : ∀ w ∈ L.filter (fun w => !goodWord w), w ∈ B) (h3 : ∀ w ∈ B, w.before args s = true) : ∀ w ∈ L, w.before args s = true := by
  intro w hw
  by_cases g : goodWord w = true
  · exact h1 w (List.mem_filter.mpr ⟨hw, g⟩)
  · refine h3 w (h2 w (List.mem_filter.mpr ⟨hw, ?_⟩))
    show (!goodWord w) = true
    cases hgw : goodWord w
    · rfl
    · exact absurd hgw g
theorem vx_c {args : Array Value} {s : State} {w : Cond} {B : List Cond} (h : w.before args s = true) (t : ∀ w ∈ B, w.before args s = true) : ∀ w' ∈ w :: B, w'.before args s = true := fun w' h' => (List.mem_cons.mp h').elim (fun e => by rw [e]; exact h) (t w')
theorem vx_n {args : Array Value} {s : State} : ∀ w ∈ ([] : List Cond), w.before args s = true := fun _ h => nomatch h
theorem vx_own {args : Array Value} {s : State} {L : List Cond} (h1 : ∀ w ∈ L.filter vx_no, w.before args s = true)
    (hU : (Cond.isRef (.static Bundle.tN "UNASSIGNED_STACK" Bundle.steD)).before args s = true) (hN : (Cond.isRef (.static Bundle.tN "SUPPRESSED_SENTINEL" Bundle.listD)).before args s = true)
    (lU : (Cond.laysStatic Bundle.tN "UNASSIGNED_STACK" Bundle.steD).before args s = true) (lN : (Cond.laysStatic Bundle.tN "SUPPRESSED_SENTINEL" Bundle.listD).before args s = true) : ∀ w ∈ L, w.before args s = true := by
  intro w hw
  by_cases e1 : w = .isRef (.static Bundle.tN "UNASSIGNED_STACK" Bundle.steD)
  · rw [e1]; exact hU
  · by_cases e2 : w = .isRef (.static Bundle.tN "SUPPRESSED_SENTINEL" Bundle.listD)
    · rw [e2]; exact hN
    · by_cases e3 : w = .laysStatic Bundle.tN "UNASSIGNED_STACK" Bundle.steD
      · rw [e3]; exact lU
      · by_cases e4 : w = .laysStatic Bundle.tN "SUPPRESSED_SENTINEL" Bundle.listD
        · rw [e4]; exact lN
        · exact h1 w (List.mem_filter.mpr ⟨hw, by unfold vx_no; rw [decide_eq_true e1, decide_eq_true e2, decide_eq_true e3, decide_eq_true e4]; rfl⟩)
/-- where a static field lies, its class's statics cell in H -/
def vx_L (C n d : String) (A : Nat → Prop) (U : State) (H : Heap) : Prop := ∃ (c : ClassId) (k : Class) (i : Nat) (f : Field) (a : Nat) (cell : Cell), U.vm.findClass C = some c ∧ U.fieldFound? C n d = some (c, k, i, f) ∧ f.isStatic = true ∧ k.statics = some a ∧ H[a]? = some cell ∧ cell.vm.isStatics = true ∧ cell.cls = c ∧ f.slot < cell.slots.size ∧ k.staticTypes[f.slot]? = some f.type ∧ ¬ A a
theorem vx_L.moved {C n d : String} {A : Nat → Prop} {u U : State} {H : Heap} (hvm : u.vm.Alike U.vm) (h : vx_L C n d A u H) : vx_L C n d A U H := by
  obtain ⟨c, k, i, f, a, cell, h1, h2, h3, h4, h5, h6, h7, h8, h9, h10⟩ := h
  obtain ⟨k', hi', he⟩ := State.fieldFound?_setVm hvm h2
  exact ⟨c, k', i, f, a, cell, by rw [hvm.findClass]; exact h1, hi', h3, by rw [he]; exact h4, h5, h6, h7, h8, by rw [he]; exact h9, h10⟩
theorem vx_L.kept {C n d : String} {A : Nat → Prop} {U : State} {H H1 : Heap} (h : vx_L C n d A U H) (hq : ∀ a : Nat, a < H.size → ¬ A a → H1[a]? = H[a]?) : vx_L C n d A U H1 := by
  obtain ⟨c, k, i, f, a, cell, h1, h2, h3, h4, h5, h6, h7, h8, h9, h10⟩ := h
  exact ⟨c, k, i, f, a, cell, h1, h2, h3, h4, by rw [hq a (Array.getElem?_eq_some_iff.mp h5).1 h10]; exact h5, h6, h7, h8, h9, h10⟩
theorem vx_L.narrow {C n d : String} {A B : Nat → Prop} {U : State} {H : Heap} (h : vx_L C n d A U H) (hAB : ∀ q, B q → A q) : vx_L C n d B U H := by
  obtain ⟨c, k, i, f, a, cell, h1, h2, h3, h4, h5, h6, h7, h8, h9, h10⟩ := h
  exact ⟨c, k, i, f, a, cell, h1, h2, h3, h4, h5, h6, h7, h8, h9, fun z => h10 (hAB _ z)⟩
theorem vx_L.word {C n d : String} {A : Nat → Prop} {s : State} {args : Array Value} (h : vx_L C n d A s s.heap) : (Cond.laysStatic C n d).before args s = true := by
  obtain ⟨c, k, i, f, a, cell, h1, h2, h3, h4, h5, h6, h7, h8, h9, -⟩ := h
  show (Cond.laysStatic C n d).holds args s none s [] = true
  exact Cond.laysStatic_of h1 h2 h3 h4 h5 h6 h7 h8 h9
/-- .. and what it holds: null or some reference -/
def vx_Zq (C n d : String) (A : Nat → Prop) (U : State) (H : Heap) : Prop := va_Zq C n d A U H ∧ vx_L C n d A U H
theorem vx_Zq.moved {C n d : String} {A : Nat → Prop} {u U : State} {H : Heap} (hvm : u.vm.Alike U.vm) (h : vx_Zq C n d A u H) : vx_Zq C n d A U H := ⟨va_Zq.moved hvm h.1, vx_L.moved hvm h.2⟩
theorem vx_Zq.kept {C n d : String} {A : Nat → Prop} {U : State} {H H1 : Heap} (h : vx_Zq C n d A U H) (hq : ∀ a : Nat, a < H.size → ¬ A a → H1[a]? = H[a]?) : vx_Zq C n d A U H1 := ⟨va_Zq.kept h.1 hq, vx_L.kept h.2 hq⟩
theorem vx_Zq.narrow {C n d : String} {A B : Nat → Prop} {U : State} {H : Heap} (h : vx_Zq C n d A U H) (hAB : ∀ q, B q → A q) : vx_Zq C n d B U H := ⟨va_Zq.narrow h.1 hAB, vx_L.narrow h.2 hAB⟩
theorem vx_Zqof {args : Array Value} {s : State} {C n d : String} {A : Nat → Prop} (hl : (Cond.laysStatic C n d).before args s = true) (hini : (Cond.initialized C).before args s = true) (h : (Cond.isRef (.static C n d)).before args s = true) (hA : ∀ a : Nat, a < s.heap.size → ¬ A a) : vx_Zq C n d A s s.heap := by
  refine ⟨va_Zqof hl hini h hA, ?_⟩
  obtain ⟨c, k, i, f, a, cell, h1, h2, h3, h4, h5, h6, h7, h8, h9⟩ := Cond.laysStatic_spec hl
  exact ⟨c, k, i, f, a, cell, h1, h2, h3, h4, h5, h6, h7, h8, h9, hA a (Array.getElem?_eq_some_iff.mp h5).1⟩
theorem vx_isRef {C n d : String} {v : Value} {A : Nat → Prop} {s : State} {args : Array Value} (h : va_Z C n d v A s s.heap) (hv : v.isRef = true) : (Cond.isRef (.static C n d)).before args s = true := by
  obtain ⟨cf, kf, fi, f, a, cell, h1, h2, h3, h4, h5, h6, h7, -⟩ := h
  have he : (Term.static C n d).eval args s none [] s = some v := by
    simp [Term.eval, State.fieldNamed?, h1, h2, h4, h5, h6, h7]
  simp only [Cond.before, Cond.holds, Cond.value, he]
  cases v <;> simp_all [Value.isRef]
theorem vx_isRefq {C n d : String} {A : Nat → Prop} {s : State} {args : Array Value} (h : va_Zq C n d A s s.heap) : (Cond.isRef (.static C n d)).before args s = true := by
  rcases h with h | ⟨t, h⟩
  · exact vx_isRef h rfl
  · exact vx_isRef h rfl
/-- the same frame, seen from here: as if the method were called anew in this heap -/
theorem vx_rebase {T : State} (X : Stand p l e R s m args below meth c T locs cells slots) {R' : Room} (hf : R'.frames ≤ R.frames) (hl : R'.locals ≤ R.locals) (hc : cells + R'.cells ≤ R.cells) (hs : slots + R'.slots ≤ R.slots) :
    Stand p l e R' ((T.setVm s.vm).setFrames (.invoking m args :: below)) m args below meth c T [] 0 0 := by
  have htop : (T.setVm s.vm).topJava?.isSome := X.here.top
  have hF : ((T.setVm s.vm).setFrames (.invoking m args :: below)).frames = .invoking m args :: below := State.frames_setFrames _ (State.cur_lt_of_top htop)
  obtain ⟨g₀, hg0⟩ := Option.isSome_iff_exists.mp htop
  obtain ⟨r, hr⟩ := State.topJava?_eq_some.mp hg0
  have hl9 : e.platform.stackLimits (T.setVm s.vm).me = e.platform.stackLimits s.me := X.limits
  have hb9 : (T.setVm s.vm).me.stackBytes = s.me.stackBytes := X.bytes
  refine ⟨X.admits, X.cas, X.clock, hF, ?_, X.hears, X.method, X.code, X.here, X.tail, X.warmed, ?_, ?_, ?_⟩
  · have h := X.room
    have hU : ((T.setVm s.vm).setFrames (.invoking m args :: below)).localsInUse = s.localsInUse := by
      rw [State.localsInUse_invoking hF (meth := meth) (c := c) X.method X.code, State.localsInUse_invoking X.frames X.method X.code]
    simp only [State.hasRoom, Bool.and_eq_true, decide_eq_true_eq] at h ⊢
    obtain ⟨⟨⟨⟨h1, h2, h3, h4, h5, h6⟩, h7⟩, h8⟩, h9⟩ := h
    rw [X.frames, List.length_cons] at h2 h3
    have q1 := X.heapSize
    have q2 := X.used
    simp only [hF, hU, List.length_cons, State.stackLimits_setFrames, State.stackBytes_setFrames, hl9, hb9]
    refine ⟨⟨⟨⟨by omega, by omega, by omega, by omega, by omega, h6⟩, ?_⟩, ?_⟩, X.book⟩
    · show T.heap.size + R'.cells ≤ e.platform.maxCells
      omega
    · show T.slotsUsed + R'.slots ≤ e.platform.maxSlots
      omega
  · rw [State.stackLimits_setFrames]; rfl
  · rw [State.stackBytes_setFrames]; rfl
  · refine ⟨?_, Nat.le_refl _, Nat.le_refl _, ?_, ?_, fun a c9 h9 => ⟨c9, h9, rfl, rfl, fun _ _ => rfl⟩⟩
    · obtain ⟨t, ht, -⟩ := State.frames_cons hr
      show T.setVm s.vm = { ((T.setVm s.vm).setFrames (.invoking m args :: below)).setFrames (T.setVm s.vm).frames with heap := T.heap, slotsUsed := T.slotsUsed }
      rw [State.setFrames_setFrames, State.setFrames_self ht]
      rfl
    · show T.slotsUsed = T.slotsUsed + ((T.heap.toList.drop T.heap.size).map (·.slots.size)).sum
      rw [List.drop_eq_nil_of_le (Nat.le_of_eq Array.length_toList)]
      rfl
    · show ((T.heap.toList.drop T.heap.size).map (·.slots.size)).sum ≤ 0
      rw [List.drop_eq_nil_of_le (Nat.le_of_eq Array.length_toList)]
      exact Nat.le_refl _
/-- 'throw new E()': new; dup; invokespecial; athrow -/
theorem vx_throw0 {cc : ByteArray} {pc : Nat} (hexec : p.tables.exec = Jvm.exec) (hb : c.code = cc) (hl : l.stackTraces = false) {own cls : String} {names : List String} {ik ic mc ms : Nat} {A : Nat → Prop}
    (hown : s.vm.findClass own = some m.cls) (hcls : Bundle.fit cls = true) (hnames : ∀ n ∈ names, Bundle.fit n = true)
    (hk : (Cond.classLink own ik cls).before args s = true) (hini : (Cond.initialized cls).before args s = true) (hat : ∀ w ∈ vx_at0 own ic cls names, w.before args s = true)
    (hgood : ∀ w ∈ Cond.classLink own ik cls :: Cond.initialized cls :: vx_at0 own ic cls names, vx_ot w = true)
    (hU : vx_Zq Bundle.tN "UNASSIGNED_STACK" Bundle.steD A s s.heap) (hN : vx_Zq Bundle.tN "SUPPRESSED_SENTINEL" Bundle.listD A s s.heap) (hS : va_S A s.heap H locs) (hsize : ls.size = c.maxLocals)
    (d0 : decode cc pc = .ok (.new ik, 3)) (d3 : decode cc (pc + 3) = .ok (.dup, 1)) (d4 : decode cc (pc + 4) = .ok (.invokespecial ic, 3)) (d7 : decode cc (pc + 7) = .ok (.athrow, 1))
    (hout : ∀ x ∈ c.exceptionTable.toList, covers x (pc + 7) = false)
    (hRframes : names.length + 3 < R.frames) (hRlocals : (rest.map fun v => v.category).sum + (13 * (names.length + 1) + 42) ≤ R.locals) (hRcells : cells + 1 ≤ R.cells) (hRslots : slots + 6 ≤ R.slots) (hlocks : meth.locks = false)
    (hx : ∀ t : State, s.vm.Alike t.vm → H.size ≤ t.heap.size → (∀ q : Nat, q < H.size → t.heap[q]? = H[q]?) → XC cls s t)
    (hf : ∀ z ∈ locs, free z.base) (hc : cells + 1 ≤ mc) (hs : slots + 6 ≤ ms) :
    W p l e R s m args below meth c H locs cells slots (vx_MQ below Qc XC args s mc ms free) (F0 m pc ls rest) := by
  intro T hT X
  have htr : e.platform.stackTraces = false := (show e.platform.stackTraces = l.stackTraces by rw [X.admits.platform]).trans hl
  have Y := vx_rebase X (R' := { frames := R.frames, locals := R.locals, cells := 1, slots := 6 }) (Nat.le_refl _) (Nat.le_refl _) hRcells hRslots
  obtain ⟨s', hA⟩ : ∃ z, z = (T.setVm s.vm).setFrames (.invoking m args :: below) := ⟨_, rfl⟩
  rw [← hA] at Y
  have hvm : s'.vm = s.vm := by rw [hA]; rfl
  have hhp : s'.heap = H := by rw [hA]; exact hT
  have hW0 : s.WarmedH s'.vm := by rw [hvm]; exact State.WarmedH.refl s
  have hat' : ∀ w ∈ vx_at0 own ic cls names, w.before args s' = true := fun w hw => vx_ot_at hW0 hvm.symm (hgood w (List.mem_cons_of_mem _ (List.mem_cons_of_mem _ hw))) (hat w hw)
  have hk' : (Cond.classLink own ik cls).before args s' = true := vx_ot_at hW0 hvm.symm (hgood _ List.mem_cons_self) hk
  have hini' : (Cond.initialized cls).before args s' = true := vx_ot_at hW0 hvm.symm (hgood _ (List.mem_cons_of_mem _ List.mem_cons_self)) hini
  have hU' : vx_Zq Bundle.tN "UNASSIGNED_STACK" Bundle.steD A s' s'.heap := by rw [hhp]; exact vx_Zq.moved hW0.alike (hU.kept hS.2.1)
  have hN' : vx_Zq Bundle.tN "SUPPRESSED_SENTINEL" Bundle.listD A s' s'.heap := by rw [hhp]; exact vx_Zq.moved hW0.alike (hN.kept hS.2.1)
  have h : ∀ w ∈ Bundle.ownAtoms0 own ic cls names, w.before args s' = true := vx_own hat' (vx_isRefq hU'.1) (vx_isRefq hN'.1) hU'.2.word hN'.2.word
  have hown' : s'.vm.findClass own = some m.cls := by rw [hvm]; exact hown
  have hins : (Cond.instantiable cls 6).before args s' = true := h _ (by simp [Bundle.ownAtoms0])
  obtain ⟨vm₁, cX, kX, hfX, hkX, -, -, X₁, st1⟩ := Y.newCold hexec (own := own) (C := cls) (index := ik) (n := 6) hown' hk' hins hini'
    (g := F0 m pc ls rest) rfl (by rw [hb]; exact d0) (Nat.le_refl _) (Nat.le_refl _)
  generalize hT1 : (T.setVm vm₁).pushCell { cls := cX, slots := kX.instanceTypes.map defaultValue, vm := .none } = T1 at X₁ st1
  have hcat : (Value.ref T.heap.size).category = 1 := rfl
  have hcellA : T1.heap[T.heap.size]? = some (freshCell cX kX) := by rw [← hT1]; exact State.heap_pushCell_size _ _
  have d3' : decode c.code (pc + 3) = .ok (.dup, 1) := by rw [hb]; exact d3
  obtain ⟨U, hsteps, hrun, hend, hW, hsame, ce, hce, hO⟩ := X₁.ctorThrow0 hexec htr (own := own) (cls := cls) (names := names) (ic := ic) hown' hcls hnames h (fun x hx => nomatch hx) hfX hkX hcellA (by rw [hhp, hT]; exact Nat.le_refl _)
    (g := { method := m, pc := pc + 4, locals := ls, stack := .ref T.heap.size :: .ref T.heap.size :: rest, locked := none }) rfl hsize rfl rfl (rest := rest) rfl
    (by rw [hb]; exact d4) (by rw [hb]; exact d7) hout hRframes (by simp only [List.map_cons, List.sum_cons, hcat]; omega) hlocks
  obtain ⟨f1, f2⟩ := vx_frame hsame
  rw [hhp] at f1 f2
  have hWs : s.WarmedH U.vm := State.WarmedH.trans hW0 hW
  have hcl : s.vm.findClass cls = some ce.cls := by
    have h9 := hO.cls
    rw [hvm] at h9
    exact h9
  have hall : s.sameButNew ({ U with vm := s.vm } : State) locs mc ms := by
    subst hA
    obtain ⟨e1, e2⟩ := hsame
    rw [State.setFrames_setFrames] at e1
    have h2 : (T.setVm s.vm).sameButNew ({ U with vm := s.vm } : State) [] (0 + 1) (0 + 6) := ⟨e1, e2⟩
    have h3 := X.same.trans h2
    rw [List.append_nil] at h3
    exact h3.mono hc hs
  refine ⟨U, ?_, .threw T.heap.size, hrun, hend, Or.inr ⟨T.heap.size, rfl, cls, ce, locs, hx U hWs.alike f1 (fun q hq => f2 q hq (fun z hz => nomatch hz)), hce, hO.vm, hcl, hWs, hall, hf⟩⟩
  refine st1 _ ?_
  show Steps p.tables e below (T1.setTop { method := m, pc := pc + 3, locals := ls, stack := .ref T.heap.size :: rest, locked := none }) _
  jvm_step X₁.here [X₁.here.top, hexec, d3', Value.category]
  exact hsteps
/-- 'throw new E("text")': new; dup; ldc; invokespecial; athrow -/
theorem vx_throwS {cc : ByteArray} {pc : Nat} (hexec : p.tables.exec = Jvm.exec) (hb : c.code = cc) (hl : l.stackTraces = false) {own cls text : String} {names : List String} {ik is ic mc ms sa : Nat} {A : Nat → Prop}
    (hown : s.vm.findClass own = some m.cls) (hcls : Bundle.fit cls = true) (hnames : ∀ n ∈ names, Bundle.fit n = true)
    (hk : (Cond.classLink own ik cls).before args s = true) (hini : (Cond.initialized cls).before args s = true) (hstr : vk_R own is text sa s) (hat : ∀ w ∈ vx_atS own ic cls names, w.before args s = true)
    (hgood : ∀ w ∈ Cond.classLink own ik cls :: Cond.initialized cls :: vx_atS own ic cls names, vx_ot w = true)
    (hU : vx_Zq Bundle.tN "UNASSIGNED_STACK" Bundle.steD A s s.heap) (hN : vx_Zq Bundle.tN "SUPPRESSED_SENTINEL" Bundle.listD A s s.heap) (hS : va_S A s.heap H locs) (hsize : ls.size = c.maxLocals)
    (d0 : decode cc pc = .ok (.new ik, 3)) (d3 : decode cc (pc + 3) = .ok (.dup, 1)) (d4 : decode cc (pc + 4) = .ok (.ldc is, 2)) (d6 : decode cc (pc + 6) = .ok (.invokespecial ic, 3)) (d9 : decode cc (pc + 9) = .ok (.athrow, 1))
    (hout : ∀ x ∈ c.exceptionTable.toList, covers x (pc + 9) = false)
    (hRframes : names.length + 3 < R.frames) (hRlocals : (rest.map fun v => v.category).sum + (13 * (names.length + 1) + 43) ≤ R.locals) (hRcells : cells + 1 ≤ R.cells) (hRslots : slots + 6 ≤ R.slots) (hlocks : meth.locks = false)
    (hx : ∀ t : State, s.vm.Alike t.vm → H.size ≤ t.heap.size → (∀ q : Nat, q < H.size → t.heap[q]? = H[q]?) → XC cls s t)
    (hf : ∀ z ∈ locs, free z.base) (hc : cells + 1 ≤ mc) (hs : slots + 6 ≤ ms) :
    W p l e R s m args below meth c H locs cells slots (vx_MQ below Qc XC args s mc ms free) (F0 m pc ls rest) := by
  intro T hT X
  have htr : e.platform.stackTraces = false := (show e.platform.stackTraces = l.stackTraces by rw [X.admits.platform]).trans hl
  have Y := vx_rebase X (R' := { frames := R.frames, locals := R.locals, cells := 1, slots := 6 }) (Nat.le_refl _) (Nat.le_refl _) hRcells hRslots
  obtain ⟨s', hA⟩ : ∃ z, z = (T.setVm s.vm).setFrames (.invoking m args :: below) := ⟨_, rfl⟩
  rw [← hA] at Y
  have hvm : s'.vm = s.vm := by rw [hA]; rfl
  have hhp : s'.heap = H := by rw [hA]; exact hT
  have hW0 : s.WarmedH s'.vm := by rw [hvm]; exact State.WarmedH.refl s
  have hat' : ∀ w ∈ vx_atS own ic cls names, w.before args s' = true := fun w hw => vx_ot_at hW0 hvm.symm (hgood w (List.mem_cons_of_mem _ (List.mem_cons_of_mem _ hw))) (hat w hw)
  have hk' : (Cond.classLink own ik cls).before args s' = true := vx_ot_at hW0 hvm.symm (hgood _ List.mem_cons_self) hk
  have hini' : (Cond.initialized cls).before args s' = true := vx_ot_at hW0 hvm.symm (hgood _ (List.mem_cons_of_mem _ List.mem_cons_self)) hini
  have hU' : vx_Zq Bundle.tN "UNASSIGNED_STACK" Bundle.steD A s' s'.heap := by rw [hhp]; exact vx_Zq.moved hW0.alike (hU.kept hS.2.1)
  have hN' : vx_Zq Bundle.tN "SUPPRESSED_SENTINEL" Bundle.listD A s' s'.heap := by rw [hhp]; exact vx_Zq.moved hW0.alike (hN.kept hS.2.1)
  have h : ∀ w ∈ Bundle.ownAtoms own ic cls names, w.before args s' = true := vx_own hat' (vx_isRefq hU'.1) (vx_isRefq hN'.1) hU'.2.word hN'.2.word
  have hown' : s'.vm.findClass own = some m.cls := by rw [hvm]; exact hown
  have hins : (Cond.instantiable cls 6).before args s' = true := h _ (by simp [Bundle.ownAtoms])
  obtain ⟨vm₁, cX, kX, hfX, hkX, -, -, X₁, st1⟩ := Y.newCold hexec (own := own) (C := cls) (index := ik) (n := 6) hown' hk' hins hini'
    (g := F0 m pc ls rest) rfl (by rw [hb]; exact d0) (Nat.le_refl _) (Nat.le_refl _)
  generalize hT1 : (T.setVm vm₁).pushCell { cls := cX, slots := kX.instanceTypes.map defaultValue, vm := .none } = T1 at X₁ st1
  have hcat : (Value.ref T.heap.size).category = 1 := rfl
  have hcellA : T1.heap[T.heap.size]? = some (freshCell cX kX) := by rw [← hT1]; exact State.heap_pushCell_size _ _
  have d3' : decode c.code (pc + 3) = .ok (.dup, 1) := by rw [hb]; exact d3
  have d4' : decode c.code (pc + 4) = .ok (.ldc is, 2) := by rw [hb]; exact d4
  have hstr' : vk_R own is text sa s' := vk_R.warm hW0 hstr
  obtain ⟨U, hsteps, hrun, hend, hW, hsame, ce, hce, hO⟩ := X₁.ctorThrowS hexec htr (own := own) (cls := cls) (names := names) (ic := ic) hown' hcls hnames h (fun x hx => nomatch hx) hfX hkX hcellA (by rw [hhp, hT]; exact Nat.le_refl _) (msg := .ref sa) rfl
    (g := { method := m, pc := pc + 6, locals := ls, stack := .ref sa :: .ref T.heap.size :: .ref T.heap.size :: rest, locked := none }) rfl hsize rfl rfl (rest := rest) rfl
    (by rw [hb]; exact d6) (by rw [hb]; exact d9) hout hRframes (by simp only [List.map_cons, List.sum_cons, hcat]; omega) hlocks
  obtain ⟨f1, f2⟩ := vx_frame hsame
  rw [hhp] at f1 f2
  have hWs : s.WarmedH U.vm := State.WarmedH.trans hW0 hW
  have hcl : s.vm.findClass cls = some ce.cls := by
    have h9 := hO.cls
    rw [hvm] at h9
    exact h9
  have hall : s.sameButNew ({ U with vm := s.vm } : State) locs mc ms := by
    subst hA
    obtain ⟨e1, e2⟩ := hsame
    rw [State.setFrames_setFrames] at e1
    have h2 : (T.setVm s.vm).sameButNew ({ U with vm := s.vm } : State) [] (0 + 1) (0 + 6) := ⟨e1, e2⟩
    have h3 := X.same.trans h2
    rw [List.append_nil] at h3
    exact h3.mono hc hs
  refine ⟨U, ?_, .threw T.heap.size, hrun, hend, Or.inr ⟨T.heap.size, rfl, cls, ce, locs, hx U hWs.alike f1 (fun q hq => f2 q hq (fun z hz => nomatch hz)), hce, hO.vm, hcl, hWs, hall, hf⟩⟩
  refine st1 _ ?_
  show Steps p.tables e below (T1.setTop { method := m, pc := pc + 3, locals := ls, stack := .ref T.heap.size :: rest, locked := none }) _
  jvm_step X₁.here [X₁.here.top, hexec, d3', Value.category]
  exact X₁.ldcString hexec (own := own) (text := text) (index := is) (a := sa) hown' hstr'.1 hstr'.2
    (g := { method := m, pc := pc + 4, locals := ls, stack := .ref T.heap.size :: .ref T.heap.size :: rest, locked := none }) rfl d4' _ hsteps
/-- 'throw new E("text")', the text by a wide index -/
theorem vx_throwSW {cc : ByteArray} {pc : Nat} (hexec : p.tables.exec = Jvm.exec) (hb : c.code = cc) (hl : l.stackTraces = false) {own cls text : String} {names : List String} {ik is ic mc ms sa : Nat} {A : Nat → Prop}
    (hown : s.vm.findClass own = some m.cls) (hcls : Bundle.fit cls = true) (hnames : ∀ n ∈ names, Bundle.fit n = true)
    (hk : (Cond.classLink own ik cls).before args s = true) (hini : (Cond.initialized cls).before args s = true) (hstr : vk_R own is text sa s) (hat : ∀ w ∈ vx_atS own ic cls names, w.before args s = true)
    (hgood : ∀ w ∈ Cond.classLink own ik cls :: Cond.initialized cls :: vx_atS own ic cls names, vx_ot w = true)
    (hU : vx_Zq Bundle.tN "UNASSIGNED_STACK" Bundle.steD A s s.heap) (hN : vx_Zq Bundle.tN "SUPPRESSED_SENTINEL" Bundle.listD A s s.heap) (hS : va_S A s.heap H locs) (hsize : ls.size = c.maxLocals)
    (d0 : decode cc pc = .ok (.new ik, 3)) (d3 : decode cc (pc + 3) = .ok (.dup, 1)) (d4 : decode cc (pc + 4) = .ok (.ldc_w is, 3)) (d7 : decode cc (pc + 7) = .ok (.invokespecial ic, 3)) (d10 : decode cc (pc + 10) = .ok (.athrow, 1))
    (hout : ∀ x ∈ c.exceptionTable.toList, covers x (pc + 10) = false)
    (hRframes : names.length + 3 < R.frames) (hRlocals : (rest.map fun v => v.category).sum + (13 * (names.length + 1) + 43) ≤ R.locals) (hRcells : cells + 1 ≤ R.cells) (hRslots : slots + 6 ≤ R.slots) (hlocks : meth.locks = false)
    (hx : ∀ t : State, s.vm.Alike t.vm → H.size ≤ t.heap.size → (∀ q : Nat, q < H.size → t.heap[q]? = H[q]?) → XC cls s t)
    (hf : ∀ z ∈ locs, free z.base) (hc : cells + 1 ≤ mc) (hs : slots + 6 ≤ ms) :
    W p l e R s m args below meth c H locs cells slots (vx_MQ below Qc XC args s mc ms free) (F0 m pc ls rest) := by
  intro T hT X
  have htr : e.platform.stackTraces = false := (show e.platform.stackTraces = l.stackTraces by rw [X.admits.platform]).trans hl
  have Y := vx_rebase X (R' := { frames := R.frames, locals := R.locals, cells := 1, slots := 6 }) (Nat.le_refl _) (Nat.le_refl _) hRcells hRslots
  obtain ⟨s', hA⟩ : ∃ z, z = (T.setVm s.vm).setFrames (.invoking m args :: below) := ⟨_, rfl⟩
  rw [← hA] at Y
  have hvm : s'.vm = s.vm := by rw [hA]; rfl
  have hhp : s'.heap = H := by rw [hA]; exact hT
  have hW0 : s.WarmedH s'.vm := by rw [hvm]; exact State.WarmedH.refl s
  have hat' : ∀ w ∈ vx_atS own ic cls names, w.before args s' = true := fun w hw => vx_ot_at hW0 hvm.symm (hgood w (List.mem_cons_of_mem _ (List.mem_cons_of_mem _ hw))) (hat w hw)
  have hk' : (Cond.classLink own ik cls).before args s' = true := vx_ot_at hW0 hvm.symm (hgood _ List.mem_cons_self) hk
  have hini' : (Cond.initialized cls).before args s' = true := vx_ot_at hW0 hvm.symm (hgood _ (List.mem_cons_of_mem _ List.mem_cons_self)) hini
  have hU' : vx_Zq Bundle.tN "UNASSIGNED_STACK" Bundle.steD A s' s'.heap := by rw [hhp]; exact vx_Zq.moved hW0.alike (hU.kept hS.2.1)
  have hN' : vx_Zq Bundle.tN "SUPPRESSED_SENTINEL" Bundle.listD A s' s'.heap := by rw [hhp]; exact vx_Zq.moved hW0.alike (hN.kept hS.2.1)
  have h : ∀ w ∈ Bundle.ownAtoms own ic cls names, w.before args s' = true := vx_own hat' (vx_isRefq hU'.1) (vx_isRefq hN'.1) hU'.2.word hN'.2.word
  have hown' : s'.vm.findClass own = some m.cls := by rw [hvm]; exact hown
  have hins : (Cond.instantiable cls 6).before args s' = true := h _ (by simp [Bundle.ownAtoms])
  obtain ⟨vm₁, cX, kX, hfX, hkX, -, -, X₁, st1⟩ := Y.newCold hexec (own := own) (C := cls) (index := ik) (n := 6) hown' hk' hins hini'
    (g := F0 m pc ls rest) rfl (by rw [hb]; exact d0) (Nat.le_refl _) (Nat.le_refl _)
  generalize hT1 : (T.setVm vm₁).pushCell { cls := cX, slots := kX.instanceTypes.map defaultValue, vm := .none } = T1 at X₁ st1
  have hcat : (Value.ref T.heap.size).category = 1 := rfl
  have hcellA : T1.heap[T.heap.size]? = some (freshCell cX kX) := by rw [← hT1]; exact State.heap_pushCell_size _ _
  have d3' : decode c.code (pc + 3) = .ok (.dup, 1) := by rw [hb]; exact d3
  have d4' : decode c.code (pc + 4) = .ok (.ldc_w is, 3) := by rw [hb]; exact d4
  have hstr' : vk_R own is text sa s' := vk_R.warm hW0 hstr
  obtain ⟨U, hsteps, hrun, hend, hW, hsame, ce, hce, hO⟩ := X₁.ctorThrowS hexec htr (own := own) (cls := cls) (names := names) (ic := ic) hown' hcls hnames h (fun x hx => nomatch hx) hfX hkX hcellA (by rw [hhp, hT]; exact Nat.le_refl _) (msg := .ref sa) rfl
    (g := { method := m, pc := pc + 7, locals := ls, stack := .ref sa :: .ref T.heap.size :: .ref T.heap.size :: rest, locked := none }) rfl hsize rfl rfl (rest := rest) rfl
    (by rw [hb]; exact d7) (by rw [hb]; exact d10) hout hRframes (by simp only [List.map_cons, List.sum_cons, hcat]; omega) hlocks
  obtain ⟨f1, f2⟩ := vx_frame hsame
  rw [hhp] at f1 f2
  have hWs : s.WarmedH U.vm := State.WarmedH.trans hW0 hW
  have hcl : s.vm.findClass cls = some ce.cls := by
    have h9 := hO.cls
    rw [hvm] at h9
    exact h9
  have hall : s.sameButNew ({ U with vm := s.vm } : State) locs mc ms := by
    subst hA
    obtain ⟨e1, e2⟩ := hsame
    rw [State.setFrames_setFrames] at e1
    have h2 : (T.setVm s.vm).sameButNew ({ U with vm := s.vm } : State) [] (0 + 1) (0 + 6) := ⟨e1, e2⟩
    have h3 := X.same.trans h2
    rw [List.append_nil] at h3
    exact h3.mono hc hs
  refine ⟨U, ?_, .threw T.heap.size, hrun, hend, Or.inr ⟨T.heap.size, rfl, cls, ce, locs, hx U hWs.alike f1 (fun q hq => f2 q hq (fun z hz => nomatch hz)), hce, hO.vm, hcl, hWs, hall, hf⟩⟩
  refine st1 _ ?_
  show Steps p.tables e below (T1.setTop { method := m, pc := pc + 3, locals := ls, stack := .ref T.heap.size :: rest, locked := none }) _
  jvm_step X₁.here [X₁.here.top, hexec, d3', Value.category]
  exact X₁.ldcStringW hexec (own := own) (text := text) (index := is) (a := sa) hown' hstr'.1 hstr'.2
    (g := { method := m, pc := pc + 4, locals := ls, stack := .ref T.heap.size :: .ref T.heap.size :: rest, locked := none }) rfl d4' _ hsteps
end Ends
section Bodies
variable {l : Launch}
theorem vx_ofW {y : MethodName} {ws ws' : List Cond} {rm : Room} {Pc : Array Value → State → Prop} {Qc : Array Value → State → Outcome → State → Prop} {XC : String → State → State → Prop} {mc ms : Nat} {free : Addr → Prop} {cc : ByteArray} {maxL : Nat} {ret : Option FieldType}
    (hy : plainName y.cls = true) (hw : ws = Cond.code y cc maxL ret :: ws')
    (body : ∀ p e s m args below meth c s₁, BodyLoose p l y (headSpec ws rm) cc maxL ret e s m args below meth c s₁ → c.maxLocals = maxL → (∀ x ∈ c.exceptionTable.toList, False) → Pc args s →
      W p l e (headSpec ws rm).room s m args below meth c s.heap [] 0 0 (vx_MQ below Qc XC args s mc ms free) (entryFrame m args maxL)) : vx_Met l y ws rm Pc Qc XC mc ms free := by
  refine MetFree.of_bodyS (code := cc) (maxLocals := maxL) (ret := ret) hy ?_ ?_
  · intro args s m h hn
    obtain ⟨meth, c, h1, h2, h3, h4, h5, h6, -, -⟩ := Cond.code_spec hn (atoms_spec (ws := ws) h _ (by rw [hw]; exact List.mem_cons_self))
    exact ⟨meth, c, h1, h2, h3, h4, h5, h6⟩
  · intro p e s m args below meth c s₁ B hml hP _
    have hh0 : s₁.heap = s.heap := by rw [B.state]; rfl
    have ht : ∀ x ∈ c.exceptionTable.toList, False := by
      obtain ⟨meth9, c9, h1, h2, -, -, -, -, h7, -⟩ := Cond.code_spec B.named (atoms_spec (ws := ws) B.pre _ (by rw [hw]; exact List.mem_cons_self))
      cases Option.some.inj (h1.symm.trans B.method)
      cases Option.some.inj (h2.symm.trans (Stand.of_body B).code)
      intro x hx
      rw [Array.isEmpty_iff.mp h7] at hx
      cases hx
    obtain ⟨t, a1, o, b1, b2, b3⟩ := body p e s m args below meth c s₁ B hml ht hP s₁ hh0 (Stand.of_body B)
    exact ⟨t, o, a1, b1, b2, b3⟩
/-- the table of a body with handlers -/
theorem vx_table {p : Program} {x y : MethodName} {S : Spec} {cc bytes : ByteArray} {maxL maxL' : Nat} {ret ret' : Option FieldType} {e : Env} {s s₁ : State} {m : MethodId} {args : Array Value} {below : List Frame} {meth : Method} {c : Code} {hh : List (Nat × Nat × Nat × Nat)}
    (B : BodyLoose p l y S cc maxL ret e s m args below meth c s₁) (h : (Cond.codeWith y bytes maxL' ret' hh).before args s = true) : c.exceptionTable.toList = tableOf hh := by
  obtain ⟨m9, meth9, c9, hn9, h1, h2, -, -, h6, -⟩ := Cond.codeWith_spec h
  cases Option.some.inj (hn9.symm.trans B.named)
  cases Option.some.inj (h1.symm.trans B.method)
  cases Option.some.inj (h2.symm.trans (Stand.of_body B).code)
  rw [← h6, table_eq]
end Bodies
end VXA
/-! ===== END ===== -/
/-! ===== BEGIN a static call of a method with an exception table ===== -/
section VXS
variable {p : Program} {l : Launch} {e : Env} {R : Room} {s : State} {m : MethodId} {args : Array Value} {below : List Frame} {meth : Method} {c : Code} {T : State} {H : Heap} {locs : List Loc} {cells slots : Nat}
abbrev vx_CSW (R : Room) (s : State) (args : Array Value) (own : String) (index : Nat) (y : MethodName) (bytes : ByteArray) (maxL : Nat) (ret : Option FieldType) (hh : List (Nat × Nat × Nat × Nat)) (ws : List Cond) (rm : Room) (mc ms n : Nat) : Prop :=
  (rm.cells = mc ∧ rm.slots = ms ∧ rm.frames + 1 ≤ R.frames ∧ 8 + (maxL + 11) + rm.locals ≤ R.locals ∧ (∀ w ∈ ws, ∀ (a' : Array Value) (U : State), s.WarmedH U.vm → w.before a' U = true) ∧ Cond.codeWith y bytes maxL ret hh ∈ ws) ∧
  (Cond.codeWith y bytes maxL ret hh).before args s = true ∧ (Cond.initialized y.cls).before args s = true ∧ (y.cls ≠ "java/lang/invoke/MethodHandle" ∧ y.cls ≠ "java/lang/invoke/VarHandle") ∧
  (∀ sig, parseMethodDescriptor y.desc = some sig → n = sig.parameters.length) ∧ (Cond.methodLink own index y).before args s = true ∧ (Cond.static y).before args s = true
theorem vx_cwSW {own : String} {index maxL mc ms : Nat} {y : MethodName} {bytes : ByteArray} {ret : Option FieldType} {hh : List (Nat × Nat × Nat × Nat)} {Ts ws ws' : List Cond} {rm : Room} (n : Nat) (ht : ∀ w ∈ Ts, w.before args s = true) (hT : GoodIn Ts (va_wsS own index y ws)) (hw : ws = Cond.codeWith y bytes maxL ret hh :: ws') (hrc : rm.cells = mc) (hrs : rm.slots = ms)
    (hd : y.cls ≠ "java/lang/invoke/MethodHandle" ∧ y.cls ≠ "java/lang/invoke/VarHandle" ∧ (parseMethodDescriptor y.desc).map (fun d => d.parameters.length) = some n) (hR : rm.frames + 1 ≤ R.frames ∧ 8 + (maxL + 11) + rm.locals ≤ R.locals) :
    vx_CSW R s args own index y bytes maxL ret hh ws rm mc ms n := by
  have ok : ∀ w ∈ va_wsS own index y ws, w.before args s = true := fun w h => ht w (hT w h).1
  have hG : GoodIn Ts ws := fun w h => hT w (by unfold va_wsS; exact List.mem_append_right _ h)
  have hc : Cond.codeWith y bytes maxL ret hh ∈ ws := by rw [hw]; exact List.mem_cons_self
  refine ⟨⟨hrc, hrs, hR.1, hR.2, pay_in ht hG, hc⟩, ht _ (hG _ hc).1, ok _ (by simp [va_wsS]), ⟨hd.1, hd.2.1⟩, fun sig h => ?_, ok _ (by simp [va_wsS]), ok _ (by simp [va_wsS])⟩
  have h2 := hd.2.2
  rw [h] at h2
  exact (Option.some.inj h2).symm
theorem vx_callSW (X : Stand p l e R s m args below meth c T locs cells slots) (hexec : p.tables.exec = Jvm.exec) {own : String} {index : Nat} {y : MethodName} {bytes : ByteArray} {maxL : Nat} {ret : Option FieldType} {hh : List (Nat × Nat × Nat × Nat)}
    (hown : s.vm.findClass own = some m.cls) (hlink : (Cond.methodLink own index y).before args s = true) (hstat : (Cond.static y).before args s = true) (hinit : (Cond.initialized y.cls).before args s = true)
    (hcode : (Cond.codeWith y bytes maxL ret hh).before args s = true) (hy : y.cls ≠ "java/lang/invoke/MethodHandle" ∧ y.cls ≠ "java/lang/invoke/VarHandle")
    {W9 : Nat} {Pre : Pt → Array Value → Prop} {Post : Pt → Array Value → Option Value → Pt → Prop} (hK : Back l R p e below s args y 3 W9 Pre Post)
    {g : JFrame} (hg : g.method = m) (hsize : g.locals.size = c.maxLocals) {argsL rest : List Value} (hlen : ∀ sig, parseMethodDescriptor y.desc = some sig → argsL.length = sig.parameters.length)
    (hstack : g.stack = argsL.reverse ++ rest) (hW : 2 * g.monitorRoom + (rest.map fun v => v.category).sum ≤ W9) (hdg : decode c.code g.pc = .ok (.invokestatic index, 3))
    (hpre : ∀ vm₁, s.WarmedH vm₁ → Pre ⟨T.setVm vm₁, locs, cells, slots⟩ argsL.toArray) :
    ∃ (v : Option Value) (vm₁ : Vm) (B : Pt), s.WarmedH vm₁ ∧ Stand p l e R s m args below meth c B.U B.locs B.cells B.slots ∧ Post ⟨T.setVm vm₁, locs, cells, slots⟩ argsL.toArray v B ∧
      ∀ target, Steps p.tables e below (B.U.setTop { g with pc := g.pc + 3, stack := v.toList ++ rest }) target → Steps p.tables e below (T.setTop g) target := by
  obtain ⟨mk, methM, cM, hnamed, hmethM, -, -, -, -, -, -, hsigM⟩ := Cond.codeWith_spec hcode
  have hstatic : methM.isStatic = true := Cond.static_spec hnamed hmethM hstat
  obtain ⟨kP, hkP, -⟩ := className_of_methodNamed hnamed
  have hinitP : kP.init = .initialized := Cond.initialized_spec (findClass_of_methodNamed hnamed) hkP hinit
  obtain ⟨vm₁, X₁, hstep₁⟩ := X.invokestatic hexec hown hlink hnamed hmethM hstatic hkP hinitP hy (g := g) hg (argsL := argsL) (rest := rest) (hlen _ hsigM) hstack hdg
  obtain ⟨v, B, X', hpost, hsteps⟩ := hK m meth c ⟨T.setVm vm₁, locs, cells, slots⟩ { g with stack := rest } (.invokestatic index) mk argsL.toArray X₁ hg hsize hdg hW (X₁.named hnamed) (hpre vm₁ X₁.warmed)
  exact ⟨v, vm₁, B, X₁.warmed, X', hpost, fun target h => hstep₁ _ fun acts => by rw [doInvoke_state]; exact hsteps.trans h⟩
theorem vx_runSW {y : MethodName} {bytes cc : ByteArray} {maxL nL mc ms n index : Nat} {ret : Option FieldType} {hh : List (Nat × Nat × Nat × Nat)} {ws : List Cond} {rm : Room} {Pc : Array Value → State → Prop} {Qc : Array Value → State → Outcome → State → Prop} {free : Addr → Prop} {Ts : List Cond} {own : String} {As rest : List Value} {g : JFrame}
    (S : CallFix p m c cc nL s args Ts own) (hM : Met l y ws rm Pc Qc mc ms free) (cw : vx_CSW R s args own index y bytes maxL ret hh ws rm mc ms n) (hp : PreS s H Pc As)
    (hg : g.method = m) (hn : As.length = n) (hsize : g.locals.size = nL) (hstack : g.stack = As.reverse ++ rest) (hW : 2 * g.monitorRoom + (rest.map fun v => v.category).sum ≤ 8) (hdg : decode cc g.pc = .ok (.invokestatic index, 3)) (hf : cells + mc ≤ R.cells ∧ slots + ms ≤ R.slots) :
    va_Run p l e R s m args below meth c H locs cells slots mc ms g rest (Qc As.toArray) (free) := by
  obtain ⟨⟨hrc, hrs, hfr, hlo, hws, hcw⟩, hcode, hini, hy, hlen, hl, hstt⟩ := cw
  have hK : Back l R p e below s args y 3 8 (PreOf R mc ms Pc) (PostOf Qc mc ms free) := va_backW (hh := hh) (bytes := bytes) (maxL := maxL) (ret := ret) hM hp.1 hrc hrs hfr hlo hws hcw (fun a' U hW => word_at hW (Or.inl (by first | rfl | simp [Cond.onTables, Cond.keeps, Cond.steady])) hini)
  obtain ⟨hx, hb, hml, ho, -⟩ := S
  intro T hT X
  obtain ⟨v, vm₁, ⟨U', l2, c2, s2⟩, hW₁, X', ⟨g', mk, t, L, e1, e2, hq, h1, hL, h2, h3⟩, st⟩ := vx_callSW X hx (hh := hh) (bytes := bytes) (maxL := maxL) (ret := ret) ho hl hstt hini hcode hy hK hg (hsize.trans hml.symm) (argsL := As) (rest := rest) (fun sig h => hn.trans (hlen sig h)) hstack hW (by rw [hb]; exact hdg)
    (fun vm₁ hW₁ => ⟨hf.1, hf.2, hp.2 (T.setVm vm₁) hT hW₁⟩)
  dsimp only [Pt.U, Pt.locs, Pt.cells, Pt.slots] at X' e1 e2 h1 h2 h3 st
  subst h1; subst h2; subst h3
  exact ⟨v, (T.setVm vm₁).calling g' mk As.toArray, t, U', L, hT, X', hL, e1, e2, hq, st⟩
/-- not caught here, past rows that name other classes: it goes on to the caller -/
theorem vx_outP {p : Program} {l : Launch} {e : Env} {R : Room} {s : State} {m : MethodId} {args : Array Value} {below : List Frame} {meth : Method} {c : Code} {H : Heap} {locs : List Loc} {cells slots : Nat} {free : Addr → Prop} {ls : Array Slot} {rest : List Value} {Qc : Array Value → State → Outcome → State → Prop} {XC : String → State → State → Prop}
    {pc : Nat} {own E : String} {ce : Cell} {q : Addr} {mc ms : Nat} (hown : s.vm.findClass own = some m.cls) (hlocks : meth.locks = false)
    (hpass : ∀ z ∈ c.exceptionTable.toList, covers z pc = false ∨ (z.catchType ≠ 0 ∧ ∃ nm : String, (Cond.classLink own z.catchType nm).before args s = true ∧ va_Nc E nm s)) (hcell : H[q]? = some ce) (hv : ce.vm = .none) (hcl : s.vm.findClass E = some ce.cls)
    (hx : ∀ t : State, t.heap = H → s.vm.Alike t.vm → XC E s t) (hf : ∀ z ∈ locs, free z.base) (hc : cells ≤ mc) (hs : slots ≤ ms) :
    vx_W p l e R s m args below meth c H locs cells slots (vx_MQ below Qc XC args s mc ms free) (F0 m pc ls rest) q := by
  intro T hT X
  have hpl : e.platform.magicAccessors = ({} : Platform).magicAccessors := by rw [X.admits.platform]
  obtain ⟨vm', hW', X', st⟩ := X.outThrough hlocks q (g := F0 m pc ls rest) rfl rfl rfl (cell := ce) (by rw [hT]; exact hcell) (by rw [hv]; rfl)
    (by obtain ⟨k9, h9, -⟩ := Vm.findClass_spec hcl; exact ⟨k9, h9⟩) (fun z hz => by
      rcases hpass z hz with h | ⟨hz0, nm, hl1, hn1⟩
      · exact Or.inl h
      · obtain ⟨c6, hc6, hcl6⟩ := Cond.classLink_spec hown hl1 e.platform hpl
        obtain ⟨a8, b8, h1, h2, h3⟩ := hn1
        cases Option.some.inj (h1.symm.trans hcl)
        cases Option.some.inj (h2.symm.trans hc6)
        exact Or.inr ⟨hz0, _, hcl6, h3⟩)
  obtain ⟨g₀, hfr⟩ := X'.frames_eq
  have hcell9 : ((T.setVm vm').setFrames (.throwing q :: below)).heap[q]? = some ce := by
    show T.heap[q]? = some ce
    rw [hT]; exact hcell
  have hend : Ended ((T.setVm vm').setFrames (.throwing q :: below)) below (.threw q) := State.frames_setFrames _ (State.cur_lt_of_frames hfr)
  refine ⟨(T.setVm vm').setFrames (.throwing q :: below), ?_, .threw q, X'.here.running, hend, Or.inr ⟨q, rfl, E, ce, locs, hx _ hT (X'.ends _).1.alike, hcell9, hv, hcl, (X'.ends _).1, (X'.ends _).2.mono hc hs, hf⟩⟩
  rw [X.pushThrowing_eq]
  exact st
/-- a thing of a world lies in the heap -/
theorem vx_lt {D : va_G} {cl : List vw_C} {ws : va_W} {H1 : Heap} (h : va_P D cl ws H1) {k : Nat} {q : Nat × va_E} (hk : ws[k]? = some q) : q.1 < H1.size := (h k q hk).lt
end VXS
/-! ===== END ===== -/
/-! ===== BEGIN methods with a table of their own: called by a name, returning or throwing ===== -/
section VXH
/-! vx_backW, vx_callVX, vx_callSX, vx_callVW, vx_runVW, vx_runVX, vx_runSX, vx_ofWH follow the same proofs as their sisters above (Free/Laws.lean, Shelf42/LK1.lean); vx_outP calls Shelf42/NT130.lean (outThrough). -/
section
variable {l : Launch} {R : Room} {p : Program} {e : Env} {below : List Frame} {s : State} {sargs : Array Value} {y : MethodName} {len W9 : Nat}
theorem vx_backW {ws : List Cond} {rm : Room} {Pc : Array Value → State → Prop} {Qc : Array Value → State → Outcome → State → Prop} {XC : String → State → State → Prop} {mc ms : Nat} {free : Addr → Prop} {bytes : ByteArray} {maxL : Nat} {ret : Option FieldType} {hh : List (Nat × Nat × Nat × Nat)}
    (hM : vx_Met l y ws rm Pc Qc XC mc ms free) (hblind : FrameBlind Pc) (hrc : rm.cells = mc) (hrs : rm.slots = ms)
    (hframes : rm.frames + 1 ≤ R.frames) (hlocals : W9 + (maxL + 11) + rm.locals ≤ R.locals)
    (hws : ∀ w ∈ ws, ∀ a' U, s.WarmedH U.vm → w.before a' U = true) (hcode : Cond.codeWith y bytes maxL ret hh ∈ ws) (hinit : ∀ a' U, s.WarmedH U.vm → (Cond.initialized y.cls).before a' U = true) :
    vx_Back l R p e below s sargs y len W9 (PreOf R mc ms Pc) (PostOf Qc mc ms free) (vx_Post XC mc ms free) := by
  intro m meth c A g ig mk a X hg hsize hdg hW hn hp
  have h1 : (headSpec ws rm).pre.before a A.U = true := atoms_intro fun w hw => hws w hw _ _ X.warmed
  have h2 : (Cond.codeWith y bytes maxL ret hh).before a A.U = true := hws _ hcode _ _ X.warmed
  have h3 : (Cond.initialized y.cls).before a A.U = true := hinit _ _ X.warmed
  have h4 : A.cells + (headSpec ws rm).room.cells ≤ R.cells := by rw [show (headSpec ws rm).room.cells = mc from hrc]; exact hp.1
  have h5 : A.slots + (headSpec ws rm).room.slots ≤ R.slots := by rw [show (headSpec ws rm).room.slots = ms from hrs]; exact hp.2.1
  have hPc : Pc a (A.U.calling g mk a) := hblind _ _ _ _ hp.2.2
  obtain ⟨U, Ls, c0, s0⟩ := A
  dsimp only [Pt.U, Pt.locs, Pt.cells, Pt.slots] at h1 h2 h3 h4 h5 X hn hPc ⊢
  obtain ⟨m9, methY, cY, hn9, hmY, hcY, -, hlY, -⟩ := Cond.codeWith_spec h2
  cases Option.some.inj (hn9.symm.trans hn)
  obtain ⟨kY, hkY, -⟩ := className_of_methodNamed hn
  have hinitY : kY.init = .initialized := Cond.initialized_spec (findClass_of_methodNamed hn) hkY h3
  have h : At U g.method c below := by rw [hg]; exact X.here
  have hlocals9 : W9 + (maxL + 11) + (headSpec ws rm).room.locals ≤ R.locals := hlocals
  have happ : (headSpec ws rm).appliesLoose y e.platform (U.calling g mk a) = true :=
    Spec.appliesLoose_calling (g := g) h hdg hn hkY hinitY
      (X.room_calling (g := g) (R' := (headSpec ws rm).room) hsize hmY hcY hframes (by rw [hlY]; omega) h4 h5) h1
  obtain ⟨mid, hmid⟩ := h.above
  have hfr : (U.setTop g).frames = (.java g :: mid) ++ below := by rw [State.frames_setTop' g h.top, hmid]; rfl
  obtain ⟨o, s₂, hsteps, -, hend, hq⟩ := Steps.callFree hM p X.admits X.cas X.clock (acts := []) hfr happ hPc trivial
  have hq' : vx_Q Qc XC mc ms free a (U.calling g mk a) o s₂ := hq
  rw [State.frames_setTop' g h.top] at hend
  obtain ⟨g₀, hg0⟩ := Option.isSome_iff_exists.mp h.top
  obtain ⟨r, hr⟩ := State.topJava?_eq_some.mp hg0
  have hr' : (({ U with heap := s₂.heap, slotsUsed := s₂.slotsUsed } : State).setVm s₂.vm).frames = .java g₀ :: r := hr
  rcases hq' with ⟨hqc, L, hfe, hL⟩ | ⟨q, rfl, E, ce, L, hx, hce, hcv, hcl, hW₂, hsm, hL⟩
  · obtain ⟨⟨v, rfl⟩, hW₂, e2, q2, q3, q4, q5, q6⟩ := id hfe
    have e3 : s₂ = ({ (U.calling g mk a).setFrames s₂.frames with heap := s₂.heap, slotsUsed := s₂.slotsUsed } : State).setVm s₂.vm := by
      have : s₂ = ({ s₂ with vm := (U.calling g mk a).vm } : State).setVm s₂.vm := rfl
      rw [e2] at this
      exact this
    obtain ⟨c₂, i₂, len₂, hc₂, hd₂, hf₂⟩ := hend
    have hW' : U.WarmedH s₂.vm := hW₂
    have hcc : c₂ = c := by
      have h1 : s₂.code? g.method = U.code? g.method := by
        rw [State.code?_eq, State.code?_eq, hW'.alike.method?]
      exact Option.some.inj (hc₂.symm.trans (h1.trans h.code))
    subst hcc
    have hlen : len₂ = len := by rw [hdg] at hd₂; cases hd₂; rfl
    subst hlen
    have hs₂ : s₂ = (({ U with heap := s₂.heap, slotsUsed := s₂.slotsUsed } : State).setVm s₂.vm).setTop { g with pc := g.pc + len₂, stack := v.toList ++ g.stack } := by
      refine e3.trans ?_
      rw [hf₂, State.calling_eq h.top, State.setFrames_setFrames, State.setTop_of_frames _ hr', hr]
      rfl
    have hsame : U.sameButNew ({ U with heap := s₂.heap, slotsUsed := s₂.slotsUsed } : State) L mc ms := by
      refine ⟨?_, q2, q3, q4, q5, q6⟩
      obtain ⟨t, ht, -⟩ := State.frames_cons hr
      show ({ U with heap := s₂.heap, slotsUsed := s₂.slotsUsed } : State) = { U.setFrames U.frames with heap := s₂.heap, slotsUsed := s₂.slotsUsed }
      rw [State.setFrames_self ht]
    subst hg
    refine Or.inl ⟨v, ⟨(({ U with heap := s₂.heap, slotsUsed := s₂.slotsUsed } : State).setVm s₂.vm), Ls ++ L, c0 + mc, s0 + ms⟩,
      ⟨X.admits, X.cas, X.clock, X.frames, X.room, X.hears, X.method, X.code, (X.here.setHeapUsed s₂.heap s₂.slotsUsed).setVm hW'.alike, X.tail, State.WarmedH.trans X.warmed hW', X.limits, X.bytes, X.same.trans (hsame.setVm s.vm)⟩,
      ⟨g, mk, s₂, L, rfl, rfl, hqc, rfl, hL, rfl, rfl⟩, ?_⟩
    show Steps p.tables e below _ ((({ U with heap := s₂.heap, slotsUsed := s₂.slotsUsed } : State).setVm s₂.vm).setTop { g with pc := g.pc + len₂, stack := v.toList ++ g.stack })
    rw [← hs₂]
    exact hsteps
  · obtain ⟨e2, q2, q3, q4, q5, q6⟩ := id hsm
    have e3 : s₂ = ({ (U.calling g mk a).setFrames s₂.frames with heap := s₂.heap, slotsUsed := s₂.slotsUsed } : State).setVm s₂.vm := by
      have : s₂ = ({ s₂ with vm := (U.calling g mk a).vm } : State).setVm s₂.vm := rfl
      rw [e2] at this
      exact this
    have hf₂ : s₂.frames = .throwing q :: .java g :: U.frames.tail := hend
    have hW' : U.WarmedH s₂.vm := hW₂
    have hs₂ : s₂ = ((({ U with heap := s₂.heap, slotsUsed := s₂.slotsUsed } : State).setVm s₂.vm).setTop g).pushFrame (.throwing q) := by
      refine e3.trans ?_
      rw [hf₂, State.calling_eq h.top, State.setFrames_setFrames, State.pushFrame, State.frames_setTop _ hr', State.setTop_of_frames _ hr', State.setFrames_setFrames, hr]
      rfl
    have hsame : U.sameButNew ({ U with heap := s₂.heap, slotsUsed := s₂.slotsUsed } : State) L mc ms := by
      refine ⟨?_, q2, q3, q4, q5, q6⟩
      obtain ⟨t, ht, -⟩ := State.frames_cons hr
      show ({ U with heap := s₂.heap, slotsUsed := s₂.slotsUsed } : State) = { U.setFrames U.frames with heap := s₂.heap, slotsUsed := s₂.slotsUsed }
      rw [State.setFrames_self ht]
    subst hg
    refine Or.inr ⟨q, ⟨(({ U with heap := s₂.heap, slotsUsed := s₂.slotsUsed } : State).setVm s₂.vm), Ls ++ L, c0 + mc, s0 + ms⟩,
      ⟨X.admits, X.cas, X.clock, X.frames, X.room, X.hears, X.method, X.code, (X.here.setHeapUsed s₂.heap s₂.slotsUsed).setVm hW'.alike, X.tail, State.WarmedH.trans X.warmed hW', X.limits, X.bytes, X.same.trans (hsame.setVm s.vm)⟩,
      ⟨g, mk, s₂, L, E, ce, rfl, rfl, hx, hce, hcv, hcl, rfl, hL, rfl, rfl⟩, ?_⟩
    show Steps p.tables e below _ (((({ U with heap := s₂.heap, slotsUsed := s₂.slotsUsed } : State).setVm s₂.vm).setTop g).pushFrame (.throwing q))
    rw [← hs₂]
    exact hsteps
end
variable {p : Program} {l : Launch} {e : Env} {R : Room} {s : State} {m : MethodId} {args : Array Value} {below : List Frame} {meth : Method} {c : Code} {T : State} {H : Heap} {locs : List Loc} {cells slots : Nat}
theorem vx_callVX (X : Stand p l e R s m args below meth c T locs cells slots) (hexec : p.tables.exec = Jvm.exec) {own C : String} {index : Nat} {y : MethodName} {bytes : ByteArray} {maxL : Nat} {ret : Option FieldType} {hh : List (Nat × Nat × Nat × Nat)}
    (hown : s.vm.findClass own = some m.cls) (hlink : (Cond.methodLink own index y).before args s = true) (hinst : (Cond.instanceMethod y).before args s = true) (hsel : (Cond.selects C y y).before args s = true)
    (hcode : (Cond.codeWith y bytes maxL ret hh).before args s = true) (hy : y.cls ≠ "java/lang/invoke/MethodHandle" ∧ y.cls ≠ "java/lang/invoke/VarHandle")
    {W9 : Nat} {Pre : Pt → Array Value → Prop} {Post : Pt → Array Value → Option Value → Pt → Prop} {PostX : Pt → Array Value → Addr → Pt → Prop} (hK : vx_Back l R p e below s args y 3 W9 Pre Post PostX)
    {b : Addr} {cellB : Cell} (hcell : T.heap[b]? = some cellB) (hobj : cellB.vm.isStatics = false) (hcls : s.vm.findClass C = some cellB.cls)
    {g : JFrame} (hg : g.method = m) (hsize : g.locals.size = c.maxLocals) {argsL rest : List Value} (hlen : ∀ sig, parseMethodDescriptor y.desc = some sig → argsL.length = sig.parameters.length)
    (hstack : g.stack = argsL.reverse ++ .ref b :: rest) (hW : 2 * g.monitorRoom + (rest.map fun v => v.category).sum ≤ W9) (hdg : decode c.code g.pc = .ok (.invokevirtual index, 3))
    (hpre : ∀ vm₁, s.WarmedH vm₁ → Pre ⟨T.setVm vm₁, locs, cells, slots⟩ (Value.ref b :: argsL).toArray) :
    (∃ (v : Option Value) (vm₁ : Vm) (B : Pt), s.WarmedH vm₁ ∧ Stand p l e R s m args below meth c B.U B.locs B.cells B.slots ∧ Post ⟨T.setVm vm₁, locs, cells, slots⟩ (Value.ref b :: argsL).toArray v B ∧
      ∀ target, Steps p.tables e below (B.U.setTop { g with pc := g.pc + 3, stack := v.toList ++ rest }) target → Steps p.tables e below (T.setTop g) target) ∨
    (∃ (q : Addr) (vm₁ : Vm) (B : Pt), s.WarmedH vm₁ ∧ Stand p l e R s m args below meth c B.U B.locs B.cells B.slots ∧ PostX ⟨T.setVm vm₁, locs, cells, slots⟩ (Value.ref b :: argsL).toArray q B ∧
      Steps p.tables e below (T.setTop g) ((B.U.setTop { g with stack := rest }).pushFrame (.throwing q))) := by
  obtain ⟨mk, methM, hnamed, hmethM, hstM, habM⟩ := Cond.instanceMethod_spec hinst
  obtain ⟨m8, methM', cM, hn8, hmethM', -, -, -, -, -, -, hsigM⟩ := Cond.codeWith_spec hcode
  cases Option.some.inj (hn8.symm.trans hnamed)
  cases hmethM.symm.trans hmethM'
  obtain ⟨c2, r2, m2, q1, q2, q3, q4, kP, hkP, hkPi⟩ := Cond.selects_spec hsel
  cases hcls.symm.trans q1
  cases (State.methodFound?_of_named hnamed hy).symm.trans q2
  cases hnamed.symm.trans q3
  have hselP : selectMethod e.platform s.vm cellB.cls mk = .method mk := by rw [Launch.admits_selectMethod X.admits]; exact q4
  obtain ⟨vm₁, X₁, hstep₁⟩ := X.invokevirtual hexec hown hlink hnamed hmethM hstM hkP hkPi hy (a := b) (cell := cellB) hcell
    (fun z h => by rw [h] at hobj; cases hobj) hselP hmethM habM hkP hkPi (g := g) hg (argsL := argsL) (rest := rest) (hlen _ hsigM) hstack hdg
  rcases hK m meth c ⟨T.setVm vm₁, locs, cells, slots⟩ { g with stack := rest } (.invokevirtual index) mk (Value.ref b :: argsL).toArray X₁ hg hsize hdg hW (X₁.named hnamed) (hpre vm₁ X₁.warmed) with ⟨v, B, X', hpost, hsteps⟩ | ⟨q, B, X', hpost, hsteps⟩
  · exact Or.inl ⟨v, vm₁, B, X₁.warmed, X', hpost, fun target h => hstep₁ _ fun acts => by rw [doInvoke_state]; exact hsteps.trans h⟩
  · exact Or.inr ⟨q, vm₁, B, X₁.warmed, X', hpost, hstep₁ _ fun acts => by rw [doInvoke_state]; exact hsteps⟩
theorem vx_callSX (X : Stand p l e R s m args below meth c T locs cells slots) (hexec : p.tables.exec = Jvm.exec) {own : String} {index : Nat} {y : MethodName} {bytes : ByteArray} {maxL : Nat} {ret : Option FieldType} {hh : List (Nat × Nat × Nat × Nat)}
    (hown : s.vm.findClass own = some m.cls) (hlink : (Cond.methodLink own index y).before args s = true) (hstat : (Cond.static y).before args s = true) (hinit : (Cond.initialized y.cls).before args s = true)
    (hcode : (Cond.codeWith y bytes maxL ret hh).before args s = true) (hy : y.cls ≠ "java/lang/invoke/MethodHandle" ∧ y.cls ≠ "java/lang/invoke/VarHandle")
    {W9 : Nat} {Pre : Pt → Array Value → Prop} {Post : Pt → Array Value → Option Value → Pt → Prop} {PostX : Pt → Array Value → Addr → Pt → Prop} (hK : vx_Back l R p e below s args y 3 W9 Pre Post PostX)
    {g : JFrame} (hg : g.method = m) (hsize : g.locals.size = c.maxLocals) {argsL rest : List Value} (hlen : ∀ sig, parseMethodDescriptor y.desc = some sig → argsL.length = sig.parameters.length)
    (hstack : g.stack = argsL.reverse ++ rest) (hW : 2 * g.monitorRoom + (rest.map fun v => v.category).sum ≤ W9) (hdg : decode c.code g.pc = .ok (.invokestatic index, 3))
    (hpre : ∀ vm₁, s.WarmedH vm₁ → Pre ⟨T.setVm vm₁, locs, cells, slots⟩ argsL.toArray) :
    (∃ (v : Option Value) (vm₁ : Vm) (B : Pt), s.WarmedH vm₁ ∧ Stand p l e R s m args below meth c B.U B.locs B.cells B.slots ∧ Post ⟨T.setVm vm₁, locs, cells, slots⟩ argsL.toArray v B ∧
      ∀ target, Steps p.tables e below (B.U.setTop { g with pc := g.pc + 3, stack := v.toList ++ rest }) target → Steps p.tables e below (T.setTop g) target) ∨
    (∃ (q : Addr) (vm₁ : Vm) (B : Pt), s.WarmedH vm₁ ∧ Stand p l e R s m args below meth c B.U B.locs B.cells B.slots ∧ PostX ⟨T.setVm vm₁, locs, cells, slots⟩ argsL.toArray q B ∧
      Steps p.tables e below (T.setTop g) ((B.U.setTop { g with stack := rest }).pushFrame (.throwing q))) := by
  obtain ⟨mk, methM, cM, hnamed, hmethM, -, -, -, -, -, -, hsigM⟩ := Cond.codeWith_spec hcode
  have hstatic : methM.isStatic = true := Cond.static_spec hnamed hmethM hstat
  obtain ⟨kP, hkP, -⟩ := className_of_methodNamed hnamed
  have hinitP : kP.init = .initialized := Cond.initialized_spec (findClass_of_methodNamed hnamed) hkP hinit
  obtain ⟨vm₁, X₁, hstep₁⟩ := X.invokestatic hexec hown hlink hnamed hmethM hstatic hkP hinitP hy (g := g) hg (argsL := argsL) (rest := rest) (hlen _ hsigM) hstack hdg
  rcases hK m meth c ⟨T.setVm vm₁, locs, cells, slots⟩ { g with stack := rest } (.invokestatic index) mk argsL.toArray X₁ hg hsize hdg hW (X₁.named hnamed) (hpre vm₁ X₁.warmed) with ⟨v, B, X', hpost, hsteps⟩ | ⟨q, B, X', hpost, hsteps⟩
  · exact Or.inl ⟨v, vm₁, B, X₁.warmed, X', hpost, fun target h => hstep₁ _ fun acts => by rw [doInvoke_state]; exact hsteps.trans h⟩
  · exact Or.inr ⟨q, vm₁, B, X₁.warmed, X', hpost, hstep₁ _ fun acts => by rw [doInvoke_state]; exact hsteps⟩
theorem vx_callVW (X : Stand p l e R s m args below meth c T locs cells slots) (hexec : p.tables.exec = Jvm.exec) {own C : String} {index : Nat} {y : MethodName} {bytes : ByteArray} {maxL : Nat} {ret : Option FieldType} {hh : List (Nat × Nat × Nat × Nat)}
    (hown : s.vm.findClass own = some m.cls) (hlink : (Cond.methodLink own index y).before args s = true) (hinst : (Cond.instanceMethod y).before args s = true) (hsel : (Cond.selects C y y).before args s = true)
    (hcode : (Cond.codeWith y bytes maxL ret hh).before args s = true) (hy : y.cls ≠ "java/lang/invoke/MethodHandle" ∧ y.cls ≠ "java/lang/invoke/VarHandle")
    {W9 : Nat} {Pre : Pt → Array Value → Prop} {Post : Pt → Array Value → Option Value → Pt → Prop} (hK : Back l R p e below s args y 3 W9 Pre Post)
    {b : Addr} {cellB : Cell} (hcell : T.heap[b]? = some cellB) (hobj : cellB.vm.isStatics = false) (hcls : s.vm.findClass C = some cellB.cls)
    {g : JFrame} (hg : g.method = m) (hsize : g.locals.size = c.maxLocals) {argsL rest : List Value} (hlen : ∀ sig, parseMethodDescriptor y.desc = some sig → argsL.length = sig.parameters.length)
    (hstack : g.stack = argsL.reverse ++ .ref b :: rest) (hW : 2 * g.monitorRoom + (rest.map fun v => v.category).sum ≤ W9) (hdg : decode c.code g.pc = .ok (.invokevirtual index, 3))
    (hpre : ∀ vm₁, s.WarmedH vm₁ → Pre ⟨T.setVm vm₁, locs, cells, slots⟩ (Value.ref b :: argsL).toArray) :
    ∃ (v : Option Value) (vm₁ : Vm) (B : Pt), s.WarmedH vm₁ ∧ Stand p l e R s m args below meth c B.U B.locs B.cells B.slots ∧ Post ⟨T.setVm vm₁, locs, cells, slots⟩ (Value.ref b :: argsL).toArray v B ∧
      ∀ target, Steps p.tables e below (B.U.setTop { g with pc := g.pc + 3, stack := v.toList ++ rest }) target → Steps p.tables e below (T.setTop g) target := by
  obtain ⟨mk, methM, hnamed, hmethM, hstM, habM⟩ := Cond.instanceMethod_spec hinst
  obtain ⟨m8, methM', cM, hn8, hmethM', -, -, -, -, -, -, hsigM⟩ := Cond.codeWith_spec hcode
  cases Option.some.inj (hn8.symm.trans hnamed)
  cases hmethM.symm.trans hmethM'
  obtain ⟨c2, r2, m2, q1, q2, q3, q4, kP, hkP, hkPi⟩ := Cond.selects_spec hsel
  cases hcls.symm.trans q1
  cases (State.methodFound?_of_named hnamed hy).symm.trans q2
  cases hnamed.symm.trans q3
  have hselP : selectMethod e.platform s.vm cellB.cls mk = .method mk := by rw [Launch.admits_selectMethod X.admits]; exact q4
  obtain ⟨vm₁, X₁, hstep₁⟩ := X.invokevirtual hexec hown hlink hnamed hmethM hstM hkP hkPi hy (a := b) (cell := cellB) hcell
    (fun z h => by rw [h] at hobj; cases hobj) hselP hmethM habM hkP hkPi (g := g) hg (argsL := argsL) (rest := rest) (hlen _ hsigM) hstack hdg
  obtain ⟨v, B, X', hpost, hsteps⟩ := hK m meth c ⟨T.setVm vm₁, locs, cells, slots⟩ { g with stack := rest } (.invokevirtual index) mk (Value.ref b :: argsL).toArray X₁ hg hsize hdg hW (X₁.named hnamed) (hpre vm₁ X₁.warmed)
  exact ⟨v, vm₁, B, X₁.warmed, X', hpost, fun target h => hstep₁ _ fun acts => by rw [doInvoke_state]; exact hsteps.trans h⟩
abbrev vx_CVW (R : Room) (s : State) (args : Array Value) (own C : String) (index : Nat) (y : MethodName) (bytes : ByteArray) (maxL : Nat) (ret : Option FieldType) (hh : List (Nat × Nat × Nat × Nat)) (ws : List Cond) (rm : Room) (mc ms n : Nat) : Prop :=
  (rm.cells = mc ∧ rm.slots = ms ∧ rm.frames + 1 ≤ R.frames ∧ 8 + (maxL + 11) + rm.locals ≤ R.locals ∧ (∀ w ∈ ws, ∀ (a' : Array Value) (U : State), s.WarmedH U.vm → w.before a' U = true) ∧ Cond.codeWith y bytes maxL ret hh ∈ ws) ∧
  (Cond.codeWith y bytes maxL ret hh).before args s = true ∧ (Cond.initialized y.cls).before args s = true ∧ (y.cls ≠ "java/lang/invoke/MethodHandle" ∧ y.cls ≠ "java/lang/invoke/VarHandle") ∧
  (∀ sig, parseMethodDescriptor y.desc = some sig → n = sig.parameters.length) ∧ (Cond.methodLink own index y).before args s = true ∧ (Cond.instanceMethod y).before args s = true ∧ (Cond.selects C y y).before args s = true
theorem vx_cwVW {own C : String} {index maxL mc ms : Nat} {y : MethodName} {bytes : ByteArray} {ret : Option FieldType} {hh : List (Nat × Nat × Nat × Nat)} {Ts ws ws' : List Cond} {rm : Room} (n : Nat) (ht : ∀ w ∈ Ts, w.before args s = true) (hT : GoodIn Ts (wsV own index C y ws)) (hw : ws = Cond.codeWith y bytes maxL ret hh :: ws') (hrc : rm.cells = mc) (hrs : rm.slots = ms)
    (hd : y.cls = C ∧ y.cls ≠ "java/lang/invoke/MethodHandle" ∧ y.cls ≠ "java/lang/invoke/VarHandle" ∧ (parseMethodDescriptor y.desc).map (fun d => d.parameters.length) = some n) (hR : rm.frames + 1 ≤ R.frames ∧ 8 + (maxL + 11) + rm.locals ≤ R.locals) :
    vx_CVW R s args own C index y bytes maxL ret hh ws rm mc ms n := by
  obtain ⟨hC, hd⟩ := hd
  subst hC
  have ok : ∀ w ∈ wsV own index y.cls y ws, w.before args s = true := fun w h => ht w (hT w h).1
  have hG : GoodIn Ts ws := fun w h => hT w (by unfold wsV; exact List.mem_append_right _ h)
  have hc : Cond.codeWith y bytes maxL ret hh ∈ ws := by rw [hw]; exact List.mem_cons_self
  refine ⟨⟨hrc, hrs, hR.1, hR.2, pay_in ht hG, hc⟩, ht _ (hG _ hc).1, ok _ (by simp [wsV]), ⟨hd.1, hd.2.1⟩, fun sig h => ?_, ok _ (by simp [wsV]), ok _ (by simp [wsV]), ok _ (by simp [wsV])⟩
  have h2 := hd.2.2
  rw [h] at h2
  exact (Option.some.inj h2).symm
theorem vx_runVW {y : MethodName} {bytes cc : ByteArray} {maxL nL mc ms n index : Nat} {ret : Option FieldType} {hh : List (Nat × Nat × Nat × Nat)} {ws : List Cond} {rm : Room} {Pc : Array Value → State → Prop} {Qc : Array Value → State → Outcome → State → Prop} {free : Addr → Prop} {Ts : List Cond} {own C : String} {b : Addr} {As rest : List Value} {g : JFrame}
    (S : CallFix p m c cc nL s args Ts own) (hM : Met l y ws rm Pc Qc mc ms free) (cw : vx_CVW R s args own C index y bytes maxL ret hh ws rm mc ms n) (hp : PreV s H C b Pc As)
    (hg : g.method = m) (hn : As.length = n) (hsize : g.locals.size = nL) (hstack : g.stack = As.reverse ++ .ref b :: rest) (hW : 2 * g.monitorRoom + (rest.map fun v => v.category).sum ≤ 8) (hdg : decode cc g.pc = .ok (.invokevirtual index, 3)) (hf : cells + mc ≤ R.cells ∧ slots + ms ≤ R.slots) :
    va_Run p l e R s m args below meth c H locs cells slots mc ms g rest (Qc (Value.ref b :: As).toArray) free := by
  obtain ⟨⟨hrc, hrs, hfr, hlo, hws, hcw⟩, hcode, hini, hy, hlen, hl, hin, hse⟩ := cw
  have hK : Back l R p e below s args y 3 8 (PreOf R mc ms Pc) (PostOf Qc mc ms free) := va_backW (hh := hh) (bytes := bytes) (maxL := maxL) (ret := ret) hM hp.1 hrc hrs hfr hlo hws hcw (fun a' U hW => word_at hW (Or.inl (by first | rfl | simp [Cond.onTables, Cond.keeps, Cond.steady])) hini)
  obtain ⟨hx, hb, hml, ho, -⟩ := S
  obtain ⟨-, ⟨cellB, hcB, hoB, hclB⟩, hPc⟩ := hp
  intro T hT X
  obtain ⟨v, vm₁, ⟨U', l2, c2, s2⟩, hW₁, X', ⟨g', mk, t, L, e1, e2, hq, h1, hL, h2, h3⟩, st⟩ := vx_callVW X hx (C := C) (hh := hh) (bytes := bytes) (maxL := maxL) (ret := ret) ho hl hin hse hcode hy hK (by rw [hT]; exact hcB) hoB hclB hg (hsize.trans hml.symm) (argsL := As) (rest := rest) (fun sig h => hn.trans (hlen sig h)) hstack hW (by rw [hb]; exact hdg)
    (fun vm₁ hW₁ => ⟨hf.1, hf.2, hPc (T.setVm vm₁) hT hW₁⟩)
  dsimp only [Pt.U, Pt.locs, Pt.cells, Pt.slots] at X' e1 e2 h1 h2 h3 st
  subst h1; subst h2; subst h3
  exact ⟨v, (T.setVm vm₁).calling g' mk (Value.ref b :: As).toArray, t, U', L, hT, X', hL, e1, e2, hq, st⟩
section
variable {y : MethodName} {bytes cc : ByteArray} {maxL nL mc ms n index : Nat} {ret : Option FieldType} {ws : List Cond} {rm : Room} {Pc : Array Value → State → Prop} {Qc : Array Value → State → Outcome → State → Prop} {XC : String → State → State → Prop} {free : Addr → Prop} {Ts : List Cond} {own C : String} {b : Addr} {As rest : List Value} {g : JFrame}
theorem vx_runVX {hh : List (Nat × Nat × Nat × Nat)} (S : CallFix p m c cc nL s args Ts own) (hM : vx_Met l y ws rm Pc Qc XC mc ms free) (cw : vx_CVW R s args own C index y bytes maxL ret hh ws rm mc ms n) (hp : PreV s H C b Pc As)
    (hg : g.method = m) (hn : As.length = n) (hsize : g.locals.size = nL) (hstack : g.stack = As.reverse ++ .ref b :: rest) (hW : 2 * g.monitorRoom + (rest.map fun v => v.category).sum ≤ 8) (hdg : decode cc g.pc = .ok (.invokevirtual index, 3)) (hf : cells + mc ≤ R.cells ∧ slots + ms ≤ R.slots) :
    vx_Run p l e R s m args below meth c H locs cells slots mc ms g rest (Qc (Value.ref b :: As).toArray) XC free := by
  obtain ⟨⟨hrc, hrs, hfr, hlo, hws, hcw⟩, hcode, hini, hy, hlen, hl, hin, hse⟩ := cw
  have hK : vx_Back l R p e below s args y 3 8 (PreOf R mc ms Pc) (PostOf Qc mc ms free) (vx_Post XC mc ms free) := vx_backW (hh := hh) (bytes := bytes) (maxL := maxL) (ret := ret) hM hp.1 hrc hrs hfr hlo hws hcw (fun a' U hW => word_at hW (Or.inl (by first | rfl | simp [Cond.onTables, Cond.keeps, Cond.steady])) hini)
  obtain ⟨hx, hb, hml, ho, -⟩ := S
  obtain ⟨-, ⟨cellB, hcB, hoB, hclB⟩, hPc⟩ := hp
  intro T hT X
  rcases vx_callVX X hx (C := C) (hh := hh) (bytes := bytes) (maxL := maxL) (ret := ret) ho hl hin hse hcode hy hK (by rw [hT]; exact hcB) hoB hclB hg (hsize.trans hml.symm) (argsL := As) (rest := rest) (fun sig h => hn.trans (hlen sig h)) hstack hW (by rw [hb]; exact hdg)
    (fun vm₁ hW₁ => ⟨hf.1, hf.2, hPc (T.setVm vm₁) hT hW₁⟩) with ⟨v, vm₁, ⟨U', l2, c2, s2⟩, hW₁, X', ⟨g', mk, t, L, e1, e2, hq, h1, hL, h2, h3⟩, st⟩ | ⟨q, vm₁, ⟨U', l2, c2, s2⟩, hW₁, X', ⟨g', mk, t, L, E, ce, e1, e2, hq, hce, hcv, hcl, h1, hL, h2, h3⟩, st⟩
  · dsimp only [Pt.U, Pt.locs, Pt.cells, Pt.slots] at X' e1 e2 h1 h2 h3 st
    subst h1; subst h2; subst h3
    exact Or.inl ⟨v, (T.setVm vm₁).calling g' mk (Value.ref b :: As).toArray, t, U', L, hT, X', hL, e1, e2, hq, st⟩
  · dsimp only [Pt.U, Pt.locs, Pt.cells, Pt.slots] at X' e1 e2 h1 h2 h3 st hcl
    subst h1; subst h2; subst h3
    exact Or.inr ⟨q, (T.setVm vm₁).calling g' mk (Value.ref b :: As).toArray, t, U', L, E, ce, hT, X', hL, e1, e2, hq, hce, hcv, vx_cls hW₁ hcl, st⟩
theorem vx_runSX {hh : List (Nat × Nat × Nat × Nat)} (S : CallFix p m c cc nL s args Ts own) (hM : vx_Met l y ws rm Pc Qc XC mc ms free) (cw : vx_CSW R s args own index y bytes maxL ret hh ws rm mc ms n) (hp : PreS s H Pc As)
    (hg : g.method = m) (hn : As.length = n) (hsize : g.locals.size = nL) (hstack : g.stack = As.reverse ++ rest) (hW : 2 * g.monitorRoom + (rest.map fun v => v.category).sum ≤ 8) (hdg : decode cc g.pc = .ok (.invokestatic index, 3)) (hf : cells + mc ≤ R.cells ∧ slots + ms ≤ R.slots) :
    vx_Run p l e R s m args below meth c H locs cells slots mc ms g rest (Qc As.toArray) XC free := by
  obtain ⟨⟨hrc, hrs, hfr, hlo, hws, hcw⟩, hcode, hini, hy, hlen, hl, hstt⟩ := cw
  have hK : vx_Back l R p e below s args y 3 8 (PreOf R mc ms Pc) (PostOf Qc mc ms free) (vx_Post XC mc ms free) := vx_backW (hh := hh) (bytes := bytes) (maxL := maxL) (ret := ret) hM hp.1 hrc hrs hfr hlo hws hcw (fun a' U hW => word_at hW (Or.inl (by first | rfl | simp [Cond.onTables, Cond.keeps, Cond.steady])) hini)
  obtain ⟨hx, hb, hml, ho, -⟩ := S
  intro T hT X
  rcases vx_callSX X hx (hh := hh) (bytes := bytes) (maxL := maxL) (ret := ret) ho hl hstt hini hcode hy hK hg (hsize.trans hml.symm) (argsL := As) (rest := rest) (fun sig h => hn.trans (hlen sig h)) hstack hW (by rw [hb]; exact hdg)
    (fun vm₁ hW₁ => ⟨hf.1, hf.2, hp.2 (T.setVm vm₁) hT hW₁⟩) with ⟨v, vm₁, ⟨U', l2, c2, s2⟩, hW₁, X', ⟨g', mk, t, L, e1, e2, hq, h1, hL, h2, h3⟩, st⟩ | ⟨q, vm₁, ⟨U', l2, c2, s2⟩, hW₁, X', ⟨g', mk, t, L, E, ce, e1, e2, hq, hce, hcv, hcl, h1, hL, h2, h3⟩, st⟩
  · dsimp only [Pt.U, Pt.locs, Pt.cells, Pt.slots] at X' e1 e2 h1 h2 h3 st
    subst h1; subst h2; subst h3
    exact Or.inl ⟨v, (T.setVm vm₁).calling g' mk As.toArray, t, U', L, hT, X', hL, e1, e2, hq, st⟩
  · dsimp only [Pt.U, Pt.locs, Pt.cells, Pt.slots] at X' e1 e2 h1 h2 h3 st hcl
    subst h1; subst h2; subst h3
    exact Or.inr ⟨q, (T.setVm vm₁).calling g' mk As.toArray, t, U', L, E, ce, hT, X', hL, e1, e2, hq, hce, hcv, vx_cls hW₁ hcl, st⟩
end
end VXH
theorem vx_ofWH {l : Launch} {y : MethodName} {ws ws' : List Cond} {rm : Room} {Pc : Array Value → State → Prop} {Qc : Array Value → State → Outcome → State → Prop} {XC : String → State → State → Prop} {mc ms : Nat} {free : Addr → Prop} {cc : ByteArray} {maxL : Nat} {ret : Option FieldType} {hh : List (Nat × Nat × Nat × Nat)}
    (hy : plainName y.cls = true) (hw : ws = Cond.codeWith y cc maxL ret hh :: ws')
    (body : ∀ p e s m args below meth c s₁, BodyLoose p l y (headSpec ws rm) cc maxL ret e s m args below meth c s₁ → c.maxLocals = maxL → Pc args s →
      W p l e (headSpec ws rm).room s m args below meth c s.heap [] 0 0 (vx_MQ below Qc XC args s mc ms free) (entryFrame m args maxL)) : vx_Met l y ws rm Pc Qc XC mc ms free := by
  refine MetFree.of_bodyS (code := cc) (maxLocals := maxL) (ret := ret) hy ?_ ?_
  · intro args s m h hn
    obtain ⟨m9, meth, c, hn9, h1, h2, h3, h4, -, h5, h6, -⟩ := Cond.codeWith_spec (atoms_spec (ws := ws) h _ (by rw [hw]; exact List.mem_cons_self))
    cases hn.symm.trans hn9
    exact ⟨meth, c, h1, h2, h3, h4, h5, h6⟩
  · intro p e s m args below meth c s₁ B hml hP _
    have hh0 : s₁.heap = s.heap := by rw [B.state]; rfl
    obtain ⟨t, a1, o, b1, b2, b3⟩ := body p e s m args below meth c s₁ B hml hP s₁ hh0 (Stand.of_body B)
    exact ⟨t, o, a1, b1, b2, b3⟩
/-! ===== END ===== -/
end
section
/-! ===== BEGIN printed: names, fields, word lists, decode rows ===== -/
def RX0 : String := "PageBail$Bail"
def TX0 : u_T := fun k => match k with
  | 0 => ("PageBail$Bail", "number", "I", true)
  | 1 => ("PageBail$Bail", "sum", "I", true)
  | 2 => ("PageBail$Bail", "surety", "I", true)
  | 3 => ("PageBail$Bail", "putDay", "I", true)
  | _ => ("PageBail$Bail", "forfeitDay", "I", false)
def tyX0 : Nat → FieldType := fun k => match k with
  | 0 => .int
  | 1 => .int
  | 2 => .int
  | 3 => .int
  | _ => .int
abbrev wsX00 : List Cond := u_ws RX0 TX0 5
theorem nmX0 : ∀ a, a < 5 → ∀ b, b < 5 → a ≠ b → (TX0 a).2.1 ≠ (TX0 b).2.1 := by decide +kernel
theorem tyX0_ok : ∀ k, k < 5 → parseFieldDescriptor (TX0 k).2.2.1 = some (tyX0 k) := by decide +kernel
abbrev cX0_init : ByteArray := prog_2_method_1_code
def yX0_init : MethodName := ⟨RX0, "<init>", "(IIII)V"⟩
abbrev cX0_hasForfeitDay : ByteArray := prog_2_method_2_code
def yX0_hasForfeitDay : MethodName := ⟨RX0, "hasForfeitDay", "()Z"⟩
abbrev cX0_isOverdue : ByteArray := prog_2_method_3_code
def yX0_isOverdue : MethodName := ⟨RX0, "isOverdue", "(I)Z"⟩
abbrev cX0_isUnder : ByteArray := prog_2_method_4_code
def yX0_isUnder : MethodName := ⟨RX0, "isUnder", "(II)Z"⟩
def RX1 : String := "PageBail$BailRow"
def TX1 : u_T := fun k => match k with
  | 0 => ("PageBail$BailRow", "bails", "[LPageBail$Bail;", true)
  | _ => ("PageBail$BailRow", "count", "I", false)
def tyX1 : Nat → FieldType := fun k => match k with
  | 0 => .array (.object "PageBail$Bail")
  | _ => .int
abbrev wsX10 : List Cond := u_ws RX1 TX1 2
theorem nmX1 : ∀ a, a < 2 → ∀ b, b < 2 → a ≠ b → (TX1 a).2.1 ≠ (TX1 b).2.1 := by decide +kernel
theorem tyX1_ok : ∀ k, k < 2 → parseFieldDescriptor (TX1 k).2.2.1 = some (tyX1 k) := by decide +kernel
abbrev cX1_init : ByteArray := prog_3_method_1_code
def yX1_init : MethodName := ⟨RX1, "<init>", "()V"⟩
abbrev cX1_count : ByteArray := prog_3_method_2_code
def yX1_count : MethodName := ⟨RX1, "count", "()I"⟩
abbrev cX1_bailAt : ByteArray := prog_3_method_3_code
def yX1_bailAt : MethodName := ⟨RX1, "bailAt", "(I)LPageBail$Bail;"⟩
abbrev cX1_numberAt : ByteArray := prog_3_method_4_code
def yX1_numberAt : MethodName := ⟨RX1, "numberAt", "(I)I"⟩
abbrev cX1_countUpTo : ByteArray := prog_3_method_5_code
def yX1_countUpTo : MethodName := ⟨RX1, "countUpTo", "(I)I"⟩
abbrev cX1_placeOf : ByteArray := prog_3_method_6_code
def yX1_placeOf : MethodName := ⟨RX1, "placeOf", "(I)I"⟩
abbrev cX1_find : ByteArray := prog_3_method_7_code
def yX1_find : MethodName := ⟨RX1, "find", "(I)LPageBail$Bail;"⟩
abbrev cX1_sumOfSurety : ByteArray := prog_3_method_8_code
def yX1_sumOfSurety : MethodName := ⟨RX1, "sumOfSurety", "(I)I"⟩
abbrev cX1_insert : ByteArray := prog_3_method_9_code
def yX1_insert : MethodName := ⟨RX1, "insert", "(ILPageBail$Bail;)V"⟩
abbrev cX1_remove : ByteArray := prog_3_method_10_code
def yX1_remove : MethodName := ⟨RX1, "remove", "(I)V"⟩
def RX2 : String := "PageBail$PageRow"
def TX2 : u_T := fun k => match k with
  | 0 => ("PageBail$PageRow", "sizes", "[I", true)
  | _ => ("PageBail$PageRow", "count", "I", false)
def tyX2 : Nat → FieldType := fun k => match k with
  | 0 => .array .int
  | _ => .int
abbrev wsX20 : List Cond := u_ws RX2 TX2 2
theorem nmX2 : ∀ a, a < 2 → ∀ b, b < 2 → a ≠ b → (TX2 a).2.1 ≠ (TX2 b).2.1 := by decide +kernel
theorem tyX2_ok : ∀ k, k < 2 → parseFieldDescriptor (TX2 k).2.2.1 = some (tyX2 k) := by decide +kernel
abbrev cX2_init : ByteArray := prog_4_method_1_code
def yX2_init : MethodName := ⟨RX2, "<init>", "()V"⟩
abbrev cX2_count : ByteArray := prog_4_method_2_code
def yX2_count : MethodName := ⟨RX2, "count", "()I"⟩
abbrev cX2_has : ByteArray := prog_4_method_3_code
def yX2_has : MethodName := ⟨RX2, "has", "(I)Z"⟩
abbrev cX2_sizeOf : ByteArray := prog_4_method_4_code
def yX2_sizeOf : MethodName := ⟨RX2, "sizeOf", "(I)I"⟩
abbrev cX2_beginOf : ByteArray := prog_4_method_5_code
def yX2_beginOf : MethodName := ⟨RX2, "beginOf", "(I)I"⟩
abbrev cX2_pageWith : ByteArray := prog_4_method_6_code
def yX2_pageWith : MethodName := ⟨RX2, "pageWith", "(I)I"⟩
abbrev cX2_addTo : ByteArray := prog_4_method_7_code
def yX2_addTo : MethodName := ⟨RX2, "addTo", "(I)V"⟩
abbrev cX2_split : ByteArray := prog_4_method_8_code
def yX2_split : MethodName := ⟨RX2, "split", "(I)V"⟩
abbrev cX2_takeFrom : ByteArray := prog_4_method_9_code
def yX2_takeFrom : MethodName := ⟨RX2, "takeFrom", "(I)V"⟩
abbrev cX2_move : ByteArray := prog_4_method_10_code
def yX2_move : MethodName := ⟨RX2, "move", "(II)V"⟩
abbrev cX2_borrowOrJoin : ByteArray := prog_4_method_11_code
def yX2_borrowOrJoin : MethodName := ⟨RX2, "borrowOrJoin", "(I)V"⟩
abbrev cX2_remove : ByteArray := prog_4_method_12_code
def yX2_remove : MethodName := ⟨RX2, "remove", "(I)V"⟩
def RX3 : String := "PageBail"
def TX3 : u_T := fun k => match k with
  | 0 => ("PageBail", "bailRow", "LPageBail$BailRow;", true)
  | 1 => ("PageBail", "pageRow", "LPageBail$PageRow;", true)
  | 2 => ("PageBail", "lastRead", "[I", true)
  | 3 => ("PageBail", "now", "I", false)
  | 4 => ("PageBail", "keptInAll", "I", false)
  | 5 => ("PageBail", "paidInAll", "I", false)
  | _ => ("PageBail", "sweptPage", "I", false)
def tyX3 : Nat → FieldType := fun k => match k with
  | 0 => .object "PageBail$BailRow"
  | 1 => .object "PageBail$PageRow"
  | 2 => .array .int
  | 3 => .int
  | 4 => .int
  | 5 => .int
  | _ => .int
abbrev wsX30 : List Cond := u_ws RX3 TX3 7
theorem nmX3 : ∀ a, a < 7 → ∀ b, b < 7 → a ≠ b → (TX3 a).2.1 ≠ (TX3 b).2.1 := by decide +kernel
theorem tyX3_ok : ∀ k, k < 7 → parseFieldDescriptor (TX3 k).2.2.1 = some (tyX3 k) := by decide +kernel
abbrev cX3_init : ByteArray := prog_1_method_1_code
def yX3_init : MethodName := ⟨RX3, "<init>", "()V"⟩
abbrev cX3_put : ByteArray := prog_1_method_2_code
def yX3_put : MethodName := ⟨RX3, "put", "(III)I"⟩
abbrev cX3_payBack : ByteArray := prog_1_method_3_code
def yX3_payBack : MethodName := ⟨RX3, "payBack", "(I)I"⟩
abbrev cX3_forfeit : ByteArray := prog_1_method_4_code
def yX3_forfeit : MethodName := ⟨RX3, "forfeit", "(I)V"⟩
abbrev cX3_undo : ByteArray := prog_1_method_5_code
def yX3_undo : MethodName := ⟨RX3, "undo", "(I)I"⟩
abbrev cX3_amnesty : ByteArray := prog_1_method_6_code
def yX3_amnesty : MethodName := ⟨RX3, "amnesty", "(II)I"⟩
abbrev cX3_records : ByteArray := prog_1_method_7_code
def yX3_records : MethodName := ⟨RX3, "records", "()I"⟩
abbrev cX3_sum : ByteArray := prog_1_method_8_code
def yX3_sum : MethodName := ⟨RX3, "sum", "(I)I"⟩
abbrev cX3_heldBy : ByteArray := prog_1_method_10_code
def yX3_heldBy : MethodName := ⟨RX3, "heldBy", "(I)I"⟩
abbrev cX3_kept : ByteArray := prog_1_method_11_code
def yX3_kept : MethodName := ⟨RX3, "kept", "()I"⟩
abbrev cX3_paidBack : ByteArray := prog_1_method_12_code
def yX3_paidBack : MethodName := ⟨RX3, "paidBack", "()I"⟩
abbrev cX3_pass : ByteArray := prog_1_method_13_code
def yX3_pass : MethodName := ⟨RX3, "pass", "(I)I"⟩
abbrev cX3_today : ByteArray := prog_1_method_14_code
def yX3_today : MethodName := ⟨RX3, "today", "()I"⟩
abbrev cX3_pages : ByteArray := prog_1_method_15_code
def yX3_pages : MethodName := ⟨RX3, "pages", "()I"⟩
abbrev cX3_size : ByteArray := prog_1_method_16_code
def yX3_size : MethodName := ⟨RX3, "size", "(I)I"⟩
abbrev cX3_at : ByteArray := prog_1_method_17_code
def yX3_at : MethodName := ⟨RX3, "at", "(II)I"⟩
abbrev cX3_pageOf : ByteArray := prog_1_method_18_code
def yX3_pageOf : MethodName := ⟨RX3, "pageOf", "(I)I"⟩
abbrev cX3_sweep : ByteArray := prog_1_method_19_code
def yX3_sweep : MethodName := ⟨RX3, "sweep", "()V"⟩
abbrev cX3_step : ByteArray := prog_1_method_20_code
def yX3_step : MethodName := ⟨RX3, "step", "(I)I"⟩
abbrev cX3_sweeping : ByteArray := prog_1_method_21_code
def yX3_sweeping : MethodName := ⟨RX3, "sweeping", "()I"⟩
abbrev cX3_walk : ByteArray := prog_1_method_22_code
def yX3_walk : MethodName := ⟨RX3, "walk", "(I)I"⟩
abbrev cX3_isIn : ByteArray := prog_1_method_23_code
def yX3_isIn : MethodName := ⟨RX3, "isIn", "(III)Z"⟩
abbrev cX3_requireCase : ByteArray := prog_1_method_24_code
def yX3_requireCase : MethodName := ⟨RX3, "requireCase", "(I)V"⟩
abbrev cX3_pageToPutOn : ByteArray := prog_1_method_25_code
def yX3_pageToPutOn : MethodName := ⟨RX3, "pageToPutOn", "(I)I"⟩
abbrev cX3_takeOut : ByteArray := prog_1_method_26_code
def yX3_takeOut : MethodName := ⟨RX3, "takeOut", "(I)V"⟩
abbrev cX3_keepOverdue : ByteArray := prog_1_method_27_code
def yX3_keepOverdue : MethodName := ⟨RX3, "keepOverdue", "()I"⟩
abbrev cX3_sweepOn : ByteArray := prog_1_method_28_code
def yX3_sweepOn : MethodName := ⟨RX3, "sweepOn", "()I"⟩
def RX4 : String := "PageBailModel"
def TX4 : u_T := fun k => match k with
  | _ => ("", "", "", false)
def tyX4 : Nat → FieldType := fun k => match k with
  | _ => .int
abbrev wsX40 : List Cond := u_ws RX4 TX4 0
theorem nmX4 : ∀ a, a < 0 → ∀ b, b < 0 → a ≠ b → (TX4 a).2.1 ≠ (TX4 b).2.1 := by decide +kernel
theorem tyX4_ok : ∀ k, k < 0 → parseFieldDescriptor (TX4 k).2.2.1 = some (tyX4 k) := by decide +kernel
def RJ9 : String := "java/lang/Math"
def TJ9 : u_T := fun k => match k with
  | _ => ("", "", "", false)
def tyJ9 : Nat → FieldType := fun k => match k with
  | _ => .int
abbrev wsJ90 : List Cond := u_ws RJ9 TJ9 0
theorem nmJ9 : ∀ a, a < 0 → ∀ b, b < 0 → a ≠ b → (TJ9 a).2.1 ≠ (TJ9 b).2.1 := by decide +kernel
theorem tyJ9_ok : ∀ k, k < 0 → parseFieldDescriptor (TJ9 k).2.2.1 = some (tyJ9 k) := by decide +kernel
abbrev cJ9_max_7cf53 : ByteArray := prog_11_method_65_code
def yJ9_max_7cf53 : MethodName := ⟨RJ9, "max", "(II)I"⟩
def RJ0 : String := "java/lang/String"
def TJ0 : u_T := fun k => match k with
  | _ => ("", "", "", false)
def tyJ0 : Nat → FieldType := fun k => match k with
  | _ => .int
abbrev wsJ00 : List Cond := u_ws RJ0 TJ0 0
theorem nmJ0 : ∀ a, a < 0 → ∀ b, b < 0 → a ≠ b → (TJ0 a).2.1 ≠ (TJ0 b).2.1 := by decide +kernel
theorem tyJ0_ok : ∀ k, k < 0 → parseFieldDescriptor (TJ0 k).2.2.1 = some (tyJ0 k) := by decide +kernel
def RL : String := "PageBailLaw"
abbrev cL_cell : ByteArray := method_2_code
def yL_cell : MethodName := ⟨RL, "cell", "([II)I"⟩
abbrev cL_low : ByteArray := method_3_code
def yL_low : MethodName := ⟨RL, "low", "(II)I"⟩
abbrev cL_put : ByteArray := method_4_code
def yL_put : MethodName := ⟨RL, "put", "(LPageBail;III)I"⟩
abbrev cL_payBack : ByteArray := method_5_code
def yL_payBack : MethodName := ⟨RL, "payBack", "(LPageBail;I)I"⟩
abbrev cL_forfeit : ByteArray := method_6_code
def yL_forfeit : MethodName := ⟨RL, "forfeit", "(LPageBail;I)I"⟩
abbrev cL_undo : ByteArray := method_7_code
def yL_undo : MethodName := ⟨RL, "undo", "(LPageBail;I)I"⟩
abbrev cL_amnesty : ByteArray := method_8_code
def yL_amnesty : MethodName := ⟨RL, "amnesty", "(LPageBail;II)I"⟩
abbrev cL_pass : ByteArray := method_9_code
def yL_pass : MethodName := ⟨RL, "pass", "(LPageBail;I)I"⟩
abbrev cL_sweep : ByteArray := method_10_code
def yL_sweep : MethodName := ⟨RL, "sweep", "(LPageBail;)I"⟩
abbrev cL_step : ByteArray := method_11_code
def yL_step : MethodName := ⟨RL, "step", "(LPageBail;I)I"⟩
abbrev cL_walk : ByteArray := method_12_code
def yL_walk : MethodName := ⟨RL, "walk", "(LPageBail;I)I"⟩
abbrev cL_number : ByteArray := method_13_code
def yL_number : MethodName := ⟨RL, "number", "(LPageBail;IZ)I"⟩
abbrev cL_act : ByteArray := method_14_code
def yL_act : MethodName := ⟨RL, "act", "(LPageBail;I)I"⟩
abbrev cL_areAlike : ByteArray := method_15_code
def yL_areAlike : MethodName := ⟨RL, "areAlike", "(LPageBail;LPageBail;)Z"⟩
abbrev cL_arePagesSo : ByteArray := method_16_code
def yL_arePagesSo : MethodName := ⟨RL, "arePagesSo", "(LPageBail;)Z"⟩
abbrev cL_isWalked : ByteArray := method_17_code
def yL_isWalked : MethodName := ⟨RL, "isWalked", "(LPageBail;LPageBail;I)Z"⟩
abbrev cL_law : ByteArray := code
def yL_law : MethodName := ⟨RL, "law", "([I)Z"⟩
def wsX0_init : List Cond := .code yX0_init cX0_init 5 none :: ([.methodLink RX0 3 objectInit, .instanceMethod objectInit, .code objectInit ⟨#[0xb1]⟩ 1 none, .fieldLink RX0 9 "PageBail$Bail" "number" "I", .fieldLink RX0 15 "PageBail$Bail" "sum" "I", .fieldLink RX0 18 "PageBail$Bail" "surety" "I", .fieldLink RX0 21 "PageBail$Bail" "putDay" "I", .fieldLink RX0 24 "PageBail$Bail" "forfeitDay" "I"] ++ wsX00)
def wsX0_hasForfeitDay : List Cond := .code yX0_hasForfeitDay cX0_hasForfeitDay 1 (some .boolean) :: ([.fieldLink RX0 24 "PageBail$Bail" "forfeitDay" "I"] ++ wsX00)
def wsX0_isOverdue : List Cond := .code yX0_isOverdue cX0_isOverdue 2 (some .boolean) :: ([.fieldLink RX0 24 "PageBail$Bail" "forfeitDay" "I", .methodLink RX0 27 yX0_hasForfeitDay, .instanceMethod yX0_hasForfeitDay, .selects RX0 yX0_hasForfeitDay yX0_hasForfeitDay, .initialized RX0, .code yX0_hasForfeitDay cX0_hasForfeitDay 1 (some .boolean)] ++ wsX00)
def wsX0_isUnder : List Cond := .code yX0_isUnder cX0_isUnder 3 (some .boolean) :: ([.fieldLink RX0 15 "PageBail$Bail" "sum" "I", .fieldLink RX0 21 "PageBail$Bail" "putDay" "I", .methodLink RX0 27 yX0_hasForfeitDay, .instanceMethod yX0_hasForfeitDay, .selects RX0 yX0_hasForfeitDay yX0_hasForfeitDay, .initialized RX0, .code yX0_hasForfeitDay cX0_hasForfeitDay 1 (some .boolean), .fieldLink RX0 24 "PageBail$Bail" "forfeitDay" "I"] ++ wsX00)
def wsX1_init : List Cond := .code yX1_init cX1_init 1 none :: ([.methodLink RX1 3 objectInit, .instanceMethod objectInit, .code objectInit ⟨#[0xb1]⟩ 1 none, .classLink RX1 9 RX0, .fieldLink RX1 11 "PageBail$BailRow" "bails" "[LPageBail$Bail;"] ++ wsX10)
def wsX1_count : List Cond := .code yX1_count cX1_count 1 (some .int) :: ([.fieldLink RX1 17 "PageBail$BailRow" "count" "I"] ++ wsX10)
def wsX1_bailAt : List Cond := .code yX1_bailAt cX1_bailAt 2 (some (.object "PageBail$Bail")) :: ([.fieldLink RX1 17 "PageBail$BailRow" "count" "I", .fieldLink RX1 11 "PageBail$BailRow" "bails" "[LPageBail$Bail;"] ++ wsX10)
def wsX1_numberAt : List Cond := .code yX1_numberAt cX1_numberAt 3 (some .int) :: ([.fieldLink RX1 25 "PageBail$Bail" "number" "I", .methodLink RX1 21 yX1_bailAt, .instanceMethod yX1_bailAt, .selects RX1 yX1_bailAt yX1_bailAt, .initialized RX1, .code yX1_bailAt cX1_bailAt 2 (some (.object "PageBail$Bail")), .fieldLink RX1 17 "PageBail$BailRow" "count" "I", .fieldLink RX1 11 "PageBail$BailRow" "bails" "[LPageBail$Bail;"] ++ wsX00 ++ wsX10)
def wsX1_countUpTo : List Cond := .code yX1_countUpTo cX1_countUpTo 3 (some .int) :: ([.fieldLink RX1 17 "PageBail$BailRow" "count" "I", .methodLink RX1 28 yX1_numberAt, .instanceMethod yX1_numberAt, .selects RX1 yX1_numberAt yX1_numberAt, .initialized RX1, .code yX1_numberAt cX1_numberAt 3 (some .int), .fieldLink RX1 25 "PageBail$Bail" "number" "I", .methodLink RX1 21 yX1_bailAt, .instanceMethod yX1_bailAt, .selects RX1 yX1_bailAt yX1_bailAt, .code yX1_bailAt cX1_bailAt 2 (some (.object "PageBail$Bail")), .fieldLink RX1 11 "PageBail$BailRow" "bails" "[LPageBail$Bail;"] ++ wsX10 ++ wsX00)
def wsX1_placeOf : List Cond := .code yX1_placeOf cX1_placeOf 3 (some .int) :: ([.methodLink RX1 32 yX1_countUpTo, .instanceMethod yX1_countUpTo, .selects RX1 yX1_countUpTo yX1_countUpTo, .initialized RX1, .code yX1_countUpTo cX1_countUpTo 3 (some .int), .fieldLink RX1 17 "PageBail$BailRow" "count" "I", .methodLink RX1 28 yX1_numberAt, .instanceMethod yX1_numberAt, .selects RX1 yX1_numberAt yX1_numberAt, .code yX1_numberAt cX1_numberAt 3 (some .int), .fieldLink RX1 25 "PageBail$Bail" "number" "I", .methodLink RX1 21 yX1_bailAt, .instanceMethod yX1_bailAt, .selects RX1 yX1_bailAt yX1_bailAt, .code yX1_bailAt cX1_bailAt 2 (some (.object "PageBail$Bail")), .fieldLink RX1 11 "PageBail$BailRow" "bails" "[LPageBail$Bail;"] ++ wsX10 ++ wsX00)
def wsX1_find : List Cond := .code yX1_find cX1_find 2 (some (.object "PageBail$Bail")) :: ([.methodLink RX1 35 yX1_placeOf, .instanceMethod yX1_placeOf, .selects RX1 yX1_placeOf yX1_placeOf, .initialized RX1, .code yX1_placeOf cX1_placeOf 3 (some .int), .methodLink RX1 32 yX1_countUpTo, .instanceMethod yX1_countUpTo, .selects RX1 yX1_countUpTo yX1_countUpTo, .code yX1_countUpTo cX1_countUpTo 3 (some .int), .fieldLink RX1 17 "PageBail$BailRow" "count" "I", .methodLink RX1 28 yX1_numberAt, .instanceMethod yX1_numberAt, .selects RX1 yX1_numberAt yX1_numberAt, .code yX1_numberAt cX1_numberAt 3 (some .int), .fieldLink RX1 25 "PageBail$Bail" "number" "I", .methodLink RX1 21 yX1_bailAt, .instanceMethod yX1_bailAt, .selects RX1 yX1_bailAt yX1_bailAt, .code yX1_bailAt cX1_bailAt 2 (some (.object "PageBail$Bail")), .fieldLink RX1 11 "PageBail$BailRow" "bails" "[LPageBail$Bail;"] ++ wsX10 ++ wsX00)
def wsX1_sumOfSurety : List Cond := .code yX1_sumOfSurety cX1_sumOfSurety 5 (some .int) :: ([.fieldLink RX1 17 "PageBail$BailRow" "count" "I", .fieldLink RX1 38 "PageBail$Bail" "surety" "I", .fieldLink RX1 41 "PageBail$Bail" "sum" "I", .methodLink RX1 21 yX1_bailAt, .instanceMethod yX1_bailAt, .selects RX1 yX1_bailAt yX1_bailAt, .initialized RX1, .code yX1_bailAt cX1_bailAt 2 (some (.object "PageBail$Bail")), .fieldLink RX1 11 "PageBail$BailRow" "bails" "[LPageBail$Bail;"] ++ wsX10 ++ wsX00)
def wsX1_insert : List Cond := .code yX1_insert cX1_insert 4 none :: ([.fieldLink RX1 17 "PageBail$BailRow" "count" "I", .fieldLink RX1 11 "PageBail$BailRow" "bails" "[LPageBail$Bail;"] ++ wsX10)
def wsX1_remove : List Cond := .code yX1_remove cX1_remove 3 none :: ([.fieldLink RX1 17 "PageBail$BailRow" "count" "I", .fieldLink RX1 11 "PageBail$BailRow" "bails" "[LPageBail$Bail;", .methodLink RX1 21 yX1_bailAt, .instanceMethod yX1_bailAt, .selects RX1 yX1_bailAt yX1_bailAt, .initialized RX1, .code yX1_bailAt cX1_bailAt 2 (some (.object "PageBail$Bail"))] ++ wsX10)
def wsX2_init : List Cond := .code yX2_init cX2_init 1 none :: ([.methodLink RX2 3 objectInit, .instanceMethod objectInit, .code objectInit ⟨#[0xb1]⟩ 1 none, .arrayClass .int, .fieldLink RX2 9 "PageBail$PageRow" "sizes" "[I"] ++ wsX20)
def wsX2_count : List Cond := .code yX2_count cX2_count 1 (some .int) :: ([.fieldLink RX2 15 "PageBail$PageRow" "count" "I"] ++ wsX20)
def wsX2_has : List Cond := .code yX2_has cX2_has 2 (some .boolean) :: ([.fieldLink RX2 15 "PageBail$PageRow" "count" "I", .fieldLink RX2 9 "PageBail$PageRow" "sizes" "[I"] ++ wsX20)
def wsX2_sizeOf : List Cond := .code yX2_sizeOf cX2_sizeOf 2 (some .int) :: ([.fieldLink RX2 9 "PageBail$PageRow" "sizes" "[I", .methodLink RX2 19 yX2_has, .instanceMethod yX2_has, .selects RX2 yX2_has yX2_has, .initialized RX2, .code yX2_has cX2_has 2 (some .boolean), .fieldLink RX2 15 "PageBail$PageRow" "count" "I"] ++ wsX20)
def wsX2_beginOf : List Cond := .code yX2_beginOf cX2_beginOf 4 (some .int) :: ([.fieldLink RX2 15 "PageBail$PageRow" "count" "I", .methodLink RX2 23 yX2_sizeOf, .instanceMethod yX2_sizeOf, .selects RX2 yX2_sizeOf yX2_sizeOf, .initialized RX2, .code yX2_sizeOf cX2_sizeOf 2 (some .int), .fieldLink RX2 9 "PageBail$PageRow" "sizes" "[I", .methodLink RX2 19 yX2_has, .instanceMethod yX2_has, .selects RX2 yX2_has yX2_has, .code yX2_has cX2_has 2 (some .boolean)] ++ wsX20)
def wsX2_pageWith : List Cond := .code yX2_pageWith cX2_pageWith 4 (some .int) :: ([.fieldLink RX2 15 "PageBail$PageRow" "count" "I", .methodLink RX2 23 yX2_sizeOf, .instanceMethod yX2_sizeOf, .selects RX2 yX2_sizeOf yX2_sizeOf, .initialized RX2, .code yX2_sizeOf cX2_sizeOf 2 (some .int), .fieldLink RX2 9 "PageBail$PageRow" "sizes" "[I", .methodLink RX2 19 yX2_has, .instanceMethod yX2_has, .selects RX2 yX2_has yX2_has, .code yX2_has cX2_has 2 (some .boolean)] ++ wsX20)
def wsX2_addTo : List Cond := .code yX2_addTo cX2_addTo 2 none :: ([.fieldLink RX2 15 "PageBail$PageRow" "count" "I", .fieldLink RX2 9 "PageBail$PageRow" "sizes" "[I", .methodLink RX2 19 yX2_has, .instanceMethod yX2_has, .selects RX2 yX2_has yX2_has, .initialized RX2, .code yX2_has cX2_has 2 (some .boolean)] ++ wsX20)
def wsX2_split : List Cond := .code yX2_split cX2_split 3 none :: ([.fieldLink RX2 15 "PageBail$PageRow" "count" "I", .fieldLink RX2 9 "PageBail$PageRow" "sizes" "[I", .methodLink RX2 19 yX2_has, .instanceMethod yX2_has, .selects RX2 yX2_has yX2_has, .initialized RX2, .code yX2_has cX2_has 2 (some .boolean)] ++ wsX20)
def wsX2_remove : List Cond := .code yX2_remove cX2_remove 3 none :: ([.fieldLink RX2 15 "PageBail$PageRow" "count" "I", .fieldLink RX2 9 "PageBail$PageRow" "sizes" "[I", .methodLink RX2 19 yX2_has, .instanceMethod yX2_has, .selects RX2 yX2_has yX2_has, .initialized RX2, .code yX2_has cX2_has 2 (some .boolean)] ++ wsX20)
def wsX2_move : List Cond := .code yX2_move cX2_move 3 none :: ([.fieldLink RX2 9 "PageBail$PageRow" "sizes" "[I", .methodLink RX2 19 yX2_has, .instanceMethod yX2_has, .selects RX2 yX2_has yX2_has, .initialized RX2, .code yX2_has cX2_has 2 (some .boolean), .fieldLink RX2 15 "PageBail$PageRow" "count" "I", .methodLink RX2 27 yX2_remove, .instanceMethod yX2_remove, .selects RX2 yX2_remove yX2_remove, .code yX2_remove cX2_remove 3 none] ++ wsX20)
def wsX2_borrowOrJoin : List Cond := .code yX2_borrowOrJoin cX2_borrowOrJoin 2 none :: ([.methodLink RX2 23 yX2_sizeOf, .instanceMethod yX2_sizeOf, .selects RX2 yX2_sizeOf yX2_sizeOf, .initialized RX2, .code yX2_sizeOf cX2_sizeOf 2 (some .int), .fieldLink RX2 9 "PageBail$PageRow" "sizes" "[I", .methodLink RX2 19 yX2_has, .instanceMethod yX2_has, .selects RX2 yX2_has yX2_has, .code yX2_has cX2_has 2 (some .boolean), .fieldLink RX2 15 "PageBail$PageRow" "count" "I", .methodLink RX2 34 yX2_move, .instanceMethod yX2_move, .selects RX2 yX2_move yX2_move, .code yX2_move cX2_move 3 none, .methodLink RX2 27 yX2_remove, .instanceMethod yX2_remove, .selects RX2 yX2_remove yX2_remove, .code yX2_remove cX2_remove 3 none] ++ wsX20)
def wsX2_takeFrom : List Cond := .code yX2_takeFrom cX2_takeFrom 2 none :: ([.fieldLink RX2 9 "PageBail$PageRow" "sizes" "[I", .fieldLink RX2 15 "PageBail$PageRow" "count" "I", .methodLink RX2 19 yX2_has, .instanceMethod yX2_has, .selects RX2 yX2_has yX2_has, .initialized RX2, .code yX2_has cX2_has 2 (some .boolean), .methodLink RX2 27 yX2_remove, .instanceMethod yX2_remove, .selects RX2 yX2_remove yX2_remove, .code yX2_remove cX2_remove 3 none, .methodLink RX2 31 yX2_borrowOrJoin, .instanceMethod yX2_borrowOrJoin, .selects RX2 yX2_borrowOrJoin yX2_borrowOrJoin, .code yX2_borrowOrJoin cX2_borrowOrJoin 2 none, .methodLink RX2 23 yX2_sizeOf, .instanceMethod yX2_sizeOf, .selects RX2 yX2_sizeOf yX2_sizeOf, .code yX2_sizeOf cX2_sizeOf 2 (some .int), .methodLink RX2 34 yX2_move, .instanceMethod yX2_move, .selects RX2 yX2_move yX2_move, .code yX2_move cX2_move 3 none] ++ wsX20)
def wsX3_init : List Cond := .code yX3_init cX3_init 1 none :: ([.methodLink RX3 1 objectInit, .instanceMethod objectInit, .code objectInit ⟨#[0xb1]⟩ 1 none, .classLink RX3 7 RX1, .instantiable RX1 2, .initialized RX1, .fieldLink RX3 10 "PageBail" "bailRow" "LPageBail$BailRow;", .classLink RX3 16 RX2, .instantiable RX2 2, .initialized RX2, .fieldLink RX3 19 "PageBail" "pageRow" "LPageBail$PageRow;", .arrayClass .int, .fieldLink RX3 23 "PageBail" "lastRead" "[I", .fieldLink RX3 27 "PageBail" "sweptPage" "I", .instanceMethod yX1_init, .code yX1_init cX1_init 1 none, .methodLink RX1 3 objectInit, .classLink RX1 9 RX0, .fieldLink RX1 11 "PageBail$BailRow" "bails" "[LPageBail$Bail;", .instanceMethod yX2_init, .code yX2_init cX2_init 1 none, .methodLink RX2 3 objectInit, .fieldLink RX2 9 "PageBail$PageRow" "sizes" "[I"] ++ wsX10 ++ wsX30 ++ wsX20)
def wsX3_isIn : List Cond := .code yX3_isIn cX3_isIn 3 (some .boolean) :: ([])
def wsX3_requireCase : List Cond := .code yX3_requireCase cX3_requireCase 1 none :: ([.classLink RX3 39 "java/lang/IllegalArgumentException", .initialized "java/lang/IllegalArgumentException", .methodLink RX3 35 yX3_isIn, .static yX3_isIn, .initialized RX3, .code yX3_isIn cX3_isIn 3 (some .boolean)] ++ (vx_atS RX3 43 "java/lang/IllegalArgumentException" ["java/lang/RuntimeException", "java/lang/Exception"]).filter goodWord)
def wsX3_pageToPutOn : List Cond := .code yX3_pageToPutOn cX3_pageToPutOn 2 (some .int) :: ([.fieldLink RX3 19 "PageBail" "pageRow" "LPageBail$PageRow;", .methodLink RX3 168 Lib.Math.max.name, .static Lib.Math.max.name, .initialized "java/lang/Math", .code Lib.Math.max.name Lib.Math.max.code 2 (some .int), .methodLink RX3 152 yX2_pageWith, .instanceMethod yX2_pageWith, .selects RX2 yX2_pageWith yX2_pageWith, .initialized RX2, .code yX2_pageWith cX2_pageWith 4 (some .int), .fieldLink RX2 15 "PageBail$PageRow" "count" "I", .methodLink RX2 23 yX2_sizeOf, .instanceMethod yX2_sizeOf, .selects RX2 yX2_sizeOf yX2_sizeOf, .code yX2_sizeOf cX2_sizeOf 2 (some .int), .fieldLink RX2 9 "PageBail$PageRow" "sizes" "[I", .methodLink RX2 19 yX2_has, .instanceMethod yX2_has, .selects RX2 yX2_has yX2_has, .code yX2_has cX2_has 2 (some .boolean)] ++ wsX30 ++ wsX20)
def wsX3_put_r1 : List Cond := [Cond.classLink RX3 39 "java/lang/IllegalArgumentException", Cond.initialized "java/lang/IllegalArgumentException", Cond.classLink RX3 54 "java/lang/IllegalStateException", Cond.initialized "java/lang/IllegalStateException", Cond.fieldLink RX3 10 "PageBail" "bailRow" "LPageBail$BailRow;", Cond.fieldLink RX3 19 "PageBail" "pageRow" "LPageBail$PageRow;", Cond.classLink RX3 75 RX0, Cond.instantiable RX0 5, Cond.initialized RX0, Cond.fieldLink RX3 77 "PageBail" "now" "I", Cond.methodLink RX3 31 yX3_requireCase, Cond.static yX3_requireCase, Cond.initialized RX3, Cond.code yX3_requireCase cX3_requireCase 1 none, Cond.methodLink RX3 35 yX3_isIn, Cond.static yX3_isIn, Cond.code yX3_isIn cX3_isIn 3 (some .boolean), Cond.methodLink RX3 46 yX1_find, Cond.instanceMethod yX1_find, Cond.selects RX1 yX1_find yX1_find, Cond.initialized RX1, Cond.code yX1_find cX1_find 2 (some (.object "PageBail$Bail")), Cond.methodLink RX1 35 yX1_placeOf, Cond.instanceMethod yX1_placeOf]
def wsX3_put_r2 : List Cond := [Cond.selects RX1 yX1_placeOf yX1_placeOf, Cond.code yX1_placeOf cX1_placeOf 3 (some .int), Cond.methodLink RX1 32 yX1_countUpTo, Cond.instanceMethod yX1_countUpTo, Cond.selects RX1 yX1_countUpTo yX1_countUpTo, Cond.code yX1_countUpTo cX1_countUpTo 3 (some .int), Cond.fieldLink RX1 17 "PageBail$BailRow" "count" "I", Cond.methodLink RX1 28 yX1_numberAt, Cond.instanceMethod yX1_numberAt, Cond.selects RX1 yX1_numberAt yX1_numberAt, Cond.code yX1_numberAt cX1_numberAt 3 (some .int), Cond.fieldLink RX1 25 "PageBail$Bail" "number" "I", Cond.methodLink RX1 21 yX1_bailAt, Cond.instanceMethod yX1_bailAt, Cond.selects RX1 yX1_bailAt yX1_bailAt, Cond.code yX1_bailAt cX1_bailAt 2 (some (.object "PageBail$Bail")), Cond.fieldLink RX1 11 "PageBail$BailRow" "bails" "[LPageBail$Bail;", Cond.methodLink RX3 50 yX1_count, Cond.instanceMethod yX1_count, Cond.selects RX1 yX1_count yX1_count, Cond.code yX1_count cX1_count 1 (some .int), Cond.methodLink RX3 59 yX1_countUpTo, Cond.methodLink RX3 63 yX3_pageToPutOn, Cond.instanceMethod yX3_pageToPutOn]
def wsX3_put_r3 : List Cond := [Cond.selects RX3 yX3_pageToPutOn yX3_pageToPutOn, Cond.code yX3_pageToPutOn cX3_pageToPutOn 2 (some .int), Cond.methodLink RX3 168 Lib.Math.max.name, Cond.static Lib.Math.max.name, Cond.initialized "java/lang/Math", Cond.code Lib.Math.max.name Lib.Math.max.code 2 (some .int), Cond.methodLink RX3 152 yX2_pageWith, Cond.instanceMethod yX2_pageWith, Cond.selects RX2 yX2_pageWith yX2_pageWith, Cond.initialized RX2, Cond.code yX2_pageWith cX2_pageWith 4 (some .int), Cond.fieldLink RX2 15 "PageBail$PageRow" "count" "I", Cond.methodLink RX2 23 yX2_sizeOf, Cond.instanceMethod yX2_sizeOf, Cond.selects RX2 yX2_sizeOf yX2_sizeOf, Cond.code yX2_sizeOf cX2_sizeOf 2 (some .int), Cond.fieldLink RX2 9 "PageBail$PageRow" "sizes" "[I", Cond.methodLink RX2 19 yX2_has, Cond.instanceMethod yX2_has, Cond.selects RX2 yX2_has yX2_has, Cond.code yX2_has cX2_has 2 (some .boolean), Cond.methodLink RX3 66 yX2_sizeOf, Cond.methodLink RX3 69 yX2_split, Cond.instanceMethod yX2_split]
def wsX3_put_r4 : List Cond := [Cond.selects RX2 yX2_split yX2_split, Cond.code yX2_split cX2_split 3 none, Cond.methodLink RX3 72 yX2_addTo, Cond.instanceMethod yX2_addTo, Cond.selects RX2 yX2_addTo yX2_addTo, Cond.code yX2_addTo cX2_addTo 2 none, Cond.methodLink RX3 80 yX0_init, Cond.instanceMethod yX0_init, Cond.code yX0_init cX0_init 5 none, Cond.methodLink RX0 3 objectInit, Cond.instanceMethod objectInit, Cond.code objectInit ⟨#[0xb1]⟩ 1 none, Cond.fieldLink RX0 9 "PageBail$Bail" "number" "I", Cond.fieldLink RX0 15 "PageBail$Bail" "sum" "I", Cond.fieldLink RX0 18 "PageBail$Bail" "surety" "I", Cond.fieldLink RX0 21 "PageBail$Bail" "putDay" "I", Cond.fieldLink RX0 24 "PageBail$Bail" "forfeitDay" "I", Cond.methodLink RX3 83 yX1_insert, Cond.instanceMethod yX1_insert, Cond.selects RX1 yX1_insert yX1_insert, Cond.code yX1_insert cX1_insert 4 none, Cond.methodLink RX3 87 yX2_count, Cond.instanceMethod yX2_count, Cond.selects RX2 yX2_count yX2_count]
def wsX3_put_r5 : List Cond := [Cond.code yX2_count cX2_count 1 (some .int)]
def wsX3_put : List Cond := .code yX3_put cX3_put 5 (some .int) :: ((wsX3_put_r1 ++ (wsX3_put_r2 ++ (wsX3_put_r3 ++ (wsX3_put_r4 ++ wsX3_put_r5)))) ++ wsX30 ++ wsX00 ++ wsX10 ++ wsX20 ++ (vx_atS RX3 43 "java/lang/IllegalArgumentException" ["java/lang/RuntimeException", "java/lang/Exception"]).filter goodWord ++ (vx_atS RX3 58 "java/lang/IllegalStateException" ["java/lang/RuntimeException", "java/lang/Exception"]).filter goodWord)
def wsX3_takeOut_r1 : List Cond := [Cond.fieldLink RX3 19 "PageBail" "pageRow" "LPageBail$PageRow;", Cond.fieldLink RX3 10 "PageBail" "bailRow" "LPageBail$BailRow;", Cond.fieldLink RX3 27 "PageBail" "sweptPage" "I", Cond.methodLink RX3 152 yX2_pageWith, Cond.instanceMethod yX2_pageWith, Cond.selects RX2 yX2_pageWith yX2_pageWith, Cond.initialized RX2, Cond.code yX2_pageWith cX2_pageWith 4 (some .int), Cond.fieldLink RX2 15 "PageBail$PageRow" "count" "I", Cond.methodLink RX2 23 yX2_sizeOf, Cond.instanceMethod yX2_sizeOf, Cond.selects RX2 yX2_sizeOf yX2_sizeOf, Cond.code yX2_sizeOf cX2_sizeOf 2 (some .int), Cond.fieldLink RX2 9 "PageBail$PageRow" "sizes" "[I", Cond.methodLink RX2 19 yX2_has, Cond.instanceMethod yX2_has, Cond.selects RX2 yX2_has yX2_has, Cond.code yX2_has cX2_has 2 (some .boolean), Cond.methodLink RX3 174 yX2_takeFrom, Cond.instanceMethod yX2_takeFrom, Cond.selects RX2 yX2_takeFrom yX2_takeFrom, Cond.code yX2_takeFrom cX2_takeFrom 2 none, Cond.methodLink RX2 27 yX2_remove, Cond.instanceMethod yX2_remove]
def wsX3_takeOut_r2 : List Cond := [Cond.selects RX2 yX2_remove yX2_remove, Cond.code yX2_remove cX2_remove 3 none, Cond.methodLink RX2 31 yX2_borrowOrJoin, Cond.instanceMethod yX2_borrowOrJoin, Cond.selects RX2 yX2_borrowOrJoin yX2_borrowOrJoin, Cond.code yX2_borrowOrJoin cX2_borrowOrJoin 2 none, Cond.methodLink RX2 34 yX2_move, Cond.instanceMethod yX2_move, Cond.selects RX2 yX2_move yX2_move, Cond.code yX2_move cX2_move 3 none, Cond.methodLink RX3 177 yX1_remove, Cond.instanceMethod yX1_remove, Cond.selects RX1 yX1_remove yX1_remove, Cond.initialized RX1, Cond.code yX1_remove cX1_remove 3 none, Cond.fieldLink RX1 17 "PageBail$BailRow" "count" "I", Cond.fieldLink RX1 11 "PageBail$BailRow" "bails" "[LPageBail$Bail;", Cond.methodLink RX1 21 yX1_bailAt, Cond.instanceMethod yX1_bailAt, Cond.selects RX1 yX1_bailAt yX1_bailAt, Cond.code yX1_bailAt cX1_bailAt 2 (some (.object "PageBail$Bail")), Cond.methodLink RX3 87 yX2_count, Cond.instanceMethod yX2_count, Cond.selects RX2 yX2_count yX2_count]
def wsX3_takeOut_r3 : List Cond := [Cond.code yX2_count cX2_count 1 (some .int)]
def wsX3_takeOut : List Cond := .code yX3_takeOut cX3_takeOut 2 none :: ((wsX3_takeOut_r1 ++ (wsX3_takeOut_r2 ++ wsX3_takeOut_r3)) ++ wsX30 ++ wsX20 ++ wsX10)
def wsX3_payBack_r1 : List Cond := [Cond.classLink RX3 54 "java/lang/IllegalStateException", Cond.initialized "java/lang/IllegalStateException", Cond.fieldLink RX3 10 "PageBail" "bailRow" "LPageBail$BailRow;", Cond.fieldLink RX3 94 "PageBail" "paidInAll" "I", Cond.fieldLink RX3 97 "PageBail$Bail" "sum" "I", Cond.methodLink RX3 31 yX3_requireCase, Cond.static yX3_requireCase, Cond.initialized RX3, Cond.code yX3_requireCase cX3_requireCase 1 none, Cond.classLink RX3 39 "java/lang/IllegalArgumentException", Cond.initialized "java/lang/IllegalArgumentException", Cond.methodLink RX3 35 yX3_isIn, Cond.static yX3_isIn, Cond.code yX3_isIn cX3_isIn 3 (some .boolean), Cond.methodLink RX3 46 yX1_find, Cond.instanceMethod yX1_find, Cond.selects RX1 yX1_find yX1_find, Cond.initialized RX1, Cond.code yX1_find cX1_find 2 (some (.object "PageBail$Bail")), Cond.methodLink RX1 35 yX1_placeOf, Cond.instanceMethod yX1_placeOf, Cond.selects RX1 yX1_placeOf yX1_placeOf, Cond.code yX1_placeOf cX1_placeOf 3 (some .int), Cond.methodLink RX1 32 yX1_countUpTo]
def wsX3_payBack_r2 : List Cond := [Cond.instanceMethod yX1_countUpTo, Cond.selects RX1 yX1_countUpTo yX1_countUpTo, Cond.code yX1_countUpTo cX1_countUpTo 3 (some .int), Cond.fieldLink RX1 17 "PageBail$BailRow" "count" "I", Cond.methodLink RX1 28 yX1_numberAt, Cond.instanceMethod yX1_numberAt, Cond.selects RX1 yX1_numberAt yX1_numberAt, Cond.code yX1_numberAt cX1_numberAt 3 (some .int), Cond.fieldLink RX1 25 "PageBail$Bail" "number" "I", Cond.methodLink RX1 21 yX1_bailAt, Cond.instanceMethod yX1_bailAt, Cond.selects RX1 yX1_bailAt yX1_bailAt, Cond.code yX1_bailAt cX1_bailAt 2 (some (.object "PageBail$Bail")), Cond.fieldLink RX1 11 "PageBail$BailRow" "bails" "[LPageBail$Bail;", Cond.methodLink RX3 88 yX0_hasForfeitDay, Cond.instanceMethod yX0_hasForfeitDay, Cond.selects RX0 yX0_hasForfeitDay yX0_hasForfeitDay, Cond.initialized RX0, Cond.code yX0_hasForfeitDay cX0_hasForfeitDay 1 (some .boolean), Cond.fieldLink RX0 24 "PageBail$Bail" "forfeitDay" "I", Cond.methodLink RX3 100 yX1_placeOf, Cond.methodLink RX3 103 yX3_takeOut, Cond.instanceMethod yX3_takeOut, Cond.selects RX3 yX3_takeOut yX3_takeOut]
def wsX3_payBack_r3 : List Cond := [Cond.code yX3_takeOut cX3_takeOut 2 none, Cond.fieldLink RX3 19 "PageBail" "pageRow" "LPageBail$PageRow;", Cond.fieldLink RX3 27 "PageBail" "sweptPage" "I", Cond.methodLink RX3 152 yX2_pageWith, Cond.instanceMethod yX2_pageWith, Cond.selects RX2 yX2_pageWith yX2_pageWith, Cond.initialized RX2, Cond.code yX2_pageWith cX2_pageWith 4 (some .int), Cond.fieldLink RX2 15 "PageBail$PageRow" "count" "I", Cond.methodLink RX2 23 yX2_sizeOf, Cond.instanceMethod yX2_sizeOf, Cond.selects RX2 yX2_sizeOf yX2_sizeOf, Cond.code yX2_sizeOf cX2_sizeOf 2 (some .int), Cond.fieldLink RX2 9 "PageBail$PageRow" "sizes" "[I", Cond.methodLink RX2 19 yX2_has, Cond.instanceMethod yX2_has, Cond.selects RX2 yX2_has yX2_has, Cond.code yX2_has cX2_has 2 (some .boolean), Cond.methodLink RX3 174 yX2_takeFrom, Cond.instanceMethod yX2_takeFrom, Cond.selects RX2 yX2_takeFrom yX2_takeFrom, Cond.code yX2_takeFrom cX2_takeFrom 2 none, Cond.methodLink RX2 27 yX2_remove, Cond.instanceMethod yX2_remove]
def wsX3_payBack_r4 : List Cond := [Cond.selects RX2 yX2_remove yX2_remove, Cond.code yX2_remove cX2_remove 3 none, Cond.methodLink RX2 31 yX2_borrowOrJoin, Cond.instanceMethod yX2_borrowOrJoin, Cond.selects RX2 yX2_borrowOrJoin yX2_borrowOrJoin, Cond.code yX2_borrowOrJoin cX2_borrowOrJoin 2 none, Cond.methodLink RX2 34 yX2_move, Cond.instanceMethod yX2_move, Cond.selects RX2 yX2_move yX2_move, Cond.code yX2_move cX2_move 3 none, Cond.methodLink RX3 177 yX1_remove, Cond.instanceMethod yX1_remove, Cond.selects RX1 yX1_remove yX1_remove, Cond.code yX1_remove cX1_remove 3 none, Cond.methodLink RX3 87 yX2_count, Cond.instanceMethod yX2_count, Cond.selects RX2 yX2_count yX2_count, Cond.code yX2_count cX2_count 1 (some .int)]
def wsX3_payBack : List Cond := .code yX3_payBack cX3_payBack 3 (some .int) :: ((wsX3_payBack_r1 ++ (wsX3_payBack_r2 ++ (wsX3_payBack_r3 ++ wsX3_payBack_r4))) ++ wsX30 ++ wsX00 ++ wsX10 ++ wsX20 ++ (vx_atS RX3 58 "java/lang/IllegalStateException" ["java/lang/RuntimeException", "java/lang/Exception"]).filter goodWord ++ (vx_atS RX3 43 "java/lang/IllegalArgumentException" ["java/lang/RuntimeException", "java/lang/Exception"]).filter goodWord)
def wsX3_forfeit_r1 : List Cond := [Cond.classLink RX3 54 "java/lang/IllegalStateException", Cond.initialized "java/lang/IllegalStateException", Cond.fieldLink RX3 10 "PageBail" "bailRow" "LPageBail$BailRow;", Cond.fieldLink RX3 77 "PageBail" "now" "I", Cond.fieldLink RX3 106 "PageBail$Bail" "forfeitDay" "I", Cond.methodLink RX3 31 yX3_requireCase, Cond.static yX3_requireCase, Cond.initialized RX3, Cond.code yX3_requireCase cX3_requireCase 1 none, Cond.classLink RX3 39 "java/lang/IllegalArgumentException", Cond.initialized "java/lang/IllegalArgumentException", Cond.methodLink RX3 35 yX3_isIn, Cond.static yX3_isIn, Cond.code yX3_isIn cX3_isIn 3 (some .boolean), Cond.methodLink RX3 46 yX1_find, Cond.instanceMethod yX1_find, Cond.selects RX1 yX1_find yX1_find, Cond.initialized RX1, Cond.code yX1_find cX1_find 2 (some (.object "PageBail$Bail")), Cond.methodLink RX1 35 yX1_placeOf, Cond.instanceMethod yX1_placeOf, Cond.selects RX1 yX1_placeOf yX1_placeOf, Cond.code yX1_placeOf cX1_placeOf 3 (some .int), Cond.methodLink RX1 32 yX1_countUpTo]
def wsX3_forfeit_r2 : List Cond := [Cond.instanceMethod yX1_countUpTo, Cond.selects RX1 yX1_countUpTo yX1_countUpTo, Cond.code yX1_countUpTo cX1_countUpTo 3 (some .int), Cond.fieldLink RX1 17 "PageBail$BailRow" "count" "I", Cond.methodLink RX1 28 yX1_numberAt, Cond.instanceMethod yX1_numberAt, Cond.selects RX1 yX1_numberAt yX1_numberAt, Cond.code yX1_numberAt cX1_numberAt 3 (some .int), Cond.fieldLink RX1 25 "PageBail$Bail" "number" "I", Cond.methodLink RX1 21 yX1_bailAt, Cond.instanceMethod yX1_bailAt, Cond.selects RX1 yX1_bailAt yX1_bailAt, Cond.code yX1_bailAt cX1_bailAt 2 (some (.object "PageBail$Bail")), Cond.fieldLink RX1 11 "PageBail$BailRow" "bails" "[LPageBail$Bail;", Cond.methodLink RX3 88 yX0_hasForfeitDay, Cond.instanceMethod yX0_hasForfeitDay, Cond.selects RX0 yX0_hasForfeitDay yX0_hasForfeitDay, Cond.initialized RX0, Cond.code yX0_hasForfeitDay cX0_hasForfeitDay 1 (some .boolean), Cond.fieldLink RX0 24 "PageBail$Bail" "forfeitDay" "I"]
def wsX3_forfeit : List Cond := .code yX3_forfeit cX3_forfeit 3 none :: ((wsX3_forfeit_r1 ++ wsX3_forfeit_r2) ++ wsX30 ++ wsX00 ++ wsX10 ++ (vx_atS RX3 58 "java/lang/IllegalStateException" ["java/lang/RuntimeException", "java/lang/Exception"]).filter goodWord ++ (vx_atS RX3 43 "java/lang/IllegalArgumentException" ["java/lang/RuntimeException", "java/lang/Exception"]).filter goodWord)
def wsX3_undo_r1 : List Cond := [Cond.classLink RX3 54 "java/lang/IllegalStateException", Cond.initialized "java/lang/IllegalStateException", Cond.fieldLink RX3 10 "PageBail" "bailRow" "LPageBail$BailRow;", Cond.fieldLink RX3 77 "PageBail" "now" "I", Cond.fieldLink RX3 106 "PageBail$Bail" "forfeitDay" "I", Cond.methodLink RX3 31 yX3_requireCase, Cond.static yX3_requireCase, Cond.initialized RX3, Cond.code yX3_requireCase cX3_requireCase 1 none, Cond.classLink RX3 39 "java/lang/IllegalArgumentException", Cond.initialized "java/lang/IllegalArgumentException", Cond.methodLink RX3 35 yX3_isIn, Cond.static yX3_isIn, Cond.code yX3_isIn cX3_isIn 3 (some .boolean), Cond.methodLink RX3 46 yX1_find, Cond.instanceMethod yX1_find, Cond.selects RX1 yX1_find yX1_find, Cond.initialized RX1, Cond.code yX1_find cX1_find 2 (some (.object "PageBail$Bail")), Cond.methodLink RX1 35 yX1_placeOf, Cond.instanceMethod yX1_placeOf, Cond.selects RX1 yX1_placeOf yX1_placeOf, Cond.code yX1_placeOf cX1_placeOf 3 (some .int), Cond.methodLink RX1 32 yX1_countUpTo]
def wsX3_undo_r2 : List Cond := [Cond.instanceMethod yX1_countUpTo, Cond.selects RX1 yX1_countUpTo yX1_countUpTo, Cond.code yX1_countUpTo cX1_countUpTo 3 (some .int), Cond.fieldLink RX1 17 "PageBail$BailRow" "count" "I", Cond.methodLink RX1 28 yX1_numberAt, Cond.instanceMethod yX1_numberAt, Cond.selects RX1 yX1_numberAt yX1_numberAt, Cond.code yX1_numberAt cX1_numberAt 3 (some .int), Cond.fieldLink RX1 25 "PageBail$Bail" "number" "I", Cond.methodLink RX1 21 yX1_bailAt, Cond.instanceMethod yX1_bailAt, Cond.selects RX1 yX1_bailAt yX1_bailAt, Cond.code yX1_bailAt cX1_bailAt 2 (some (.object "PageBail$Bail")), Cond.fieldLink RX1 11 "PageBail$BailRow" "bails" "[LPageBail$Bail;", Cond.methodLink RX3 88 yX0_hasForfeitDay, Cond.instanceMethod yX0_hasForfeitDay, Cond.selects RX0 yX0_hasForfeitDay yX0_hasForfeitDay, Cond.initialized RX0, Cond.code yX0_hasForfeitDay cX0_hasForfeitDay 1 (some .boolean), Cond.fieldLink RX0 24 "PageBail$Bail" "forfeitDay" "I"]
def wsX3_undo : List Cond := .code yX3_undo cX3_undo 4 (some .int) :: ((wsX3_undo_r1 ++ wsX3_undo_r2) ++ wsX30 ++ wsX00 ++ wsX10 ++ (vx_atS RX3 58 "java/lang/IllegalStateException" ["java/lang/RuntimeException", "java/lang/Exception"]).filter goodWord ++ (vx_atS RX3 43 "java/lang/IllegalArgumentException" ["java/lang/RuntimeException", "java/lang/Exception"]).filter goodWord)
def wsX3_amnesty_r1 : List Cond := [Cond.classLink RX3 39 "java/lang/IllegalArgumentException", Cond.initialized "java/lang/IllegalArgumentException", Cond.fieldLink RX3 77 "PageBail" "now" "I", Cond.fieldLink RX3 10 "PageBail" "bailRow" "LPageBail$BailRow;", Cond.fieldLink RX3 94 "PageBail" "paidInAll" "I", Cond.fieldLink RX3 97 "PageBail$Bail" "sum" "I", Cond.methodLink RX3 35 yX3_isIn, Cond.static yX3_isIn, Cond.initialized RX3, Cond.code yX3_isIn cX3_isIn 3 (some .boolean), Cond.methodLink RX3 50 yX1_count, Cond.instanceMethod yX1_count, Cond.selects RX1 yX1_count yX1_count, Cond.initialized RX1, Cond.code yX1_count cX1_count 1 (some .int), Cond.fieldLink RX1 17 "PageBail$BailRow" "count" "I", Cond.methodLink RX3 113 yX1_bailAt, Cond.instanceMethod yX1_bailAt, Cond.selects RX1 yX1_bailAt yX1_bailAt, Cond.code yX1_bailAt cX1_bailAt 2 (some (.object "PageBail$Bail")), Cond.fieldLink RX1 11 "PageBail$BailRow" "bails" "[LPageBail$Bail;", Cond.methodLink RX3 116 yX0_isUnder, Cond.instanceMethod yX0_isUnder, Cond.selects RX0 yX0_isUnder yX0_isUnder]
def wsX3_amnesty_r2 : List Cond := [Cond.initialized RX0, Cond.code yX0_isUnder cX0_isUnder 3 (some .boolean), Cond.fieldLink RX0 15 "PageBail$Bail" "sum" "I", Cond.fieldLink RX0 21 "PageBail$Bail" "putDay" "I", Cond.methodLink RX0 27 yX0_hasForfeitDay, Cond.instanceMethod yX0_hasForfeitDay, Cond.selects RX0 yX0_hasForfeitDay yX0_hasForfeitDay, Cond.code yX0_hasForfeitDay cX0_hasForfeitDay 1 (some .boolean), Cond.fieldLink RX0 24 "PageBail$Bail" "forfeitDay" "I", Cond.methodLink RX3 103 yX3_takeOut, Cond.instanceMethod yX3_takeOut, Cond.selects RX3 yX3_takeOut yX3_takeOut, Cond.code yX3_takeOut cX3_takeOut 2 none, Cond.fieldLink RX3 19 "PageBail" "pageRow" "LPageBail$PageRow;", Cond.fieldLink RX3 27 "PageBail" "sweptPage" "I", Cond.methodLink RX3 152 yX2_pageWith, Cond.instanceMethod yX2_pageWith, Cond.selects RX2 yX2_pageWith yX2_pageWith, Cond.initialized RX2, Cond.code yX2_pageWith cX2_pageWith 4 (some .int), Cond.fieldLink RX2 15 "PageBail$PageRow" "count" "I", Cond.methodLink RX2 23 yX2_sizeOf, Cond.instanceMethod yX2_sizeOf, Cond.selects RX2 yX2_sizeOf yX2_sizeOf]
def wsX3_amnesty_r3 : List Cond := [Cond.code yX2_sizeOf cX2_sizeOf 2 (some .int), Cond.fieldLink RX2 9 "PageBail$PageRow" "sizes" "[I", Cond.methodLink RX2 19 yX2_has, Cond.instanceMethod yX2_has, Cond.selects RX2 yX2_has yX2_has, Cond.code yX2_has cX2_has 2 (some .boolean), Cond.methodLink RX3 174 yX2_takeFrom, Cond.instanceMethod yX2_takeFrom, Cond.selects RX2 yX2_takeFrom yX2_takeFrom, Cond.code yX2_takeFrom cX2_takeFrom 2 none, Cond.methodLink RX2 27 yX2_remove, Cond.instanceMethod yX2_remove, Cond.selects RX2 yX2_remove yX2_remove, Cond.code yX2_remove cX2_remove 3 none, Cond.methodLink RX2 31 yX2_borrowOrJoin, Cond.instanceMethod yX2_borrowOrJoin, Cond.selects RX2 yX2_borrowOrJoin yX2_borrowOrJoin, Cond.code yX2_borrowOrJoin cX2_borrowOrJoin 2 none, Cond.methodLink RX2 34 yX2_move, Cond.instanceMethod yX2_move, Cond.selects RX2 yX2_move yX2_move, Cond.code yX2_move cX2_move 3 none, Cond.methodLink RX3 177 yX1_remove, Cond.instanceMethod yX1_remove]
def wsX3_amnesty_r4 : List Cond := [Cond.selects RX1 yX1_remove yX1_remove, Cond.code yX1_remove cX1_remove 3 none, Cond.methodLink RX1 21 yX1_bailAt, Cond.methodLink RX3 87 yX2_count, Cond.instanceMethod yX2_count, Cond.selects RX2 yX2_count yX2_count, Cond.code yX2_count cX2_count 1 (some .int)]
def wsX3_amnesty : List Cond := .code yX3_amnesty cX3_amnesty 7 (some .int) :: ((wsX3_amnesty_r1 ++ (wsX3_amnesty_r2 ++ (wsX3_amnesty_r3 ++ wsX3_amnesty_r4))) ++ wsX30 ++ wsX00 ++ wsX10 ++ wsX20 ++ (vx_atS RX3 43 "java/lang/IllegalArgumentException" ["java/lang/RuntimeException", "java/lang/Exception"]).filter goodWord)
def wsX3_records : List Cond := .code yX3_records cX3_records 1 (some .int) :: ([.fieldLink RX3 10 "PageBail" "bailRow" "LPageBail$BailRow;", .methodLink RX3 50 yX1_count, .instanceMethod yX1_count, .selects RX1 yX1_count yX1_count, .initialized RX1, .code yX1_count cX1_count 1 (some .int), .fieldLink RX1 17 "PageBail$BailRow" "count" "I"] ++ wsX30 ++ wsX10)
def wsX3_sum_r1 : List Cond := [Cond.fieldLink RX3 10 "PageBail" "bailRow" "LPageBail$BailRow;", Cond.fieldLink RX3 97 "PageBail$Bail" "sum" "I", Cond.methodLink RX3 31 yX3_requireCase, Cond.static yX3_requireCase, Cond.initialized RX3, Cond.code yX3_requireCase cX3_requireCase 1 none, Cond.classLink RX3 39 "java/lang/IllegalArgumentException", Cond.initialized "java/lang/IllegalArgumentException", Cond.methodLink RX3 35 yX3_isIn, Cond.static yX3_isIn, Cond.code yX3_isIn cX3_isIn 3 (some .boolean), Cond.methodLink RX3 46 yX1_find, Cond.instanceMethod yX1_find, Cond.selects RX1 yX1_find yX1_find, Cond.initialized RX1, Cond.code yX1_find cX1_find 2 (some (.object "PageBail$Bail")), Cond.methodLink RX1 35 yX1_placeOf, Cond.instanceMethod yX1_placeOf, Cond.selects RX1 yX1_placeOf yX1_placeOf, Cond.code yX1_placeOf cX1_placeOf 3 (some .int), Cond.methodLink RX1 32 yX1_countUpTo, Cond.instanceMethod yX1_countUpTo, Cond.selects RX1 yX1_countUpTo yX1_countUpTo, Cond.code yX1_countUpTo cX1_countUpTo 3 (some .int)]
def wsX3_sum_r2 : List Cond := [Cond.fieldLink RX1 17 "PageBail$BailRow" "count" "I", Cond.methodLink RX1 28 yX1_numberAt, Cond.instanceMethod yX1_numberAt, Cond.selects RX1 yX1_numberAt yX1_numberAt, Cond.code yX1_numberAt cX1_numberAt 3 (some .int), Cond.fieldLink RX1 25 "PageBail$Bail" "number" "I", Cond.methodLink RX1 21 yX1_bailAt, Cond.instanceMethod yX1_bailAt, Cond.selects RX1 yX1_bailAt yX1_bailAt, Cond.code yX1_bailAt cX1_bailAt 2 (some (.object "PageBail$Bail")), Cond.fieldLink RX1 11 "PageBail$BailRow" "bails" "[LPageBail$Bail;"]
def wsX3_sum : List Cond := .code yX3_sum cX3_sum 3 (some .int) :: ((wsX3_sum_r1 ++ wsX3_sum_r2) ++ wsX30 ++ wsX00 ++ wsX10 ++ (vx_atS RX3 43 "java/lang/IllegalArgumentException" ["java/lang/RuntimeException", "java/lang/Exception"]).filter goodWord)
def wsX3_heldBy : List Cond := .code yX3_heldBy cX3_heldBy 2 (some .int) :: ([.classLink RX3 39 "java/lang/IllegalArgumentException", .initialized "java/lang/IllegalArgumentException", .fieldLink RX3 10 "PageBail" "bailRow" "LPageBail$BailRow;", .methodLink RX3 35 yX3_isIn, .static yX3_isIn, .initialized RX3, .code yX3_isIn cX3_isIn 3 (some .boolean), .methodLink RX3 122 yX1_sumOfSurety, .instanceMethod yX1_sumOfSurety, .selects RX1 yX1_sumOfSurety yX1_sumOfSurety, .initialized RX1, .code yX1_sumOfSurety cX1_sumOfSurety 5 (some .int), .fieldLink RX1 17 "PageBail$BailRow" "count" "I", .fieldLink RX1 38 "PageBail$Bail" "surety" "I", .fieldLink RX1 41 "PageBail$Bail" "sum" "I", .methodLink RX1 21 yX1_bailAt, .instanceMethod yX1_bailAt, .selects RX1 yX1_bailAt yX1_bailAt, .code yX1_bailAt cX1_bailAt 2 (some (.object "PageBail$Bail")), .fieldLink RX1 11 "PageBail$BailRow" "bails" "[LPageBail$Bail;"] ++ wsX30 ++ wsX10 ++ wsX00 ++ (vx_atS RX3 43 "java/lang/IllegalArgumentException" ["java/lang/RuntimeException", "java/lang/Exception"]).filter goodWord)
def wsX3_kept : List Cond := .code yX3_kept cX3_kept 1 (some .int) :: ([.fieldLink RX3 125 "PageBail" "keptInAll" "I"] ++ wsX30)
def wsX3_paidBack : List Cond := .code yX3_paidBack cX3_paidBack 1 (some .int) :: ([.fieldLink RX3 94 "PageBail" "paidInAll" "I"] ++ wsX30)
def wsX3_keepOverdue_r1 : List Cond := [Cond.fieldLink RX3 10 "PageBail" "bailRow" "LPageBail$BailRow;", Cond.fieldLink RX3 77 "PageBail" "now" "I", Cond.fieldLink RX3 125 "PageBail" "keptInAll" "I", Cond.fieldLink RX3 97 "PageBail$Bail" "sum" "I", Cond.methodLink RX3 50 yX1_count, Cond.instanceMethod yX1_count, Cond.selects RX1 yX1_count yX1_count, Cond.initialized RX1, Cond.code yX1_count cX1_count 1 (some .int), Cond.fieldLink RX1 17 "PageBail$BailRow" "count" "I", Cond.methodLink RX3 113 yX1_bailAt, Cond.instanceMethod yX1_bailAt, Cond.selects RX1 yX1_bailAt yX1_bailAt, Cond.code yX1_bailAt cX1_bailAt 2 (some (.object "PageBail$Bail")), Cond.fieldLink RX1 11 "PageBail$BailRow" "bails" "[LPageBail$Bail;", Cond.methodLink RX3 180 yX0_isOverdue, Cond.instanceMethod yX0_isOverdue, Cond.selects RX0 yX0_isOverdue yX0_isOverdue, Cond.initialized RX0, Cond.code yX0_isOverdue cX0_isOverdue 2 (some .boolean), Cond.fieldLink RX0 24 "PageBail$Bail" "forfeitDay" "I", Cond.methodLink RX0 27 yX0_hasForfeitDay, Cond.instanceMethod yX0_hasForfeitDay, Cond.selects RX0 yX0_hasForfeitDay yX0_hasForfeitDay]
def wsX3_keepOverdue_r2 : List Cond := [Cond.code yX0_hasForfeitDay cX0_hasForfeitDay 1 (some .boolean), Cond.methodLink RX3 103 yX3_takeOut, Cond.instanceMethod yX3_takeOut, Cond.selects RX3 yX3_takeOut yX3_takeOut, Cond.initialized RX3, Cond.code yX3_takeOut cX3_takeOut 2 none, Cond.fieldLink RX3 19 "PageBail" "pageRow" "LPageBail$PageRow;", Cond.fieldLink RX3 27 "PageBail" "sweptPage" "I", Cond.methodLink RX3 152 yX2_pageWith, Cond.instanceMethod yX2_pageWith, Cond.selects RX2 yX2_pageWith yX2_pageWith, Cond.initialized RX2, Cond.code yX2_pageWith cX2_pageWith 4 (some .int), Cond.fieldLink RX2 15 "PageBail$PageRow" "count" "I", Cond.methodLink RX2 23 yX2_sizeOf, Cond.instanceMethod yX2_sizeOf, Cond.selects RX2 yX2_sizeOf yX2_sizeOf, Cond.code yX2_sizeOf cX2_sizeOf 2 (some .int), Cond.fieldLink RX2 9 "PageBail$PageRow" "sizes" "[I", Cond.methodLink RX2 19 yX2_has, Cond.instanceMethod yX2_has, Cond.selects RX2 yX2_has yX2_has, Cond.code yX2_has cX2_has 2 (some .boolean), Cond.methodLink RX3 174 yX2_takeFrom]
def wsX3_keepOverdue_r3 : List Cond := [Cond.instanceMethod yX2_takeFrom, Cond.selects RX2 yX2_takeFrom yX2_takeFrom, Cond.code yX2_takeFrom cX2_takeFrom 2 none, Cond.methodLink RX2 27 yX2_remove, Cond.instanceMethod yX2_remove, Cond.selects RX2 yX2_remove yX2_remove, Cond.code yX2_remove cX2_remove 3 none, Cond.methodLink RX2 31 yX2_borrowOrJoin, Cond.instanceMethod yX2_borrowOrJoin, Cond.selects RX2 yX2_borrowOrJoin yX2_borrowOrJoin, Cond.code yX2_borrowOrJoin cX2_borrowOrJoin 2 none, Cond.methodLink RX2 34 yX2_move, Cond.instanceMethod yX2_move, Cond.selects RX2 yX2_move yX2_move, Cond.code yX2_move cX2_move 3 none, Cond.methodLink RX3 177 yX1_remove, Cond.instanceMethod yX1_remove, Cond.selects RX1 yX1_remove yX1_remove, Cond.code yX1_remove cX1_remove 3 none, Cond.methodLink RX1 21 yX1_bailAt, Cond.methodLink RX3 87 yX2_count, Cond.instanceMethod yX2_count, Cond.selects RX2 yX2_count yX2_count, Cond.code yX2_count cX2_count 1 (some .int)]
def wsX3_keepOverdue : List Cond := .code yX3_keepOverdue cX3_keepOverdue 5 (some .int) :: ((wsX3_keepOverdue_r1 ++ (wsX3_keepOverdue_r2 ++ wsX3_keepOverdue_r3)) ++ wsX30 ++ wsX00 ++ wsX10 ++ wsX20)
def wsX3_pass_r1 : List Cond := [Cond.classLink RX3 39 "java/lang/IllegalArgumentException", Cond.initialized "java/lang/IllegalArgumentException", Cond.classLink RX3 54 "java/lang/IllegalStateException", Cond.initialized "java/lang/IllegalStateException", Cond.fieldLink RX3 77 "PageBail" "now" "I", Cond.methodLink RX3 35 yX3_isIn, Cond.static yX3_isIn, Cond.initialized RX3, Cond.code yX3_isIn cX3_isIn 3 (some .boolean), Cond.methodLink RX3 132 yX3_keepOverdue, Cond.instanceMethod yX3_keepOverdue, Cond.selects RX3 yX3_keepOverdue yX3_keepOverdue, Cond.code yX3_keepOverdue cX3_keepOverdue 5 (some .int), Cond.fieldLink RX3 10 "PageBail" "bailRow" "LPageBail$BailRow;", Cond.fieldLink RX3 125 "PageBail" "keptInAll" "I", Cond.fieldLink RX3 97 "PageBail$Bail" "sum" "I", Cond.methodLink RX3 50 yX1_count, Cond.instanceMethod yX1_count, Cond.selects RX1 yX1_count yX1_count, Cond.initialized RX1, Cond.code yX1_count cX1_count 1 (some .int), Cond.fieldLink RX1 17 "PageBail$BailRow" "count" "I", Cond.methodLink RX3 113 yX1_bailAt, Cond.instanceMethod yX1_bailAt]
def wsX3_pass_r2 : List Cond := [Cond.selects RX1 yX1_bailAt yX1_bailAt, Cond.code yX1_bailAt cX1_bailAt 2 (some (.object "PageBail$Bail")), Cond.fieldLink RX1 11 "PageBail$BailRow" "bails" "[LPageBail$Bail;", Cond.methodLink RX3 180 yX0_isOverdue, Cond.instanceMethod yX0_isOverdue, Cond.selects RX0 yX0_isOverdue yX0_isOverdue, Cond.initialized RX0, Cond.code yX0_isOverdue cX0_isOverdue 2 (some .boolean), Cond.fieldLink RX0 24 "PageBail$Bail" "forfeitDay" "I", Cond.methodLink RX0 27 yX0_hasForfeitDay, Cond.instanceMethod yX0_hasForfeitDay, Cond.selects RX0 yX0_hasForfeitDay yX0_hasForfeitDay, Cond.code yX0_hasForfeitDay cX0_hasForfeitDay 1 (some .boolean), Cond.methodLink RX3 103 yX3_takeOut, Cond.instanceMethod yX3_takeOut, Cond.selects RX3 yX3_takeOut yX3_takeOut, Cond.code yX3_takeOut cX3_takeOut 2 none, Cond.fieldLink RX3 19 "PageBail" "pageRow" "LPageBail$PageRow;", Cond.fieldLink RX3 27 "PageBail" "sweptPage" "I", Cond.methodLink RX3 152 yX2_pageWith, Cond.instanceMethod yX2_pageWith, Cond.selects RX2 yX2_pageWith yX2_pageWith, Cond.initialized RX2, Cond.code yX2_pageWith cX2_pageWith 4 (some .int)]
def wsX3_pass_r3 : List Cond := [Cond.fieldLink RX2 15 "PageBail$PageRow" "count" "I", Cond.methodLink RX2 23 yX2_sizeOf, Cond.instanceMethod yX2_sizeOf, Cond.selects RX2 yX2_sizeOf yX2_sizeOf, Cond.code yX2_sizeOf cX2_sizeOf 2 (some .int), Cond.fieldLink RX2 9 "PageBail$PageRow" "sizes" "[I", Cond.methodLink RX2 19 yX2_has, Cond.instanceMethod yX2_has, Cond.selects RX2 yX2_has yX2_has, Cond.code yX2_has cX2_has 2 (some .boolean), Cond.methodLink RX3 174 yX2_takeFrom, Cond.instanceMethod yX2_takeFrom, Cond.selects RX2 yX2_takeFrom yX2_takeFrom, Cond.code yX2_takeFrom cX2_takeFrom 2 none, Cond.methodLink RX2 27 yX2_remove, Cond.instanceMethod yX2_remove, Cond.selects RX2 yX2_remove yX2_remove, Cond.code yX2_remove cX2_remove 3 none, Cond.methodLink RX2 31 yX2_borrowOrJoin, Cond.instanceMethod yX2_borrowOrJoin, Cond.selects RX2 yX2_borrowOrJoin yX2_borrowOrJoin, Cond.code yX2_borrowOrJoin cX2_borrowOrJoin 2 none, Cond.methodLink RX2 34 yX2_move, Cond.instanceMethod yX2_move]
def wsX3_pass_r4 : List Cond := [Cond.selects RX2 yX2_move yX2_move, Cond.code yX2_move cX2_move 3 none, Cond.methodLink RX3 177 yX1_remove, Cond.instanceMethod yX1_remove, Cond.selects RX1 yX1_remove yX1_remove, Cond.code yX1_remove cX1_remove 3 none, Cond.methodLink RX1 21 yX1_bailAt, Cond.methodLink RX3 87 yX2_count, Cond.instanceMethod yX2_count, Cond.selects RX2 yX2_count yX2_count, Cond.code yX2_count cX2_count 1 (some .int)]
def wsX3_pass : List Cond := .code yX3_pass cX3_pass 4 (some .int) :: ((wsX3_pass_r1 ++ (wsX3_pass_r2 ++ (wsX3_pass_r3 ++ wsX3_pass_r4))) ++ wsX30 ++ wsX00 ++ wsX10 ++ wsX20 ++ (vx_atS RX3 43 "java/lang/IllegalArgumentException" ["java/lang/RuntimeException", "java/lang/Exception"]).filter goodWord ++ (vx_atS RX3 58 "java/lang/IllegalStateException" ["java/lang/RuntimeException", "java/lang/Exception"]).filter goodWord)
def wsX3_today : List Cond := .code yX3_today cX3_today 1 (some .int) :: ([.fieldLink RX3 77 "PageBail" "now" "I"] ++ wsX30)
def wsX3_pages : List Cond := .code yX3_pages cX3_pages 1 (some .int) :: ([.fieldLink RX3 19 "PageBail" "pageRow" "LPageBail$PageRow;", .methodLink RX3 87 yX2_count, .instanceMethod yX2_count, .selects RX2 yX2_count yX2_count, .initialized RX2, .code yX2_count cX2_count 1 (some .int), .fieldLink RX2 15 "PageBail$PageRow" "count" "I"] ++ wsX30 ++ wsX20)
def wsX3_size : List Cond := .code yX3_size cX3_size 2 (some .int) :: ([.classLink RX3 139 "java/lang/IndexOutOfBoundsException", .initialized "java/lang/IndexOutOfBoundsException", .fieldLink RX3 19 "PageBail" "pageRow" "LPageBail$PageRow;", .methodLink RX3 135 yX2_has, .instanceMethod yX2_has, .selects RX2 yX2_has yX2_has, .initialized RX2, .code yX2_has cX2_has 2 (some .boolean), .fieldLink RX2 15 "PageBail$PageRow" "count" "I", .fieldLink RX2 9 "PageBail$PageRow" "sizes" "[I", .methodLink RX3 66 yX2_sizeOf, .instanceMethod yX2_sizeOf, .selects RX2 yX2_sizeOf yX2_sizeOf, .code yX2_sizeOf cX2_sizeOf 2 (some .int), .methodLink RX2 19 yX2_has] ++ wsX30 ++ wsX20 ++ (vx_atS RX3 143 "java/lang/IndexOutOfBoundsException" ["java/lang/RuntimeException", "java/lang/Exception"]).filter goodWord)
def wsX3_at_r1 : List Cond := [Cond.classLink RX3 139 "java/lang/IndexOutOfBoundsException", Cond.initialized "java/lang/IndexOutOfBoundsException", Cond.fieldLink RX3 19 "PageBail" "pageRow" "LPageBail$PageRow;", Cond.fieldLink RX3 10 "PageBail" "bailRow" "LPageBail$BailRow;", Cond.methodLink RX3 135 yX2_has, Cond.instanceMethod yX2_has, Cond.selects RX2 yX2_has yX2_has, Cond.initialized RX2, Cond.code yX2_has cX2_has 2 (some .boolean), Cond.fieldLink RX2 15 "PageBail$PageRow" "count" "I", Cond.fieldLink RX2 9 "PageBail$PageRow" "sizes" "[I", Cond.methodLink RX3 66 yX2_sizeOf, Cond.instanceMethod yX2_sizeOf, Cond.selects RX2 yX2_sizeOf yX2_sizeOf, Cond.code yX2_sizeOf cX2_sizeOf 2 (some .int), Cond.methodLink RX2 19 yX2_has, Cond.methodLink RX3 35 yX3_isIn, Cond.static yX3_isIn, Cond.initialized RX3, Cond.code yX3_isIn cX3_isIn 3 (some .boolean), Cond.methodLink RX3 146 yX2_beginOf, Cond.instanceMethod yX2_beginOf, Cond.selects RX2 yX2_beginOf yX2_beginOf, Cond.code yX2_beginOf cX2_beginOf 4 (some .int)]
def wsX3_at_r2 : List Cond := [Cond.methodLink RX2 23 yX2_sizeOf, Cond.methodLink RX3 149 yX1_numberAt, Cond.instanceMethod yX1_numberAt, Cond.selects RX1 yX1_numberAt yX1_numberAt, Cond.initialized RX1, Cond.code yX1_numberAt cX1_numberAt 3 (some .int), Cond.fieldLink RX1 25 "PageBail$Bail" "number" "I", Cond.methodLink RX1 21 yX1_bailAt, Cond.instanceMethod yX1_bailAt, Cond.selects RX1 yX1_bailAt yX1_bailAt, Cond.code yX1_bailAt cX1_bailAt 2 (some (.object "PageBail$Bail")), Cond.fieldLink RX1 17 "PageBail$BailRow" "count" "I", Cond.fieldLink RX1 11 "PageBail$BailRow" "bails" "[LPageBail$Bail;"]
def wsX3_at : List Cond := .code yX3_at cX3_at 3 (some .int) :: ((wsX3_at_r1 ++ wsX3_at_r2) ++ wsX30 ++ wsX20 ++ wsX00 ++ wsX10 ++ (vx_atS RX3 143 "java/lang/IndexOutOfBoundsException" ["java/lang/RuntimeException", "java/lang/Exception"]).filter goodWord)
def wsX3_pageOf_r1 : List Cond := [Cond.fieldLink RX3 19 "PageBail" "pageRow" "LPageBail$PageRow;", Cond.fieldLink RX3 10 "PageBail" "bailRow" "LPageBail$BailRow;", Cond.methodLink RX3 31 yX3_requireCase, Cond.static yX3_requireCase, Cond.initialized RX3, Cond.code yX3_requireCase cX3_requireCase 1 none, Cond.classLink RX3 39 "java/lang/IllegalArgumentException", Cond.initialized "java/lang/IllegalArgumentException", Cond.methodLink RX3 35 yX3_isIn, Cond.static yX3_isIn, Cond.code yX3_isIn cX3_isIn 3 (some .boolean), Cond.methodLink RX3 100 yX1_placeOf, Cond.instanceMethod yX1_placeOf, Cond.selects RX1 yX1_placeOf yX1_placeOf, Cond.initialized RX1, Cond.code yX1_placeOf cX1_placeOf 3 (some .int), Cond.methodLink RX1 32 yX1_countUpTo, Cond.instanceMethod yX1_countUpTo, Cond.selects RX1 yX1_countUpTo yX1_countUpTo, Cond.code yX1_countUpTo cX1_countUpTo 3 (some .int), Cond.fieldLink RX1 17 "PageBail$BailRow" "count" "I", Cond.methodLink RX1 28 yX1_numberAt, Cond.instanceMethod yX1_numberAt, Cond.selects RX1 yX1_numberAt yX1_numberAt]
def wsX3_pageOf_r2 : List Cond := [Cond.code yX1_numberAt cX1_numberAt 3 (some .int), Cond.fieldLink RX1 25 "PageBail$Bail" "number" "I", Cond.methodLink RX1 21 yX1_bailAt, Cond.instanceMethod yX1_bailAt, Cond.selects RX1 yX1_bailAt yX1_bailAt, Cond.code yX1_bailAt cX1_bailAt 2 (some (.object "PageBail$Bail")), Cond.fieldLink RX1 11 "PageBail$BailRow" "bails" "[LPageBail$Bail;", Cond.methodLink RX3 152 yX2_pageWith, Cond.instanceMethod yX2_pageWith, Cond.selects RX2 yX2_pageWith yX2_pageWith, Cond.initialized RX2, Cond.code yX2_pageWith cX2_pageWith 4 (some .int), Cond.fieldLink RX2 15 "PageBail$PageRow" "count" "I", Cond.methodLink RX2 23 yX2_sizeOf, Cond.instanceMethod yX2_sizeOf, Cond.selects RX2 yX2_sizeOf yX2_sizeOf, Cond.code yX2_sizeOf cX2_sizeOf 2 (some .int), Cond.fieldLink RX2 9 "PageBail$PageRow" "sizes" "[I", Cond.methodLink RX2 19 yX2_has, Cond.instanceMethod yX2_has, Cond.selects RX2 yX2_has yX2_has, Cond.code yX2_has cX2_has 2 (some .boolean)]
def wsX3_pageOf : List Cond := .code yX3_pageOf cX3_pageOf 2 (some .int) :: ((wsX3_pageOf_r1 ++ wsX3_pageOf_r2) ++ wsX30 ++ wsX10 ++ wsX00 ++ wsX20 ++ (vx_atS RX3 43 "java/lang/IllegalArgumentException" ["java/lang/RuntimeException", "java/lang/Exception"]).filter goodWord)
def wsX3_sweep : List Cond := .code yX3_sweep cX3_sweep 1 none :: ([.classLink RX3 54 "java/lang/IllegalStateException", .initialized "java/lang/IllegalStateException", .fieldLink RX3 27 "PageBail" "sweptPage" "I"] ++ wsX30 ++ (vx_atS RX3 58 "java/lang/IllegalStateException" ["java/lang/RuntimeException", "java/lang/Exception"]).filter goodWord)
def wsX3_sweepOn : List Cond := .code yX3_sweepOn cX3_sweepOn 1 (some .int) :: ([.fieldLink RX3 19 "PageBail" "pageRow" "LPageBail$PageRow;", .fieldLink RX3 27 "PageBail" "sweptPage" "I", .methodLink RX3 135 yX2_has, .instanceMethod yX2_has, .selects RX2 yX2_has yX2_has, .initialized RX2, .code yX2_has cX2_has 2 (some .boolean), .fieldLink RX2 15 "PageBail$PageRow" "count" "I", .fieldLink RX2 9 "PageBail$PageRow" "sizes" "[I", .methodLink RX3 66 yX2_sizeOf, .instanceMethod yX2_sizeOf, .selects RX2 yX2_sizeOf yX2_sizeOf, .code yX2_sizeOf cX2_sizeOf 2 (some .int), .methodLink RX2 19 yX2_has, .methodLink RX3 183 yX2_move, .instanceMethod yX2_move, .selects RX2 yX2_move yX2_move, .code yX2_move cX2_move 3 none, .methodLink RX2 27 yX2_remove, .instanceMethod yX2_remove, .selects RX2 yX2_remove yX2_remove, .code yX2_remove cX2_remove 3 none] ++ wsX30 ++ wsX20)
def wsX3_step_r1 : List Cond := [Cond.classLink RX3 39 "java/lang/IllegalArgumentException", Cond.initialized "java/lang/IllegalArgumentException", Cond.classLink RX3 54 "java/lang/IllegalStateException", Cond.initialized "java/lang/IllegalStateException", Cond.fieldLink RX3 27 "PageBail" "sweptPage" "I", Cond.methodLink RX3 35 yX3_isIn, Cond.static yX3_isIn, Cond.initialized RX3, Cond.code yX3_isIn cX3_isIn 3 (some .boolean), Cond.methodLink RX3 161 yX3_sweepOn, Cond.instanceMethod yX3_sweepOn, Cond.selects RX3 yX3_sweepOn yX3_sweepOn, Cond.code yX3_sweepOn cX3_sweepOn 1 (some .int), Cond.fieldLink RX3 19 "PageBail" "pageRow" "LPageBail$PageRow;", Cond.methodLink RX3 135 yX2_has, Cond.instanceMethod yX2_has, Cond.selects RX2 yX2_has yX2_has, Cond.initialized RX2, Cond.code yX2_has cX2_has 2 (some .boolean), Cond.fieldLink RX2 15 "PageBail$PageRow" "count" "I", Cond.fieldLink RX2 9 "PageBail$PageRow" "sizes" "[I", Cond.methodLink RX3 66 yX2_sizeOf, Cond.instanceMethod yX2_sizeOf, Cond.selects RX2 yX2_sizeOf yX2_sizeOf]
def wsX3_step_r2 : List Cond := [Cond.code yX2_sizeOf cX2_sizeOf 2 (some .int), Cond.methodLink RX2 19 yX2_has, Cond.methodLink RX3 183 yX2_move, Cond.instanceMethod yX2_move, Cond.selects RX2 yX2_move yX2_move, Cond.code yX2_move cX2_move 3 none, Cond.methodLink RX2 27 yX2_remove, Cond.instanceMethod yX2_remove, Cond.selects RX2 yX2_remove yX2_remove, Cond.code yX2_remove cX2_remove 3 none]
def wsX3_step : List Cond := .code yX3_step cX3_step 4 (some .int) :: ((wsX3_step_r1 ++ wsX3_step_r2) ++ wsX30 ++ wsX20 ++ (vx_atS RX3 43 "java/lang/IllegalArgumentException" ["java/lang/RuntimeException", "java/lang/Exception"]).filter goodWord ++ (vx_atS RX3 58 "java/lang/IllegalStateException" ["java/lang/RuntimeException", "java/lang/Exception"]).filter goodWord)
def wsX3_sweeping : List Cond := .code yX3_sweeping cX3_sweeping 1 (some .int) :: ([.fieldLink RX3 27 "PageBail" "sweptPage" "I"] ++ wsX30)
def wsX3_walk_r1 : List Cond := [Cond.classLink RX3 39 "java/lang/IllegalArgumentException", Cond.initialized "java/lang/IllegalArgumentException", Cond.fieldLink RX3 23 "PageBail" "lastRead" "[I", Cond.fieldLink RX3 10 "PageBail" "bailRow" "LPageBail$BailRow;", Cond.methodLink RX3 35 yX3_isIn, Cond.static yX3_isIn, Cond.initialized RX3, Cond.code yX3_isIn cX3_isIn 3 (some .boolean), Cond.methodLink RX3 59 yX1_countUpTo, Cond.instanceMethod yX1_countUpTo, Cond.selects RX1 yX1_countUpTo yX1_countUpTo, Cond.initialized RX1, Cond.code yX1_countUpTo cX1_countUpTo 3 (some .int), Cond.fieldLink RX1 17 "PageBail$BailRow" "count" "I", Cond.methodLink RX1 28 yX1_numberAt, Cond.instanceMethod yX1_numberAt, Cond.selects RX1 yX1_numberAt yX1_numberAt, Cond.code yX1_numberAt cX1_numberAt 3 (some .int), Cond.fieldLink RX1 25 "PageBail$Bail" "number" "I", Cond.methodLink RX1 21 yX1_bailAt, Cond.instanceMethod yX1_bailAt, Cond.selects RX1 yX1_bailAt yX1_bailAt, Cond.code yX1_bailAt cX1_bailAt 2 (some (.object "PageBail$Bail")), Cond.fieldLink RX1 11 "PageBail$BailRow" "bails" "[LPageBail$Bail;"]
def wsX3_walk_r2 : List Cond := [Cond.methodLink RX3 149 yX1_numberAt]
def wsX3_walk : List Cond := .code yX3_walk cX3_walk 2 (some .int) :: ((wsX3_walk_r1 ++ wsX3_walk_r2) ++ wsX30 ++ wsX10 ++ wsX00 ++ (vx_atS RX3 43 "java/lang/IllegalArgumentException" ["java/lang/RuntimeException", "java/lang/Exception"]).filter goodWord)
def wsJ9_max_7cf53 : List Cond := .code yJ9_max_7cf53 cJ9_max_7cf53 2 (some .int) :: ([])
def wsL_cell : List Cond := .code yL_cell cL_cell 2 (some .int) :: ([])
def wsL_low : List Cond := .code yL_low cL_low 2 (some .int) :: ([.constant RL 7 (2147483647)])
def wsL_put_r1 : List Cond := [Cond.classLink RL 14 "java/lang/IllegalArgumentException", Cond.classLink RL 17 "java/lang/IllegalStateException", Cond.constant RL 16 (-99999), Cond.methodLink RL 8 yX3_put, Cond.instanceMethod yX3_put, Cond.selects RX3 yX3_put yX3_put, Cond.initialized RX3, Cond.code yX3_put cX3_put 5 (some .int), Cond.classLink RX3 39 "java/lang/IllegalArgumentException", Cond.initialized "java/lang/IllegalArgumentException", Cond.classLink RX3 54 "java/lang/IllegalStateException", Cond.initialized "java/lang/IllegalStateException", Cond.fieldLink RX3 10 "PageBail" "bailRow" "LPageBail$BailRow;", Cond.fieldLink RX3 19 "PageBail" "pageRow" "LPageBail$PageRow;", Cond.classLink RX3 75 RX0, Cond.instantiable RX0 5, Cond.initialized RX0, Cond.fieldLink RX3 77 "PageBail" "now" "I", Cond.methodLink RX3 31 yX3_requireCase, Cond.static yX3_requireCase, Cond.code yX3_requireCase cX3_requireCase 1 none, Cond.methodLink RX3 35 yX3_isIn, Cond.static yX3_isIn, Cond.code yX3_isIn cX3_isIn 3 (some .boolean)]
def wsL_put_r2 : List Cond := [Cond.methodLink RX3 46 yX1_find, Cond.instanceMethod yX1_find, Cond.selects RX1 yX1_find yX1_find, Cond.initialized RX1, Cond.code yX1_find cX1_find 2 (some (.object "PageBail$Bail")), Cond.methodLink RX1 35 yX1_placeOf, Cond.instanceMethod yX1_placeOf, Cond.selects RX1 yX1_placeOf yX1_placeOf, Cond.code yX1_placeOf cX1_placeOf 3 (some .int), Cond.methodLink RX1 32 yX1_countUpTo, Cond.instanceMethod yX1_countUpTo, Cond.selects RX1 yX1_countUpTo yX1_countUpTo, Cond.code yX1_countUpTo cX1_countUpTo 3 (some .int), Cond.fieldLink RX1 17 "PageBail$BailRow" "count" "I", Cond.methodLink RX1 28 yX1_numberAt, Cond.instanceMethod yX1_numberAt, Cond.selects RX1 yX1_numberAt yX1_numberAt, Cond.code yX1_numberAt cX1_numberAt 3 (some .int), Cond.fieldLink RX1 25 "PageBail$Bail" "number" "I", Cond.methodLink RX1 21 yX1_bailAt, Cond.instanceMethod yX1_bailAt, Cond.selects RX1 yX1_bailAt yX1_bailAt, Cond.code yX1_bailAt cX1_bailAt 2 (some (.object "PageBail$Bail")), Cond.fieldLink RX1 11 "PageBail$BailRow" "bails" "[LPageBail$Bail;"]
def wsL_put_r3 : List Cond := [Cond.methodLink RX3 50 yX1_count, Cond.instanceMethod yX1_count, Cond.selects RX1 yX1_count yX1_count, Cond.code yX1_count cX1_count 1 (some .int), Cond.methodLink RX3 59 yX1_countUpTo, Cond.methodLink RX3 63 yX3_pageToPutOn, Cond.instanceMethod yX3_pageToPutOn, Cond.selects RX3 yX3_pageToPutOn yX3_pageToPutOn, Cond.code yX3_pageToPutOn cX3_pageToPutOn 2 (some .int), Cond.methodLink RX3 168 Lib.Math.max.name, Cond.static Lib.Math.max.name, Cond.initialized "java/lang/Math", Cond.code Lib.Math.max.name Lib.Math.max.code 2 (some .int), Cond.methodLink RX3 152 yX2_pageWith, Cond.instanceMethod yX2_pageWith, Cond.selects RX2 yX2_pageWith yX2_pageWith, Cond.initialized RX2, Cond.code yX2_pageWith cX2_pageWith 4 (some .int), Cond.fieldLink RX2 15 "PageBail$PageRow" "count" "I", Cond.methodLink RX2 23 yX2_sizeOf, Cond.instanceMethod yX2_sizeOf, Cond.selects RX2 yX2_sizeOf yX2_sizeOf, Cond.code yX2_sizeOf cX2_sizeOf 2 (some .int), Cond.fieldLink RX2 9 "PageBail$PageRow" "sizes" "[I"]
def wsL_put_r4 : List Cond := [Cond.methodLink RX2 19 yX2_has, Cond.instanceMethod yX2_has, Cond.selects RX2 yX2_has yX2_has, Cond.code yX2_has cX2_has 2 (some .boolean), Cond.methodLink RX3 66 yX2_sizeOf, Cond.methodLink RX3 69 yX2_split, Cond.instanceMethod yX2_split, Cond.selects RX2 yX2_split yX2_split, Cond.code yX2_split cX2_split 3 none, Cond.methodLink RX3 72 yX2_addTo, Cond.instanceMethod yX2_addTo, Cond.selects RX2 yX2_addTo yX2_addTo, Cond.code yX2_addTo cX2_addTo 2 none, Cond.methodLink RX3 80 yX0_init, Cond.instanceMethod yX0_init, Cond.code yX0_init cX0_init 5 none, Cond.methodLink RX0 3 objectInit, Cond.instanceMethod objectInit, Cond.code objectInit ⟨#[0xb1]⟩ 1 none, Cond.fieldLink RX0 9 "PageBail$Bail" "number" "I", Cond.fieldLink RX0 15 "PageBail$Bail" "sum" "I", Cond.fieldLink RX0 18 "PageBail$Bail" "surety" "I", Cond.fieldLink RX0 21 "PageBail$Bail" "putDay" "I", Cond.fieldLink RX0 24 "PageBail$Bail" "forfeitDay" "I"]
def wsL_put_r5 : List Cond := [Cond.methodLink RX3 83 yX1_insert, Cond.instanceMethod yX1_insert, Cond.selects RX1 yX1_insert yX1_insert, Cond.code yX1_insert cX1_insert 4 none, Cond.methodLink RX3 87 yX2_count, Cond.instanceMethod yX2_count, Cond.selects RX2 yX2_count yX2_count, Cond.code yX2_count cX2_count 1 (some .int)]
def wsL_put : List Cond := .codeWith yL_put cL_put 5 (some .int) [(0, 7, 8, 14), (0, 7, 13, 17)] :: ((wsL_put_r1 ++ (wsL_put_r2 ++ (wsL_put_r3 ++ (wsL_put_r4 ++ wsL_put_r5)))) ++ wsX30 ++ wsX00 ++ wsX10 ++ wsX20 ++ (vx_atS RX3 43 "java/lang/IllegalArgumentException" ["java/lang/RuntimeException", "java/lang/Exception"]).filter goodWord ++ (vx_atS RX3 58 "java/lang/IllegalStateException" ["java/lang/RuntimeException", "java/lang/Exception"]).filter goodWord)
def wsL_payBack_r1 : List Cond := [Cond.classLink RL 14 "java/lang/IllegalArgumentException", Cond.classLink RL 17 "java/lang/IllegalStateException", Cond.constant RL 16 (-99999), Cond.methodLink RL 19 yX3_payBack, Cond.instanceMethod yX3_payBack, Cond.selects RX3 yX3_payBack yX3_payBack, Cond.initialized RX3, Cond.code yX3_payBack cX3_payBack 3 (some .int), Cond.classLink RX3 54 "java/lang/IllegalStateException", Cond.initialized "java/lang/IllegalStateException", Cond.fieldLink RX3 10 "PageBail" "bailRow" "LPageBail$BailRow;", Cond.fieldLink RX3 94 "PageBail" "paidInAll" "I", Cond.fieldLink RX3 97 "PageBail$Bail" "sum" "I", Cond.methodLink RX3 31 yX3_requireCase, Cond.static yX3_requireCase, Cond.code yX3_requireCase cX3_requireCase 1 none, Cond.classLink RX3 39 "java/lang/IllegalArgumentException", Cond.initialized "java/lang/IllegalArgumentException", Cond.methodLink RX3 35 yX3_isIn, Cond.static yX3_isIn, Cond.code yX3_isIn cX3_isIn 3 (some .boolean), Cond.methodLink RX3 46 yX1_find, Cond.instanceMethod yX1_find, Cond.selects RX1 yX1_find yX1_find]
def wsL_payBack_r2 : List Cond := [Cond.initialized RX1, Cond.code yX1_find cX1_find 2 (some (.object "PageBail$Bail")), Cond.methodLink RX1 35 yX1_placeOf, Cond.instanceMethod yX1_placeOf, Cond.selects RX1 yX1_placeOf yX1_placeOf, Cond.code yX1_placeOf cX1_placeOf 3 (some .int), Cond.methodLink RX1 32 yX1_countUpTo, Cond.instanceMethod yX1_countUpTo, Cond.selects RX1 yX1_countUpTo yX1_countUpTo, Cond.code yX1_countUpTo cX1_countUpTo 3 (some .int), Cond.fieldLink RX1 17 "PageBail$BailRow" "count" "I", Cond.methodLink RX1 28 yX1_numberAt, Cond.instanceMethod yX1_numberAt, Cond.selects RX1 yX1_numberAt yX1_numberAt, Cond.code yX1_numberAt cX1_numberAt 3 (some .int), Cond.fieldLink RX1 25 "PageBail$Bail" "number" "I", Cond.methodLink RX1 21 yX1_bailAt, Cond.instanceMethod yX1_bailAt, Cond.selects RX1 yX1_bailAt yX1_bailAt, Cond.code yX1_bailAt cX1_bailAt 2 (some (.object "PageBail$Bail")), Cond.fieldLink RX1 11 "PageBail$BailRow" "bails" "[LPageBail$Bail;", Cond.methodLink RX3 88 yX0_hasForfeitDay, Cond.instanceMethod yX0_hasForfeitDay, Cond.selects RX0 yX0_hasForfeitDay yX0_hasForfeitDay]
def wsL_payBack_r3 : List Cond := [Cond.initialized RX0, Cond.code yX0_hasForfeitDay cX0_hasForfeitDay 1 (some .boolean), Cond.fieldLink RX0 24 "PageBail$Bail" "forfeitDay" "I", Cond.methodLink RX3 100 yX1_placeOf, Cond.methodLink RX3 103 yX3_takeOut, Cond.instanceMethod yX3_takeOut, Cond.selects RX3 yX3_takeOut yX3_takeOut, Cond.code yX3_takeOut cX3_takeOut 2 none, Cond.fieldLink RX3 19 "PageBail" "pageRow" "LPageBail$PageRow;", Cond.fieldLink RX3 27 "PageBail" "sweptPage" "I", Cond.methodLink RX3 152 yX2_pageWith, Cond.instanceMethod yX2_pageWith, Cond.selects RX2 yX2_pageWith yX2_pageWith, Cond.initialized RX2, Cond.code yX2_pageWith cX2_pageWith 4 (some .int), Cond.fieldLink RX2 15 "PageBail$PageRow" "count" "I", Cond.methodLink RX2 23 yX2_sizeOf, Cond.instanceMethod yX2_sizeOf, Cond.selects RX2 yX2_sizeOf yX2_sizeOf, Cond.code yX2_sizeOf cX2_sizeOf 2 (some .int), Cond.fieldLink RX2 9 "PageBail$PageRow" "sizes" "[I", Cond.methodLink RX2 19 yX2_has, Cond.instanceMethod yX2_has, Cond.selects RX2 yX2_has yX2_has]
def wsL_payBack_r4 : List Cond := [Cond.code yX2_has cX2_has 2 (some .boolean), Cond.methodLink RX3 174 yX2_takeFrom, Cond.instanceMethod yX2_takeFrom, Cond.selects RX2 yX2_takeFrom yX2_takeFrom, Cond.code yX2_takeFrom cX2_takeFrom 2 none, Cond.methodLink RX2 27 yX2_remove, Cond.instanceMethod yX2_remove, Cond.selects RX2 yX2_remove yX2_remove, Cond.code yX2_remove cX2_remove 3 none, Cond.methodLink RX2 31 yX2_borrowOrJoin, Cond.instanceMethod yX2_borrowOrJoin, Cond.selects RX2 yX2_borrowOrJoin yX2_borrowOrJoin, Cond.code yX2_borrowOrJoin cX2_borrowOrJoin 2 none, Cond.methodLink RX2 34 yX2_move, Cond.instanceMethod yX2_move, Cond.selects RX2 yX2_move yX2_move, Cond.code yX2_move cX2_move 3 none, Cond.methodLink RX3 177 yX1_remove, Cond.instanceMethod yX1_remove, Cond.selects RX1 yX1_remove yX1_remove, Cond.code yX1_remove cX1_remove 3 none, Cond.methodLink RX3 87 yX2_count, Cond.instanceMethod yX2_count, Cond.selects RX2 yX2_count yX2_count]
def wsL_payBack_r5 : List Cond := [Cond.code yX2_count cX2_count 1 (some .int)]
def wsL_payBack : List Cond := .codeWith yL_payBack cL_payBack 3 (some .int) [(0, 5, 6, 14), (0, 5, 10, 17)] :: ((wsL_payBack_r1 ++ (wsL_payBack_r2 ++ (wsL_payBack_r3 ++ (wsL_payBack_r4 ++ wsL_payBack_r5)))) ++ wsX30 ++ wsX00 ++ wsX10 ++ wsX20 ++ (vx_atS RX3 58 "java/lang/IllegalStateException" ["java/lang/RuntimeException", "java/lang/Exception"]).filter goodWord ++ (vx_atS RX3 43 "java/lang/IllegalArgumentException" ["java/lang/RuntimeException", "java/lang/Exception"]).filter goodWord)
def wsL_forfeit_r1 : List Cond := [Cond.classLink RL 14 "java/lang/IllegalArgumentException", Cond.classLink RL 17 "java/lang/IllegalStateException", Cond.constant RL 16 (-99999), Cond.methodLink RL 23 yX3_forfeit, Cond.instanceMethod yX3_forfeit, Cond.selects RX3 yX3_forfeit yX3_forfeit, Cond.initialized RX3, Cond.code yX3_forfeit cX3_forfeit 3 none, Cond.classLink RX3 54 "java/lang/IllegalStateException", Cond.initialized "java/lang/IllegalStateException", Cond.fieldLink RX3 10 "PageBail" "bailRow" "LPageBail$BailRow;", Cond.fieldLink RX3 77 "PageBail" "now" "I", Cond.fieldLink RX3 106 "PageBail$Bail" "forfeitDay" "I", Cond.methodLink RX3 31 yX3_requireCase, Cond.static yX3_requireCase, Cond.code yX3_requireCase cX3_requireCase 1 none, Cond.classLink RX3 39 "java/lang/IllegalArgumentException", Cond.initialized "java/lang/IllegalArgumentException", Cond.methodLink RX3 35 yX3_isIn, Cond.static yX3_isIn, Cond.code yX3_isIn cX3_isIn 3 (some .boolean), Cond.methodLink RX3 46 yX1_find, Cond.instanceMethod yX1_find, Cond.selects RX1 yX1_find yX1_find]
def wsL_forfeit_r2 : List Cond := [Cond.initialized RX1, Cond.code yX1_find cX1_find 2 (some (.object "PageBail$Bail")), Cond.methodLink RX1 35 yX1_placeOf, Cond.instanceMethod yX1_placeOf, Cond.selects RX1 yX1_placeOf yX1_placeOf, Cond.code yX1_placeOf cX1_placeOf 3 (some .int), Cond.methodLink RX1 32 yX1_countUpTo, Cond.instanceMethod yX1_countUpTo, Cond.selects RX1 yX1_countUpTo yX1_countUpTo, Cond.code yX1_countUpTo cX1_countUpTo 3 (some .int), Cond.fieldLink RX1 17 "PageBail$BailRow" "count" "I", Cond.methodLink RX1 28 yX1_numberAt, Cond.instanceMethod yX1_numberAt, Cond.selects RX1 yX1_numberAt yX1_numberAt, Cond.code yX1_numberAt cX1_numberAt 3 (some .int), Cond.fieldLink RX1 25 "PageBail$Bail" "number" "I", Cond.methodLink RX1 21 yX1_bailAt, Cond.instanceMethod yX1_bailAt, Cond.selects RX1 yX1_bailAt yX1_bailAt, Cond.code yX1_bailAt cX1_bailAt 2 (some (.object "PageBail$Bail")), Cond.fieldLink RX1 11 "PageBail$BailRow" "bails" "[LPageBail$Bail;", Cond.methodLink RX3 88 yX0_hasForfeitDay, Cond.instanceMethod yX0_hasForfeitDay, Cond.selects RX0 yX0_hasForfeitDay yX0_hasForfeitDay]
def wsL_forfeit_r3 : List Cond := [Cond.initialized RX0, Cond.code yX0_hasForfeitDay cX0_hasForfeitDay 1 (some .boolean), Cond.fieldLink RX0 24 "PageBail$Bail" "forfeitDay" "I"]
def wsL_forfeit : List Cond := .codeWith yL_forfeit cL_forfeit 3 (some .int) [(0, 6, 7, 14), (0, 6, 11, 17)] :: ((wsL_forfeit_r1 ++ (wsL_forfeit_r2 ++ wsL_forfeit_r3)) ++ wsX30 ++ wsX00 ++ wsX10 ++ (vx_atS RX3 58 "java/lang/IllegalStateException" ["java/lang/RuntimeException", "java/lang/Exception"]).filter goodWord ++ (vx_atS RX3 43 "java/lang/IllegalArgumentException" ["java/lang/RuntimeException", "java/lang/Exception"]).filter goodWord)
def wsL_undo_r1 : List Cond := [Cond.classLink RL 14 "java/lang/IllegalArgumentException", Cond.classLink RL 17 "java/lang/IllegalStateException", Cond.constant RL 16 (-99999), Cond.methodLink RL 27 yX3_undo, Cond.instanceMethod yX3_undo, Cond.selects RX3 yX3_undo yX3_undo, Cond.initialized RX3, Cond.code yX3_undo cX3_undo 4 (some .int), Cond.classLink RX3 54 "java/lang/IllegalStateException", Cond.initialized "java/lang/IllegalStateException", Cond.fieldLink RX3 10 "PageBail" "bailRow" "LPageBail$BailRow;", Cond.fieldLink RX3 77 "PageBail" "now" "I", Cond.fieldLink RX3 106 "PageBail$Bail" "forfeitDay" "I", Cond.methodLink RX3 31 yX3_requireCase, Cond.static yX3_requireCase, Cond.code yX3_requireCase cX3_requireCase 1 none, Cond.classLink RX3 39 "java/lang/IllegalArgumentException", Cond.initialized "java/lang/IllegalArgumentException", Cond.methodLink RX3 35 yX3_isIn, Cond.static yX3_isIn, Cond.code yX3_isIn cX3_isIn 3 (some .boolean), Cond.methodLink RX3 46 yX1_find, Cond.instanceMethod yX1_find, Cond.selects RX1 yX1_find yX1_find]
def wsL_undo_r2 : List Cond := [Cond.initialized RX1, Cond.code yX1_find cX1_find 2 (some (.object "PageBail$Bail")), Cond.methodLink RX1 35 yX1_placeOf, Cond.instanceMethod yX1_placeOf, Cond.selects RX1 yX1_placeOf yX1_placeOf, Cond.code yX1_placeOf cX1_placeOf 3 (some .int), Cond.methodLink RX1 32 yX1_countUpTo, Cond.instanceMethod yX1_countUpTo, Cond.selects RX1 yX1_countUpTo yX1_countUpTo, Cond.code yX1_countUpTo cX1_countUpTo 3 (some .int), Cond.fieldLink RX1 17 "PageBail$BailRow" "count" "I", Cond.methodLink RX1 28 yX1_numberAt, Cond.instanceMethod yX1_numberAt, Cond.selects RX1 yX1_numberAt yX1_numberAt, Cond.code yX1_numberAt cX1_numberAt 3 (some .int), Cond.fieldLink RX1 25 "PageBail$Bail" "number" "I", Cond.methodLink RX1 21 yX1_bailAt, Cond.instanceMethod yX1_bailAt, Cond.selects RX1 yX1_bailAt yX1_bailAt, Cond.code yX1_bailAt cX1_bailAt 2 (some (.object "PageBail$Bail")), Cond.fieldLink RX1 11 "PageBail$BailRow" "bails" "[LPageBail$Bail;", Cond.methodLink RX3 88 yX0_hasForfeitDay, Cond.instanceMethod yX0_hasForfeitDay, Cond.selects RX0 yX0_hasForfeitDay yX0_hasForfeitDay]
def wsL_undo_r3 : List Cond := [Cond.initialized RX0, Cond.code yX0_hasForfeitDay cX0_hasForfeitDay 1 (some .boolean), Cond.fieldLink RX0 24 "PageBail$Bail" "forfeitDay" "I"]
def wsL_undo : List Cond := .codeWith yL_undo cL_undo 3 (some .int) [(0, 5, 6, 14), (0, 5, 10, 17)] :: ((wsL_undo_r1 ++ (wsL_undo_r2 ++ wsL_undo_r3)) ++ wsX30 ++ wsX00 ++ wsX10 ++ (vx_atS RX3 58 "java/lang/IllegalStateException" ["java/lang/RuntimeException", "java/lang/Exception"]).filter goodWord ++ (vx_atS RX3 43 "java/lang/IllegalArgumentException" ["java/lang/RuntimeException", "java/lang/Exception"]).filter goodWord)
def wsL_amnesty_r1 : List Cond := [Cond.classLink RL 14 "java/lang/IllegalArgumentException", Cond.constant RL 16 (-99999), Cond.methodLink RL 30 yX3_amnesty, Cond.instanceMethod yX3_amnesty, Cond.selects RX3 yX3_amnesty yX3_amnesty, Cond.initialized RX3, Cond.code yX3_amnesty cX3_amnesty 7 (some .int), Cond.classLink RX3 39 "java/lang/IllegalArgumentException", Cond.initialized "java/lang/IllegalArgumentException", Cond.fieldLink RX3 77 "PageBail" "now" "I", Cond.fieldLink RX3 10 "PageBail" "bailRow" "LPageBail$BailRow;", Cond.fieldLink RX3 94 "PageBail" "paidInAll" "I", Cond.fieldLink RX3 97 "PageBail$Bail" "sum" "I", Cond.methodLink RX3 35 yX3_isIn, Cond.static yX3_isIn, Cond.code yX3_isIn cX3_isIn 3 (some .boolean), Cond.methodLink RX3 50 yX1_count, Cond.instanceMethod yX1_count, Cond.selects RX1 yX1_count yX1_count, Cond.initialized RX1, Cond.code yX1_count cX1_count 1 (some .int), Cond.fieldLink RX1 17 "PageBail$BailRow" "count" "I", Cond.methodLink RX3 113 yX1_bailAt, Cond.instanceMethod yX1_bailAt]
def wsL_amnesty_r2 : List Cond := [Cond.selects RX1 yX1_bailAt yX1_bailAt, Cond.code yX1_bailAt cX1_bailAt 2 (some (.object "PageBail$Bail")), Cond.fieldLink RX1 11 "PageBail$BailRow" "bails" "[LPageBail$Bail;", Cond.methodLink RX3 116 yX0_isUnder, Cond.instanceMethod yX0_isUnder, Cond.selects RX0 yX0_isUnder yX0_isUnder, Cond.initialized RX0, Cond.code yX0_isUnder cX0_isUnder 3 (some .boolean), Cond.fieldLink RX0 15 "PageBail$Bail" "sum" "I", Cond.fieldLink RX0 21 "PageBail$Bail" "putDay" "I", Cond.methodLink RX0 27 yX0_hasForfeitDay, Cond.instanceMethod yX0_hasForfeitDay, Cond.selects RX0 yX0_hasForfeitDay yX0_hasForfeitDay, Cond.code yX0_hasForfeitDay cX0_hasForfeitDay 1 (some .boolean), Cond.fieldLink RX0 24 "PageBail$Bail" "forfeitDay" "I", Cond.methodLink RX3 103 yX3_takeOut, Cond.instanceMethod yX3_takeOut, Cond.selects RX3 yX3_takeOut yX3_takeOut, Cond.code yX3_takeOut cX3_takeOut 2 none, Cond.fieldLink RX3 19 "PageBail" "pageRow" "LPageBail$PageRow;", Cond.fieldLink RX3 27 "PageBail" "sweptPage" "I", Cond.methodLink RX3 152 yX2_pageWith, Cond.instanceMethod yX2_pageWith, Cond.selects RX2 yX2_pageWith yX2_pageWith]
def wsL_amnesty_r3 : List Cond := [Cond.initialized RX2, Cond.code yX2_pageWith cX2_pageWith 4 (some .int), Cond.fieldLink RX2 15 "PageBail$PageRow" "count" "I", Cond.methodLink RX2 23 yX2_sizeOf, Cond.instanceMethod yX2_sizeOf, Cond.selects RX2 yX2_sizeOf yX2_sizeOf, Cond.code yX2_sizeOf cX2_sizeOf 2 (some .int), Cond.fieldLink RX2 9 "PageBail$PageRow" "sizes" "[I", Cond.methodLink RX2 19 yX2_has, Cond.instanceMethod yX2_has, Cond.selects RX2 yX2_has yX2_has, Cond.code yX2_has cX2_has 2 (some .boolean), Cond.methodLink RX3 174 yX2_takeFrom, Cond.instanceMethod yX2_takeFrom, Cond.selects RX2 yX2_takeFrom yX2_takeFrom, Cond.code yX2_takeFrom cX2_takeFrom 2 none, Cond.methodLink RX2 27 yX2_remove, Cond.instanceMethod yX2_remove, Cond.selects RX2 yX2_remove yX2_remove, Cond.code yX2_remove cX2_remove 3 none, Cond.methodLink RX2 31 yX2_borrowOrJoin, Cond.instanceMethod yX2_borrowOrJoin, Cond.selects RX2 yX2_borrowOrJoin yX2_borrowOrJoin, Cond.code yX2_borrowOrJoin cX2_borrowOrJoin 2 none]
def wsL_amnesty_r4 : List Cond := [Cond.methodLink RX2 34 yX2_move, Cond.instanceMethod yX2_move, Cond.selects RX2 yX2_move yX2_move, Cond.code yX2_move cX2_move 3 none, Cond.methodLink RX3 177 yX1_remove, Cond.instanceMethod yX1_remove, Cond.selects RX1 yX1_remove yX1_remove, Cond.code yX1_remove cX1_remove 3 none, Cond.methodLink RX1 21 yX1_bailAt, Cond.methodLink RX3 87 yX2_count, Cond.instanceMethod yX2_count, Cond.selects RX2 yX2_count yX2_count, Cond.code yX2_count cX2_count 1 (some .int)]
def wsL_amnesty : List Cond := .codeWith yL_amnesty cL_amnesty 4 (some .int) [(0, 6, 7, 14)] :: ((wsL_amnesty_r1 ++ (wsL_amnesty_r2 ++ (wsL_amnesty_r3 ++ wsL_amnesty_r4))) ++ wsX30 ++ wsX00 ++ wsX10 ++ wsX20 ++ (vx_atS RX3 43 "java/lang/IllegalArgumentException" ["java/lang/RuntimeException", "java/lang/Exception"]).filter goodWord)
def wsL_pass_r1 : List Cond := [Cond.classLink RL 14 "java/lang/IllegalArgumentException", Cond.classLink RL 17 "java/lang/IllegalStateException", Cond.constant RL 16 (-99999), Cond.methodLink RL 34 yX3_pass, Cond.instanceMethod yX3_pass, Cond.selects RX3 yX3_pass yX3_pass, Cond.initialized RX3, Cond.code yX3_pass cX3_pass 4 (some .int), Cond.classLink RX3 39 "java/lang/IllegalArgumentException", Cond.initialized "java/lang/IllegalArgumentException", Cond.classLink RX3 54 "java/lang/IllegalStateException", Cond.initialized "java/lang/IllegalStateException", Cond.fieldLink RX3 77 "PageBail" "now" "I", Cond.methodLink RX3 35 yX3_isIn, Cond.static yX3_isIn, Cond.code yX3_isIn cX3_isIn 3 (some .boolean), Cond.methodLink RX3 132 yX3_keepOverdue, Cond.instanceMethod yX3_keepOverdue, Cond.selects RX3 yX3_keepOverdue yX3_keepOverdue, Cond.code yX3_keepOverdue cX3_keepOverdue 5 (some .int), Cond.fieldLink RX3 10 "PageBail" "bailRow" "LPageBail$BailRow;", Cond.fieldLink RX3 125 "PageBail" "keptInAll" "I", Cond.fieldLink RX3 97 "PageBail$Bail" "sum" "I", Cond.methodLink RX3 50 yX1_count]
def wsL_pass_r2 : List Cond := [Cond.instanceMethod yX1_count, Cond.selects RX1 yX1_count yX1_count, Cond.initialized RX1, Cond.code yX1_count cX1_count 1 (some .int), Cond.fieldLink RX1 17 "PageBail$BailRow" "count" "I", Cond.methodLink RX3 113 yX1_bailAt, Cond.instanceMethod yX1_bailAt, Cond.selects RX1 yX1_bailAt yX1_bailAt, Cond.code yX1_bailAt cX1_bailAt 2 (some (.object "PageBail$Bail")), Cond.fieldLink RX1 11 "PageBail$BailRow" "bails" "[LPageBail$Bail;", Cond.methodLink RX3 180 yX0_isOverdue, Cond.instanceMethod yX0_isOverdue, Cond.selects RX0 yX0_isOverdue yX0_isOverdue, Cond.initialized RX0, Cond.code yX0_isOverdue cX0_isOverdue 2 (some .boolean), Cond.fieldLink RX0 24 "PageBail$Bail" "forfeitDay" "I", Cond.methodLink RX0 27 yX0_hasForfeitDay, Cond.instanceMethod yX0_hasForfeitDay, Cond.selects RX0 yX0_hasForfeitDay yX0_hasForfeitDay, Cond.code yX0_hasForfeitDay cX0_hasForfeitDay 1 (some .boolean), Cond.methodLink RX3 103 yX3_takeOut, Cond.instanceMethod yX3_takeOut, Cond.selects RX3 yX3_takeOut yX3_takeOut, Cond.code yX3_takeOut cX3_takeOut 2 none]
def wsL_pass_r3 : List Cond := [Cond.fieldLink RX3 19 "PageBail" "pageRow" "LPageBail$PageRow;", Cond.fieldLink RX3 27 "PageBail" "sweptPage" "I", Cond.methodLink RX3 152 yX2_pageWith, Cond.instanceMethod yX2_pageWith, Cond.selects RX2 yX2_pageWith yX2_pageWith, Cond.initialized RX2, Cond.code yX2_pageWith cX2_pageWith 4 (some .int), Cond.fieldLink RX2 15 "PageBail$PageRow" "count" "I", Cond.methodLink RX2 23 yX2_sizeOf, Cond.instanceMethod yX2_sizeOf, Cond.selects RX2 yX2_sizeOf yX2_sizeOf, Cond.code yX2_sizeOf cX2_sizeOf 2 (some .int), Cond.fieldLink RX2 9 "PageBail$PageRow" "sizes" "[I", Cond.methodLink RX2 19 yX2_has, Cond.instanceMethod yX2_has, Cond.selects RX2 yX2_has yX2_has, Cond.code yX2_has cX2_has 2 (some .boolean), Cond.methodLink RX3 174 yX2_takeFrom, Cond.instanceMethod yX2_takeFrom, Cond.selects RX2 yX2_takeFrom yX2_takeFrom, Cond.code yX2_takeFrom cX2_takeFrom 2 none, Cond.methodLink RX2 27 yX2_remove, Cond.instanceMethod yX2_remove, Cond.selects RX2 yX2_remove yX2_remove]
def wsL_pass_r4 : List Cond := [Cond.code yX2_remove cX2_remove 3 none, Cond.methodLink RX2 31 yX2_borrowOrJoin, Cond.instanceMethod yX2_borrowOrJoin, Cond.selects RX2 yX2_borrowOrJoin yX2_borrowOrJoin, Cond.code yX2_borrowOrJoin cX2_borrowOrJoin 2 none, Cond.methodLink RX2 34 yX2_move, Cond.instanceMethod yX2_move, Cond.selects RX2 yX2_move yX2_move, Cond.code yX2_move cX2_move 3 none, Cond.methodLink RX3 177 yX1_remove, Cond.instanceMethod yX1_remove, Cond.selects RX1 yX1_remove yX1_remove, Cond.code yX1_remove cX1_remove 3 none, Cond.methodLink RX1 21 yX1_bailAt, Cond.methodLink RX3 87 yX2_count, Cond.instanceMethod yX2_count, Cond.selects RX2 yX2_count yX2_count, Cond.code yX2_count cX2_count 1 (some .int)]
def wsL_pass : List Cond := .codeWith yL_pass cL_pass 3 (some .int) [(0, 5, 6, 14), (0, 5, 10, 17)] :: ((wsL_pass_r1 ++ (wsL_pass_r2 ++ (wsL_pass_r3 ++ wsL_pass_r4))) ++ wsX30 ++ wsX00 ++ wsX10 ++ wsX20 ++ (vx_atS RX3 43 "java/lang/IllegalArgumentException" ["java/lang/RuntimeException", "java/lang/Exception"]).filter goodWord ++ (vx_atS RX3 58 "java/lang/IllegalStateException" ["java/lang/RuntimeException", "java/lang/Exception"]).filter goodWord)
def wsL_sweep : List Cond := .codeWith yL_sweep cL_sweep 2 (some .int) [(0, 5, 6, 17)] :: ([.classLink RL 17 "java/lang/IllegalStateException", .constant RL 16 (-99999), .methodLink RL 37 yX3_sweep, .instanceMethod yX3_sweep, .selects RX3 yX3_sweep yX3_sweep, .initialized RX3, .code yX3_sweep cX3_sweep 1 none, .classLink RX3 54 "java/lang/IllegalStateException", .initialized "java/lang/IllegalStateException", .fieldLink RX3 27 "PageBail" "sweptPage" "I"] ++ wsX30 ++ (vx_atS RX3 58 "java/lang/IllegalStateException" ["java/lang/RuntimeException", "java/lang/Exception"]).filter goodWord)
def wsL_step_r1 : List Cond := [Cond.classLink RL 14 "java/lang/IllegalArgumentException", Cond.classLink RL 17 "java/lang/IllegalStateException", Cond.constant RL 16 (-99999), Cond.methodLink RL 40 yX3_step, Cond.instanceMethod yX3_step, Cond.selects RX3 yX3_step yX3_step, Cond.initialized RX3, Cond.code yX3_step cX3_step 4 (some .int), Cond.classLink RX3 39 "java/lang/IllegalArgumentException", Cond.initialized "java/lang/IllegalArgumentException", Cond.classLink RX3 54 "java/lang/IllegalStateException", Cond.initialized "java/lang/IllegalStateException", Cond.fieldLink RX3 27 "PageBail" "sweptPage" "I", Cond.methodLink RX3 35 yX3_isIn, Cond.static yX3_isIn, Cond.code yX3_isIn cX3_isIn 3 (some .boolean), Cond.methodLink RX3 161 yX3_sweepOn, Cond.instanceMethod yX3_sweepOn, Cond.selects RX3 yX3_sweepOn yX3_sweepOn, Cond.code yX3_sweepOn cX3_sweepOn 1 (some .int), Cond.fieldLink RX3 19 "PageBail" "pageRow" "LPageBail$PageRow;", Cond.methodLink RX3 135 yX2_has, Cond.instanceMethod yX2_has, Cond.selects RX2 yX2_has yX2_has]
def wsL_step_r2 : List Cond := [Cond.initialized RX2, Cond.code yX2_has cX2_has 2 (some .boolean), Cond.fieldLink RX2 15 "PageBail$PageRow" "count" "I", Cond.fieldLink RX2 9 "PageBail$PageRow" "sizes" "[I", Cond.methodLink RX3 66 yX2_sizeOf, Cond.instanceMethod yX2_sizeOf, Cond.selects RX2 yX2_sizeOf yX2_sizeOf, Cond.code yX2_sizeOf cX2_sizeOf 2 (some .int), Cond.methodLink RX2 19 yX2_has, Cond.methodLink RX3 183 yX2_move, Cond.instanceMethod yX2_move, Cond.selects RX2 yX2_move yX2_move, Cond.code yX2_move cX2_move 3 none, Cond.methodLink RX2 27 yX2_remove, Cond.instanceMethod yX2_remove, Cond.selects RX2 yX2_remove yX2_remove, Cond.code yX2_remove cX2_remove 3 none]
def wsL_step : List Cond := .codeWith yL_step cL_step 3 (some .int) [(0, 5, 6, 14), (0, 5, 10, 17)] :: ((wsL_step_r1 ++ wsL_step_r2) ++ wsX30 ++ wsX20 ++ (vx_atS RX3 43 "java/lang/IllegalArgumentException" ["java/lang/RuntimeException", "java/lang/Exception"]).filter goodWord ++ (vx_atS RX3 58 "java/lang/IllegalStateException" ["java/lang/RuntimeException", "java/lang/Exception"]).filter goodWord)
def wsL_walk_r1 : List Cond := [Cond.classLink RL 14 "java/lang/IllegalArgumentException", Cond.constant RL 16 (-99999), Cond.methodLink RL 43 yX3_walk, Cond.instanceMethod yX3_walk, Cond.selects RX3 yX3_walk yX3_walk, Cond.initialized RX3, Cond.code yX3_walk cX3_walk 2 (some .int), Cond.classLink RX3 39 "java/lang/IllegalArgumentException", Cond.initialized "java/lang/IllegalArgumentException", Cond.fieldLink RX3 23 "PageBail" "lastRead" "[I", Cond.fieldLink RX3 10 "PageBail" "bailRow" "LPageBail$BailRow;", Cond.methodLink RX3 35 yX3_isIn, Cond.static yX3_isIn, Cond.code yX3_isIn cX3_isIn 3 (some .boolean), Cond.methodLink RX3 59 yX1_countUpTo, Cond.instanceMethod yX1_countUpTo, Cond.selects RX1 yX1_countUpTo yX1_countUpTo, Cond.initialized RX1, Cond.code yX1_countUpTo cX1_countUpTo 3 (some .int), Cond.fieldLink RX1 17 "PageBail$BailRow" "count" "I", Cond.methodLink RX1 28 yX1_numberAt, Cond.instanceMethod yX1_numberAt, Cond.selects RX1 yX1_numberAt yX1_numberAt, Cond.code yX1_numberAt cX1_numberAt 3 (some .int)]
def wsL_walk_r2 : List Cond := [Cond.fieldLink RX1 25 "PageBail$Bail" "number" "I", Cond.methodLink RX1 21 yX1_bailAt, Cond.instanceMethod yX1_bailAt, Cond.selects RX1 yX1_bailAt yX1_bailAt, Cond.code yX1_bailAt cX1_bailAt 2 (some (.object "PageBail$Bail")), Cond.fieldLink RX1 11 "PageBail$BailRow" "bails" "[LPageBail$Bail;", Cond.methodLink RX3 149 yX1_numberAt]
def wsL_walk : List Cond := .codeWith yL_walk cL_walk 3 (some .int) [(0, 5, 6, 14)] :: ((wsL_walk_r1 ++ wsL_walk_r2) ++ wsX30 ++ wsX10 ++ wsX00 ++ (vx_atS RX3 43 "java/lang/IllegalArgumentException" ["java/lang/RuntimeException", "java/lang/Exception"]).filter goodWord)
def wsL_number_r1 : List Cond := [Cond.methodLink RL 46 yX3_pages, Cond.instanceMethod yX3_pages, Cond.selects RX3 yX3_pages yX3_pages, Cond.initialized RX3, Cond.code yX3_pages cX3_pages 1 (some .int), Cond.fieldLink RX3 19 "PageBail" "pageRow" "LPageBail$PageRow;", Cond.methodLink RX3 87 yX2_count, Cond.instanceMethod yX2_count, Cond.selects RX2 yX2_count yX2_count, Cond.initialized RX2, Cond.code yX2_count cX2_count 1 (some .int), Cond.fieldLink RX2 15 "PageBail$PageRow" "count" "I", Cond.methodLink RL 50 yL_low, Cond.static yL_low, Cond.initialized RL, Cond.code yL_low cL_low 2 (some .int), Cond.constant RL 7 (2147483647), Cond.methodLink RL 55 yX3_size, Cond.instanceMethod yX3_size, Cond.selects RX3 yX3_size yX3_size, Cond.code yX3_size cX3_size 2 (some .int), Cond.classLink RX3 139 "java/lang/IndexOutOfBoundsException", Cond.initialized "java/lang/IndexOutOfBoundsException", Cond.methodLink RX3 135 yX2_has]
def wsL_number_r2 : List Cond := [Cond.instanceMethod yX2_has, Cond.selects RX2 yX2_has yX2_has, Cond.code yX2_has cX2_has 2 (some .boolean), Cond.fieldLink RX2 9 "PageBail$PageRow" "sizes" "[I", Cond.methodLink RX3 66 yX2_sizeOf, Cond.instanceMethod yX2_sizeOf, Cond.selects RX2 yX2_sizeOf yX2_sizeOf, Cond.code yX2_sizeOf cX2_sizeOf 2 (some .int), Cond.methodLink RX2 19 yX2_has, Cond.methodLink RL 58 yX3_at, Cond.instanceMethod yX3_at, Cond.selects RX3 yX3_at yX3_at, Cond.code yX3_at cX3_at 3 (some .int), Cond.fieldLink RX3 10 "PageBail" "bailRow" "LPageBail$BailRow;", Cond.methodLink RX3 35 yX3_isIn, Cond.static yX3_isIn, Cond.code yX3_isIn cX3_isIn 3 (some .boolean), Cond.methodLink RX3 146 yX2_beginOf, Cond.instanceMethod yX2_beginOf, Cond.selects RX2 yX2_beginOf yX2_beginOf, Cond.code yX2_beginOf cX2_beginOf 4 (some .int), Cond.methodLink RX2 23 yX2_sizeOf, Cond.methodLink RX3 149 yX1_numberAt, Cond.instanceMethod yX1_numberAt]
def wsL_number_r3 : List Cond := [Cond.selects RX1 yX1_numberAt yX1_numberAt, Cond.initialized RX1, Cond.code yX1_numberAt cX1_numberAt 3 (some .int), Cond.fieldLink RX1 25 "PageBail$Bail" "number" "I", Cond.methodLink RX1 21 yX1_bailAt, Cond.instanceMethod yX1_bailAt, Cond.selects RX1 yX1_bailAt yX1_bailAt, Cond.code yX1_bailAt cX1_bailAt 2 (some (.object "PageBail$Bail")), Cond.fieldLink RX1 17 "PageBail$BailRow" "count" "I", Cond.fieldLink RX1 11 "PageBail$BailRow" "bails" "[LPageBail$Bail;"]
def wsL_number : List Cond := .code yL_number cL_number 4 (some .int) :: ((wsL_number_r1 ++ (wsL_number_r2 ++ wsL_number_r3)) ++ wsX30 ++ wsX20 ++ wsX00 ++ wsX10 ++ (vx_atS RX3 143 "java/lang/IndexOutOfBoundsException" ["java/lang/RuntimeException", "java/lang/Exception"]).filter goodWord)
def wsL_act_r1 : List Cond := [Cond.methodLink RL 50 yL_low, Cond.static yL_low, Cond.initialized RL, Cond.code yL_low cL_low 2 (some .int), Cond.constant RL 7 (2147483647), Cond.methodLink RL 61 yL_number, Cond.static yL_number, Cond.code yL_number cL_number 4 (some .int), Cond.methodLink RL 46 yX3_pages, Cond.instanceMethod yX3_pages, Cond.selects RX3 yX3_pages yX3_pages, Cond.initialized RX3, Cond.code yX3_pages cX3_pages 1 (some .int), Cond.fieldLink RX3 19 "PageBail" "pageRow" "LPageBail$PageRow;", Cond.methodLink RX3 87 yX2_count, Cond.instanceMethod yX2_count, Cond.selects RX2 yX2_count yX2_count, Cond.initialized RX2, Cond.code yX2_count cX2_count 1 (some .int), Cond.fieldLink RX2 15 "PageBail$PageRow" "count" "I", Cond.methodLink RL 55 yX3_size, Cond.instanceMethod yX3_size, Cond.selects RX3 yX3_size yX3_size, Cond.code yX3_size cX3_size 2 (some .int)]
def wsL_act_r2 : List Cond := [Cond.classLink RX3 139 "java/lang/IndexOutOfBoundsException", Cond.initialized "java/lang/IndexOutOfBoundsException", Cond.methodLink RX3 135 yX2_has, Cond.instanceMethod yX2_has, Cond.selects RX2 yX2_has yX2_has, Cond.code yX2_has cX2_has 2 (some .boolean), Cond.fieldLink RX2 9 "PageBail$PageRow" "sizes" "[I", Cond.methodLink RX3 66 yX2_sizeOf, Cond.instanceMethod yX2_sizeOf, Cond.selects RX2 yX2_sizeOf yX2_sizeOf, Cond.code yX2_sizeOf cX2_sizeOf 2 (some .int), Cond.methodLink RX2 19 yX2_has, Cond.methodLink RL 58 yX3_at, Cond.instanceMethod yX3_at, Cond.selects RX3 yX3_at yX3_at, Cond.code yX3_at cX3_at 3 (some .int), Cond.fieldLink RX3 10 "PageBail" "bailRow" "LPageBail$BailRow;", Cond.methodLink RX3 35 yX3_isIn, Cond.static yX3_isIn, Cond.code yX3_isIn cX3_isIn 3 (some .boolean), Cond.methodLink RX3 146 yX2_beginOf, Cond.instanceMethod yX2_beginOf, Cond.selects RX2 yX2_beginOf yX2_beginOf, Cond.code yX2_beginOf cX2_beginOf 4 (some .int)]
def wsL_act_r3 : List Cond := [Cond.methodLink RX2 23 yX2_sizeOf, Cond.methodLink RX3 149 yX1_numberAt, Cond.instanceMethod yX1_numberAt, Cond.selects RX1 yX1_numberAt yX1_numberAt, Cond.initialized RX1, Cond.code yX1_numberAt cX1_numberAt 3 (some .int), Cond.fieldLink RX1 25 "PageBail$Bail" "number" "I", Cond.methodLink RX1 21 yX1_bailAt, Cond.instanceMethod yX1_bailAt, Cond.selects RX1 yX1_bailAt yX1_bailAt, Cond.code yX1_bailAt cX1_bailAt 2 (some (.object "PageBail$Bail")), Cond.fieldLink RX1 17 "PageBail$BailRow" "count" "I", Cond.fieldLink RX1 11 "PageBail$BailRow" "bails" "[LPageBail$Bail;", Cond.methodLink RL 65 yL_payBack, Cond.static yL_payBack, Cond.codeWith yL_payBack cL_payBack 3 (some .int) [(0, 5, 6, 14), (0, 5, 10, 17)], Cond.classLink RL 14 "java/lang/IllegalArgumentException", Cond.classLink RL 17 "java/lang/IllegalStateException", Cond.constant RL 16 (-99999), Cond.methodLink RL 19 yX3_payBack, Cond.instanceMethod yX3_payBack, Cond.selects RX3 yX3_payBack yX3_payBack, Cond.code yX3_payBack cX3_payBack 3 (some .int), Cond.classLink RX3 54 "java/lang/IllegalStateException"]
def wsL_act_r4 : List Cond := [Cond.initialized "java/lang/IllegalStateException", Cond.fieldLink RX3 94 "PageBail" "paidInAll" "I", Cond.fieldLink RX3 97 "PageBail$Bail" "sum" "I", Cond.methodLink RX3 31 yX3_requireCase, Cond.static yX3_requireCase, Cond.code yX3_requireCase cX3_requireCase 1 none, Cond.classLink RX3 39 "java/lang/IllegalArgumentException", Cond.initialized "java/lang/IllegalArgumentException", Cond.methodLink RX3 46 yX1_find, Cond.instanceMethod yX1_find, Cond.selects RX1 yX1_find yX1_find, Cond.code yX1_find cX1_find 2 (some (.object "PageBail$Bail")), Cond.methodLink RX1 35 yX1_placeOf, Cond.instanceMethod yX1_placeOf, Cond.selects RX1 yX1_placeOf yX1_placeOf, Cond.code yX1_placeOf cX1_placeOf 3 (some .int), Cond.methodLink RX1 32 yX1_countUpTo, Cond.instanceMethod yX1_countUpTo, Cond.selects RX1 yX1_countUpTo yX1_countUpTo, Cond.code yX1_countUpTo cX1_countUpTo 3 (some .int), Cond.methodLink RX1 28 yX1_numberAt, Cond.methodLink RX3 88 yX0_hasForfeitDay, Cond.instanceMethod yX0_hasForfeitDay, Cond.selects RX0 yX0_hasForfeitDay yX0_hasForfeitDay]
def wsL_act_r5 : List Cond := [Cond.initialized RX0, Cond.code yX0_hasForfeitDay cX0_hasForfeitDay 1 (some .boolean), Cond.fieldLink RX0 24 "PageBail$Bail" "forfeitDay" "I", Cond.methodLink RX3 100 yX1_placeOf, Cond.methodLink RX3 103 yX3_takeOut, Cond.instanceMethod yX3_takeOut, Cond.selects RX3 yX3_takeOut yX3_takeOut, Cond.code yX3_takeOut cX3_takeOut 2 none, Cond.fieldLink RX3 27 "PageBail" "sweptPage" "I", Cond.methodLink RX3 152 yX2_pageWith, Cond.instanceMethod yX2_pageWith, Cond.selects RX2 yX2_pageWith yX2_pageWith, Cond.code yX2_pageWith cX2_pageWith 4 (some .int), Cond.methodLink RX3 174 yX2_takeFrom, Cond.instanceMethod yX2_takeFrom, Cond.selects RX2 yX2_takeFrom yX2_takeFrom, Cond.code yX2_takeFrom cX2_takeFrom 2 none, Cond.methodLink RX2 27 yX2_remove, Cond.instanceMethod yX2_remove, Cond.selects RX2 yX2_remove yX2_remove, Cond.code yX2_remove cX2_remove 3 none, Cond.methodLink RX2 31 yX2_borrowOrJoin, Cond.instanceMethod yX2_borrowOrJoin, Cond.selects RX2 yX2_borrowOrJoin yX2_borrowOrJoin]
def wsL_act_r6 : List Cond := [Cond.code yX2_borrowOrJoin cX2_borrowOrJoin 2 none, Cond.methodLink RX2 34 yX2_move, Cond.instanceMethod yX2_move, Cond.selects RX2 yX2_move yX2_move, Cond.code yX2_move cX2_move 3 none, Cond.methodLink RX3 177 yX1_remove, Cond.instanceMethod yX1_remove, Cond.selects RX1 yX1_remove yX1_remove, Cond.code yX1_remove cX1_remove 3 none, Cond.methodLink RL 68 yL_forfeit, Cond.static yL_forfeit, Cond.codeWith yL_forfeit cL_forfeit 3 (some .int) [(0, 6, 7, 14), (0, 6, 11, 17)], Cond.methodLink RL 23 yX3_forfeit, Cond.instanceMethod yX3_forfeit, Cond.selects RX3 yX3_forfeit yX3_forfeit, Cond.code yX3_forfeit cX3_forfeit 3 none, Cond.fieldLink RX3 77 "PageBail" "now" "I", Cond.fieldLink RX3 106 "PageBail$Bail" "forfeitDay" "I", Cond.methodLink RL 70 yL_undo, Cond.static yL_undo, Cond.codeWith yL_undo cL_undo 3 (some .int) [(0, 5, 6, 14), (0, 5, 10, 17)], Cond.methodLink RL 27 yX3_undo, Cond.instanceMethod yX3_undo, Cond.selects RX3 yX3_undo yX3_undo]
def wsL_act_r7 : List Cond := [Cond.code yX3_undo cX3_undo 4 (some .int), Cond.methodLink RL 72 yX3_today, Cond.instanceMethod yX3_today, Cond.selects RX3 yX3_today yX3_today, Cond.code yX3_today cX3_today 1 (some .int), Cond.methodLink RL 75 yL_amnesty, Cond.static yL_amnesty, Cond.codeWith yL_amnesty cL_amnesty 4 (some .int) [(0, 6, 7, 14)], Cond.methodLink RL 30 yX3_amnesty, Cond.instanceMethod yX3_amnesty, Cond.selects RX3 yX3_amnesty yX3_amnesty, Cond.code yX3_amnesty cX3_amnesty 7 (some .int), Cond.methodLink RX3 50 yX1_count, Cond.instanceMethod yX1_count, Cond.selects RX1 yX1_count yX1_count, Cond.code yX1_count cX1_count 1 (some .int), Cond.methodLink RX3 113 yX1_bailAt, Cond.methodLink RX3 116 yX0_isUnder, Cond.instanceMethod yX0_isUnder, Cond.selects RX0 yX0_isUnder yX0_isUnder, Cond.code yX0_isUnder cX0_isUnder 3 (some .boolean), Cond.fieldLink RX0 15 "PageBail$Bail" "sum" "I", Cond.fieldLink RX0 21 "PageBail$Bail" "putDay" "I", Cond.methodLink RX0 27 yX0_hasForfeitDay]
def wsL_act_r8 : List Cond := [Cond.methodLink RL 78 yL_pass, Cond.static yL_pass, Cond.codeWith yL_pass cL_pass 3 (some .int) [(0, 5, 6, 14), (0, 5, 10, 17)], Cond.methodLink RL 34 yX3_pass, Cond.instanceMethod yX3_pass, Cond.selects RX3 yX3_pass yX3_pass, Cond.code yX3_pass cX3_pass 4 (some .int), Cond.methodLink RX3 132 yX3_keepOverdue, Cond.instanceMethod yX3_keepOverdue, Cond.selects RX3 yX3_keepOverdue yX3_keepOverdue, Cond.code yX3_keepOverdue cX3_keepOverdue 5 (some .int), Cond.fieldLink RX3 125 "PageBail" "keptInAll" "I", Cond.methodLink RX3 180 yX0_isOverdue, Cond.instanceMethod yX0_isOverdue, Cond.selects RX0 yX0_isOverdue yX0_isOverdue, Cond.code yX0_isOverdue cX0_isOverdue 2 (some .boolean), Cond.methodLink RL 80 yL_sweep, Cond.static yL_sweep, Cond.codeWith yL_sweep cL_sweep 2 (some .int) [(0, 5, 6, 17)], Cond.methodLink RL 37 yX3_sweep, Cond.instanceMethod yX3_sweep, Cond.selects RX3 yX3_sweep yX3_sweep, Cond.code yX3_sweep cX3_sweep 1 none, Cond.methodLink RL 83 yL_step]
def wsL_act_r9 : List Cond := [Cond.static yL_step, Cond.codeWith yL_step cL_step 3 (some .int) [(0, 5, 6, 14), (0, 5, 10, 17)], Cond.methodLink RL 40 yX3_step, Cond.instanceMethod yX3_step, Cond.selects RX3 yX3_step yX3_step, Cond.code yX3_step cX3_step 4 (some .int), Cond.methodLink RX3 161 yX3_sweepOn, Cond.instanceMethod yX3_sweepOn, Cond.selects RX3 yX3_sweepOn yX3_sweepOn, Cond.code yX3_sweepOn cX3_sweepOn 1 (some .int), Cond.methodLink RX3 183 yX2_move, Cond.methodLink RL 85 yL_walk, Cond.static yL_walk, Cond.codeWith yL_walk cL_walk 3 (some .int) [(0, 5, 6, 14)], Cond.methodLink RL 43 yX3_walk, Cond.instanceMethod yX3_walk, Cond.selects RX3 yX3_walk yX3_walk, Cond.code yX3_walk cX3_walk 2 (some .int), Cond.fieldLink RX3 23 "PageBail" "lastRead" "[I", Cond.methodLink RX3 59 yX1_countUpTo, Cond.methodLink RL 87 yL_put, Cond.static yL_put, Cond.codeWith yL_put cL_put 5 (some .int) [(0, 7, 8, 14), (0, 7, 13, 17)], Cond.methodLink RL 8 yX3_put]
def wsL_act_r10 : List Cond := [Cond.instanceMethod yX3_put, Cond.selects RX3 yX3_put yX3_put, Cond.code yX3_put cX3_put 5 (some .int), Cond.classLink RX3 75 RX0, Cond.instantiable RX0 5, Cond.methodLink RX3 63 yX3_pageToPutOn, Cond.instanceMethod yX3_pageToPutOn, Cond.selects RX3 yX3_pageToPutOn yX3_pageToPutOn, Cond.code yX3_pageToPutOn cX3_pageToPutOn 2 (some .int), Cond.methodLink RX3 168 Lib.Math.max.name, Cond.static Lib.Math.max.name, Cond.initialized "java/lang/Math", Cond.code Lib.Math.max.name Lib.Math.max.code 2 (some .int), Cond.methodLink RX3 69 yX2_split, Cond.instanceMethod yX2_split, Cond.selects RX2 yX2_split yX2_split, Cond.code yX2_split cX2_split 3 none, Cond.methodLink RX3 72 yX2_addTo, Cond.instanceMethod yX2_addTo, Cond.selects RX2 yX2_addTo yX2_addTo, Cond.code yX2_addTo cX2_addTo 2 none, Cond.methodLink RX3 80 yX0_init, Cond.instanceMethod yX0_init, Cond.code yX0_init cX0_init 5 none]
def wsL_act_r11 : List Cond := [Cond.methodLink RX0 3 objectInit, Cond.instanceMethod objectInit, Cond.code objectInit ⟨#[0xb1]⟩ 1 none, Cond.fieldLink RX0 9 "PageBail$Bail" "number" "I", Cond.fieldLink RX0 18 "PageBail$Bail" "surety" "I", Cond.methodLink RX3 83 yX1_insert, Cond.instanceMethod yX1_insert, Cond.selects RX1 yX1_insert yX1_insert, Cond.code yX1_insert cX1_insert 4 none]
def wsL_act : List Cond := .code yL_act cL_act 3 (some .int) :: ((wsL_act_r1 ++ (wsL_act_r2 ++ (wsL_act_r3 ++ (wsL_act_r4 ++ (wsL_act_r5 ++ (wsL_act_r6 ++ (wsL_act_r7 ++ (wsL_act_r8 ++ (wsL_act_r9 ++ (wsL_act_r10 ++ wsL_act_r11)))))))))) ++ wsX30 ++ wsX20 ++ wsX00 ++ wsX10 ++ (vx_atS RX3 143 "java/lang/IndexOutOfBoundsException" ["java/lang/RuntimeException", "java/lang/Exception"]).filter goodWord ++ (vx_atS RX3 58 "java/lang/IllegalStateException" ["java/lang/RuntimeException", "java/lang/Exception"]).filter goodWord ++ (vx_atS RX3 43 "java/lang/IllegalArgumentException" ["java/lang/RuntimeException", "java/lang/Exception"]).filter goodWord)
def wsL_areAlike_r1 : List Cond := [Cond.methodLink RL 90 yX3_records, Cond.instanceMethod yX3_records, Cond.selects RX3 yX3_records yX3_records, Cond.initialized RX3, Cond.code yX3_records cX3_records 1 (some .int), Cond.fieldLink RX3 10 "PageBail" "bailRow" "LPageBail$BailRow;", Cond.methodLink RX3 50 yX1_count, Cond.instanceMethod yX1_count, Cond.selects RX1 yX1_count yX1_count, Cond.initialized RX1, Cond.code yX1_count cX1_count 1 (some .int), Cond.fieldLink RX1 17 "PageBail$BailRow" "count" "I", Cond.methodLink RL 46 yX3_pages, Cond.instanceMethod yX3_pages, Cond.selects RX3 yX3_pages yX3_pages, Cond.code yX3_pages cX3_pages 1 (some .int), Cond.fieldLink RX3 19 "PageBail" "pageRow" "LPageBail$PageRow;", Cond.methodLink RX3 87 yX2_count, Cond.instanceMethod yX2_count, Cond.selects RX2 yX2_count yX2_count, Cond.initialized RX2, Cond.code yX2_count cX2_count 1 (some .int), Cond.fieldLink RX2 15 "PageBail$PageRow" "count" "I", Cond.methodLink RL 93 yX3_kept]
def wsL_areAlike_r2 : List Cond := [Cond.instanceMethod yX3_kept, Cond.selects RX3 yX3_kept yX3_kept, Cond.code yX3_kept cX3_kept 1 (some .int), Cond.fieldLink RX3 125 "PageBail" "keptInAll" "I", Cond.methodLink RL 96 yX3_paidBack, Cond.instanceMethod yX3_paidBack, Cond.selects RX3 yX3_paidBack yX3_paidBack, Cond.code yX3_paidBack cX3_paidBack 1 (some .int), Cond.fieldLink RX3 94 "PageBail" "paidInAll" "I", Cond.methodLink RL 72 yX3_today, Cond.instanceMethod yX3_today, Cond.selects RX3 yX3_today yX3_today, Cond.code yX3_today cX3_today 1 (some .int), Cond.fieldLink RX3 77 "PageBail" "now" "I", Cond.methodLink RL 99 yX3_sweeping, Cond.instanceMethod yX3_sweeping, Cond.selects RX3 yX3_sweeping yX3_sweeping, Cond.code yX3_sweeping cX3_sweeping 1 (some .int), Cond.fieldLink RX3 27 "PageBail" "sweptPage" "I", Cond.methodLink RL 55 yX3_size, Cond.instanceMethod yX3_size, Cond.selects RX3 yX3_size yX3_size, Cond.code yX3_size cX3_size 2 (some .int), Cond.classLink RX3 139 "java/lang/IndexOutOfBoundsException"]
def wsL_areAlike_r3 : List Cond := [Cond.initialized "java/lang/IndexOutOfBoundsException", Cond.methodLink RX3 135 yX2_has, Cond.instanceMethod yX2_has, Cond.selects RX2 yX2_has yX2_has, Cond.code yX2_has cX2_has 2 (some .boolean), Cond.fieldLink RX2 9 "PageBail$PageRow" "sizes" "[I", Cond.methodLink RX3 66 yX2_sizeOf, Cond.instanceMethod yX2_sizeOf, Cond.selects RX2 yX2_sizeOf yX2_sizeOf, Cond.code yX2_sizeOf cX2_sizeOf 2 (some .int), Cond.methodLink RX2 19 yX2_has, Cond.methodLink RL 58 yX3_at, Cond.instanceMethod yX3_at, Cond.selects RX3 yX3_at yX3_at, Cond.code yX3_at cX3_at 3 (some .int), Cond.methodLink RX3 35 yX3_isIn, Cond.static yX3_isIn, Cond.code yX3_isIn cX3_isIn 3 (some .boolean), Cond.methodLink RX3 146 yX2_beginOf, Cond.instanceMethod yX2_beginOf, Cond.selects RX2 yX2_beginOf yX2_beginOf, Cond.code yX2_beginOf cX2_beginOf 4 (some .int), Cond.methodLink RX2 23 yX2_sizeOf, Cond.methodLink RX3 149 yX1_numberAt]
def wsL_areAlike_r4 : List Cond := [Cond.instanceMethod yX1_numberAt, Cond.selects RX1 yX1_numberAt yX1_numberAt, Cond.code yX1_numberAt cX1_numberAt 3 (some .int), Cond.fieldLink RX1 25 "PageBail$Bail" "number" "I", Cond.methodLink RX1 21 yX1_bailAt, Cond.instanceMethod yX1_bailAt, Cond.selects RX1 yX1_bailAt yX1_bailAt, Cond.code yX1_bailAt cX1_bailAt 2 (some (.object "PageBail$Bail")), Cond.fieldLink RX1 11 "PageBail$BailRow" "bails" "[LPageBail$Bail;"]
def wsL_areAlike : List Cond := .code yL_areAlike cL_areAlike 4 (some .boolean) :: ((wsL_areAlike_r1 ++ (wsL_areAlike_r2 ++ (wsL_areAlike_r3 ++ wsL_areAlike_r4))) ++ wsX30 ++ wsX10 ++ wsX20 ++ wsX00 ++ (vx_atS RX3 143 "java/lang/IndexOutOfBoundsException" ["java/lang/RuntimeException", "java/lang/Exception"]).filter goodWord)
def wsL_arePagesSo_r1 : List Cond := [Cond.methodLink RL 46 yX3_pages, Cond.instanceMethod yX3_pages, Cond.selects RX3 yX3_pages yX3_pages, Cond.initialized RX3, Cond.code yX3_pages cX3_pages 1 (some .int), Cond.fieldLink RX3 19 "PageBail" "pageRow" "LPageBail$PageRow;", Cond.methodLink RX3 87 yX2_count, Cond.instanceMethod yX2_count, Cond.selects RX2 yX2_count yX2_count, Cond.initialized RX2, Cond.code yX2_count cX2_count 1 (some .int), Cond.fieldLink RX2 15 "PageBail$PageRow" "count" "I", Cond.methodLink RL 55 yX3_size, Cond.instanceMethod yX3_size, Cond.selects RX3 yX3_size yX3_size, Cond.code yX3_size cX3_size 2 (some .int), Cond.classLink RX3 139 "java/lang/IndexOutOfBoundsException", Cond.initialized "java/lang/IndexOutOfBoundsException", Cond.methodLink RX3 135 yX2_has, Cond.instanceMethod yX2_has, Cond.selects RX2 yX2_has yX2_has, Cond.code yX2_has cX2_has 2 (some .boolean), Cond.fieldLink RX2 9 "PageBail$PageRow" "sizes" "[I", Cond.methodLink RX3 66 yX2_sizeOf]
def wsL_arePagesSo_r2 : List Cond := [Cond.instanceMethod yX2_sizeOf, Cond.selects RX2 yX2_sizeOf yX2_sizeOf, Cond.code yX2_sizeOf cX2_sizeOf 2 (some .int), Cond.methodLink RX2 19 yX2_has, Cond.methodLink RL 58 yX3_at, Cond.instanceMethod yX3_at, Cond.selects RX3 yX3_at yX3_at, Cond.code yX3_at cX3_at 3 (some .int), Cond.fieldLink RX3 10 "PageBail" "bailRow" "LPageBail$BailRow;", Cond.methodLink RX3 35 yX3_isIn, Cond.static yX3_isIn, Cond.code yX3_isIn cX3_isIn 3 (some .boolean), Cond.methodLink RX3 146 yX2_beginOf, Cond.instanceMethod yX2_beginOf, Cond.selects RX2 yX2_beginOf yX2_beginOf, Cond.code yX2_beginOf cX2_beginOf 4 (some .int), Cond.methodLink RX2 23 yX2_sizeOf, Cond.methodLink RX3 149 yX1_numberAt, Cond.instanceMethod yX1_numberAt, Cond.selects RX1 yX1_numberAt yX1_numberAt, Cond.initialized RX1, Cond.code yX1_numberAt cX1_numberAt 3 (some .int), Cond.fieldLink RX1 25 "PageBail$Bail" "number" "I", Cond.methodLink RX1 21 yX1_bailAt]
def wsL_arePagesSo_r3 : List Cond := [Cond.instanceMethod yX1_bailAt, Cond.selects RX1 yX1_bailAt yX1_bailAt, Cond.code yX1_bailAt cX1_bailAt 2 (some (.object "PageBail$Bail")), Cond.fieldLink RX1 17 "PageBail$BailRow" "count" "I", Cond.fieldLink RX1 11 "PageBail$BailRow" "bails" "[LPageBail$Bail;", Cond.methodLink RL 102 yX3_pageOf, Cond.instanceMethod yX3_pageOf, Cond.selects RX3 yX3_pageOf yX3_pageOf, Cond.code yX3_pageOf cX3_pageOf 2 (some .int), Cond.methodLink RX3 31 yX3_requireCase, Cond.static yX3_requireCase, Cond.code yX3_requireCase cX3_requireCase 1 none, Cond.classLink RX3 39 "java/lang/IllegalArgumentException", Cond.initialized "java/lang/IllegalArgumentException", Cond.methodLink RX3 100 yX1_placeOf, Cond.instanceMethod yX1_placeOf, Cond.selects RX1 yX1_placeOf yX1_placeOf, Cond.code yX1_placeOf cX1_placeOf 3 (some .int), Cond.methodLink RX1 32 yX1_countUpTo, Cond.instanceMethod yX1_countUpTo, Cond.selects RX1 yX1_countUpTo yX1_countUpTo, Cond.code yX1_countUpTo cX1_countUpTo 3 (some .int), Cond.methodLink RX1 28 yX1_numberAt, Cond.methodLink RX3 152 yX2_pageWith]
def wsL_arePagesSo_r4 : List Cond := [Cond.instanceMethod yX2_pageWith, Cond.selects RX2 yX2_pageWith yX2_pageWith, Cond.code yX2_pageWith cX2_pageWith 4 (some .int), Cond.methodLink RL 105 yX3_sum, Cond.instanceMethod yX3_sum, Cond.selects RX3 yX3_sum yX3_sum, Cond.code yX3_sum cX3_sum 3 (some .int), Cond.fieldLink RX3 97 "PageBail$Bail" "sum" "I", Cond.methodLink RX3 46 yX1_find, Cond.instanceMethod yX1_find, Cond.selects RX1 yX1_find yX1_find, Cond.code yX1_find cX1_find 2 (some (.object "PageBail$Bail")), Cond.methodLink RX1 35 yX1_placeOf, Cond.methodLink RL 108 yX3_heldBy, Cond.instanceMethod yX3_heldBy, Cond.selects RX3 yX3_heldBy yX3_heldBy, Cond.code yX3_heldBy cX3_heldBy 2 (some .int), Cond.methodLink RX3 122 yX1_sumOfSurety, Cond.instanceMethod yX1_sumOfSurety, Cond.selects RX1 yX1_sumOfSurety yX1_sumOfSurety, Cond.code yX1_sumOfSurety cX1_sumOfSurety 5 (some .int), Cond.fieldLink RX1 38 "PageBail$Bail" "surety" "I", Cond.fieldLink RX1 41 "PageBail$Bail" "sum" "I", Cond.methodLink RL 90 yX3_records]
def wsL_arePagesSo_r5 : List Cond := [Cond.instanceMethod yX3_records, Cond.selects RX3 yX3_records yX3_records, Cond.code yX3_records cX3_records 1 (some .int), Cond.methodLink RX3 50 yX1_count, Cond.instanceMethod yX1_count, Cond.selects RX1 yX1_count yX1_count, Cond.code yX1_count cX1_count 1 (some .int)]
def wsL_arePagesSo : List Cond := .code yL_arePagesSo cL_arePagesSo 9 (some .boolean) :: ((wsL_arePagesSo_r1 ++ (wsL_arePagesSo_r2 ++ (wsL_arePagesSo_r3 ++ (wsL_arePagesSo_r4 ++ wsL_arePagesSo_r5)))) ++ wsX30 ++ wsX20 ++ wsX00 ++ wsX10 ++ (vx_atS RX3 143 "java/lang/IndexOutOfBoundsException" ["java/lang/RuntimeException", "java/lang/Exception"]).filter goodWord ++ (vx_atS RX3 43 "java/lang/IllegalArgumentException" ["java/lang/RuntimeException", "java/lang/Exception"]).filter goodWord)
def wsL_isWalked_r1 : List Cond := [Cond.methodLink RL 43 yX3_walk, Cond.instanceMethod yX3_walk, Cond.selects RX3 yX3_walk yX3_walk, Cond.initialized RX3, Cond.code yX3_walk cX3_walk 2 (some .int), Cond.classLink RX3 39 "java/lang/IllegalArgumentException", Cond.initialized "java/lang/IllegalArgumentException", Cond.fieldLink RX3 23 "PageBail" "lastRead" "[I", Cond.fieldLink RX3 10 "PageBail" "bailRow" "LPageBail$BailRow;", Cond.methodLink RX3 35 yX3_isIn, Cond.static yX3_isIn, Cond.code yX3_isIn cX3_isIn 3 (some .boolean), Cond.methodLink RX3 59 yX1_countUpTo, Cond.instanceMethod yX1_countUpTo, Cond.selects RX1 yX1_countUpTo yX1_countUpTo, Cond.initialized RX1, Cond.code yX1_countUpTo cX1_countUpTo 3 (some .int), Cond.fieldLink RX1 17 "PageBail$BailRow" "count" "I", Cond.methodLink RX1 28 yX1_numberAt, Cond.instanceMethod yX1_numberAt, Cond.selects RX1 yX1_numberAt yX1_numberAt, Cond.code yX1_numberAt cX1_numberAt 3 (some .int), Cond.fieldLink RX1 25 "PageBail$Bail" "number" "I", Cond.methodLink RX1 21 yX1_bailAt]
def wsL_isWalked_r2 : List Cond := [Cond.instanceMethod yX1_bailAt, Cond.selects RX1 yX1_bailAt yX1_bailAt, Cond.code yX1_bailAt cX1_bailAt 2 (some (.object "PageBail$Bail")), Cond.fieldLink RX1 11 "PageBail$BailRow" "bails" "[LPageBail$Bail;", Cond.methodLink RX3 149 yX1_numberAt, Cond.methodLink RL 90 yX3_records, Cond.instanceMethod yX3_records, Cond.selects RX3 yX3_records yX3_records, Cond.code yX3_records cX3_records 1 (some .int), Cond.methodLink RX3 50 yX1_count, Cond.instanceMethod yX1_count, Cond.selects RX1 yX1_count yX1_count, Cond.code yX1_count cX1_count 1 (some .int), Cond.methodLink RL 102 yX3_pageOf, Cond.instanceMethod yX3_pageOf, Cond.selects RX3 yX3_pageOf yX3_pageOf, Cond.code yX3_pageOf cX3_pageOf 2 (some .int), Cond.fieldLink RX3 19 "PageBail" "pageRow" "LPageBail$PageRow;", Cond.methodLink RX3 31 yX3_requireCase, Cond.static yX3_requireCase, Cond.code yX3_requireCase cX3_requireCase 1 none, Cond.methodLink RX3 100 yX1_placeOf, Cond.instanceMethod yX1_placeOf, Cond.selects RX1 yX1_placeOf yX1_placeOf]
def wsL_isWalked_r3 : List Cond := [Cond.code yX1_placeOf cX1_placeOf 3 (some .int), Cond.methodLink RX1 32 yX1_countUpTo, Cond.methodLink RX3 152 yX2_pageWith, Cond.instanceMethod yX2_pageWith, Cond.selects RX2 yX2_pageWith yX2_pageWith, Cond.initialized RX2, Cond.code yX2_pageWith cX2_pageWith 4 (some .int), Cond.fieldLink RX2 15 "PageBail$PageRow" "count" "I", Cond.methodLink RX2 23 yX2_sizeOf, Cond.instanceMethod yX2_sizeOf, Cond.selects RX2 yX2_sizeOf yX2_sizeOf, Cond.code yX2_sizeOf cX2_sizeOf 2 (some .int), Cond.fieldLink RX2 9 "PageBail$PageRow" "sizes" "[I", Cond.methodLink RX2 19 yX2_has, Cond.instanceMethod yX2_has, Cond.selects RX2 yX2_has yX2_has, Cond.code yX2_has cX2_has 2 (some .boolean)]
def wsL_isWalked : List Cond := .code yL_isWalked cL_isWalked 7 (some .boolean) :: ((wsL_isWalked_r1 ++ (wsL_isWalked_r2 ++ wsL_isWalked_r3)) ++ wsX30 ++ wsX10 ++ wsX00 ++ wsX20 ++ (vx_atS RX3 43 "java/lang/IllegalArgumentException" ["java/lang/RuntimeException", "java/lang/Exception"]).filter goodWord)
def wsL_law0_r1 : List Cond := [Cond.classLink RL 9 RX3, Cond.instantiable RX3 7, Cond.initialized RX3, Cond.constant RL 16 (-99999), Cond.methodLink RL 111 yX3_init, Cond.instanceMethod yX3_init, Cond.code yX3_init cX3_init 1 none, Cond.methodLink RX3 1 objectInit, Cond.instanceMethod objectInit, Cond.code objectInit ⟨#[0xb1]⟩ 1 none, Cond.classLink RX3 7 RX1, Cond.instantiable RX1 2, Cond.initialized RX1, Cond.fieldLink RX3 10 "PageBail" "bailRow" "LPageBail$BailRow;", Cond.classLink RX3 16 RX2, Cond.instantiable RX2 2, Cond.initialized RX2, Cond.fieldLink RX3 19 "PageBail" "pageRow" "LPageBail$PageRow;", Cond.arrayClass .int, Cond.fieldLink RX3 23 "PageBail" "lastRead" "[I", Cond.fieldLink RX3 27 "PageBail" "sweptPage" "I", Cond.instanceMethod yX1_init, Cond.code yX1_init cX1_init 1 none, Cond.methodLink RX1 3 objectInit]
def wsL_law0_r2 : List Cond := [Cond.classLink RX1 9 RX0, Cond.fieldLink RX1 11 "PageBail$BailRow" "bails" "[LPageBail$Bail;", Cond.instanceMethod yX2_init, Cond.code yX2_init cX2_init 1 none, Cond.methodLink RX2 3 objectInit, Cond.fieldLink RX2 9 "PageBail$PageRow" "sizes" "[I", Cond.methodLink RL 112 yL_cell, Cond.static yL_cell, Cond.initialized RL, Cond.code yL_cell cL_cell 2 (some .int), Cond.methodLink RL 90 yX3_records, Cond.instanceMethod yX3_records, Cond.selects RX3 yX3_records yX3_records, Cond.code yX3_records cX3_records 1 (some .int), Cond.methodLink RX3 50 yX1_count, Cond.instanceMethod yX1_count, Cond.selects RX1 yX1_count yX1_count, Cond.code yX1_count cX1_count 1 (some .int), Cond.fieldLink RX1 17 "PageBail$BailRow" "count" "I", Cond.methodLink RL 116 yL_act, Cond.static yL_act, Cond.code yL_act cL_act 3 (some .int), Cond.methodLink RL 50 yL_low, Cond.static yL_low]
def wsL_law0_r3 : List Cond := [Cond.code yL_low cL_low 2 (some .int), Cond.constant RL 7 (2147483647), Cond.methodLink RL 61 yL_number, Cond.static yL_number, Cond.code yL_number cL_number 4 (some .int), Cond.methodLink RL 46 yX3_pages, Cond.instanceMethod yX3_pages, Cond.selects RX3 yX3_pages yX3_pages, Cond.code yX3_pages cX3_pages 1 (some .int), Cond.methodLink RX3 87 yX2_count, Cond.instanceMethod yX2_count, Cond.selects RX2 yX2_count yX2_count, Cond.code yX2_count cX2_count 1 (some .int), Cond.fieldLink RX2 15 "PageBail$PageRow" "count" "I", Cond.methodLink RL 55 yX3_size, Cond.instanceMethod yX3_size, Cond.selects RX3 yX3_size yX3_size, Cond.code yX3_size cX3_size 2 (some .int), Cond.classLink RX3 139 "java/lang/IndexOutOfBoundsException", Cond.initialized "java/lang/IndexOutOfBoundsException", Cond.methodLink RX3 135 yX2_has, Cond.instanceMethod yX2_has, Cond.selects RX2 yX2_has yX2_has, Cond.code yX2_has cX2_has 2 (some .boolean)]
def wsL_law0_r4 : List Cond := [Cond.methodLink RX3 66 yX2_sizeOf, Cond.instanceMethod yX2_sizeOf, Cond.selects RX2 yX2_sizeOf yX2_sizeOf, Cond.code yX2_sizeOf cX2_sizeOf 2 (some .int), Cond.methodLink RX2 19 yX2_has, Cond.methodLink RL 58 yX3_at, Cond.instanceMethod yX3_at, Cond.selects RX3 yX3_at yX3_at, Cond.code yX3_at cX3_at 3 (some .int), Cond.methodLink RX3 35 yX3_isIn, Cond.static yX3_isIn, Cond.code yX3_isIn cX3_isIn 3 (some .boolean), Cond.methodLink RX3 146 yX2_beginOf, Cond.instanceMethod yX2_beginOf, Cond.selects RX2 yX2_beginOf yX2_beginOf, Cond.code yX2_beginOf cX2_beginOf 4 (some .int), Cond.methodLink RX2 23 yX2_sizeOf, Cond.methodLink RX3 149 yX1_numberAt, Cond.instanceMethod yX1_numberAt, Cond.selects RX1 yX1_numberAt yX1_numberAt, Cond.code yX1_numberAt cX1_numberAt 3 (some .int), Cond.fieldLink RX1 25 "PageBail$Bail" "number" "I", Cond.methodLink RX1 21 yX1_bailAt, Cond.instanceMethod yX1_bailAt]
def wsL_law0_r5 : List Cond := [Cond.selects RX1 yX1_bailAt yX1_bailAt, Cond.code yX1_bailAt cX1_bailAt 2 (some (.object "PageBail$Bail")), Cond.methodLink RL 65 yL_payBack, Cond.static yL_payBack, Cond.codeWith yL_payBack cL_payBack 3 (some .int) [(0, 5, 6, 14), (0, 5, 10, 17)], Cond.classLink RL 14 "java/lang/IllegalArgumentException", Cond.classLink RL 17 "java/lang/IllegalStateException", Cond.methodLink RL 19 yX3_payBack, Cond.instanceMethod yX3_payBack, Cond.selects RX3 yX3_payBack yX3_payBack, Cond.code yX3_payBack cX3_payBack 3 (some .int), Cond.classLink RX3 54 "java/lang/IllegalStateException", Cond.initialized "java/lang/IllegalStateException", Cond.fieldLink RX3 94 "PageBail" "paidInAll" "I", Cond.fieldLink RX3 97 "PageBail$Bail" "sum" "I", Cond.methodLink RX3 31 yX3_requireCase, Cond.static yX3_requireCase, Cond.code yX3_requireCase cX3_requireCase 1 none, Cond.classLink RX3 39 "java/lang/IllegalArgumentException", Cond.initialized "java/lang/IllegalArgumentException", Cond.methodLink RX3 46 yX1_find, Cond.instanceMethod yX1_find, Cond.selects RX1 yX1_find yX1_find, Cond.code yX1_find cX1_find 2 (some (.object "PageBail$Bail"))]
def wsL_law0_r6 : List Cond := [Cond.methodLink RX1 35 yX1_placeOf, Cond.instanceMethod yX1_placeOf, Cond.selects RX1 yX1_placeOf yX1_placeOf, Cond.code yX1_placeOf cX1_placeOf 3 (some .int), Cond.methodLink RX1 32 yX1_countUpTo, Cond.instanceMethod yX1_countUpTo, Cond.selects RX1 yX1_countUpTo yX1_countUpTo, Cond.code yX1_countUpTo cX1_countUpTo 3 (some .int), Cond.methodLink RX1 28 yX1_numberAt, Cond.methodLink RX3 88 yX0_hasForfeitDay, Cond.instanceMethod yX0_hasForfeitDay, Cond.selects RX0 yX0_hasForfeitDay yX0_hasForfeitDay, Cond.initialized RX0, Cond.code yX0_hasForfeitDay cX0_hasForfeitDay 1 (some .boolean), Cond.fieldLink RX0 24 "PageBail$Bail" "forfeitDay" "I", Cond.methodLink RX3 100 yX1_placeOf, Cond.methodLink RX3 103 yX3_takeOut, Cond.instanceMethod yX3_takeOut, Cond.selects RX3 yX3_takeOut yX3_takeOut, Cond.code yX3_takeOut cX3_takeOut 2 none, Cond.methodLink RX3 152 yX2_pageWith, Cond.instanceMethod yX2_pageWith, Cond.selects RX2 yX2_pageWith yX2_pageWith, Cond.code yX2_pageWith cX2_pageWith 4 (some .int)]
def wsL_law0_r7 : List Cond := [Cond.methodLink RX3 174 yX2_takeFrom, Cond.instanceMethod yX2_takeFrom, Cond.selects RX2 yX2_takeFrom yX2_takeFrom, Cond.code yX2_takeFrom cX2_takeFrom 2 none, Cond.methodLink RX2 27 yX2_remove, Cond.instanceMethod yX2_remove, Cond.selects RX2 yX2_remove yX2_remove, Cond.code yX2_remove cX2_remove 3 none, Cond.methodLink RX2 31 yX2_borrowOrJoin, Cond.instanceMethod yX2_borrowOrJoin, Cond.selects RX2 yX2_borrowOrJoin yX2_borrowOrJoin, Cond.code yX2_borrowOrJoin cX2_borrowOrJoin 2 none, Cond.methodLink RX2 34 yX2_move, Cond.instanceMethod yX2_move, Cond.selects RX2 yX2_move yX2_move, Cond.code yX2_move cX2_move 3 none, Cond.methodLink RX3 177 yX1_remove, Cond.instanceMethod yX1_remove, Cond.selects RX1 yX1_remove yX1_remove, Cond.code yX1_remove cX1_remove 3 none, Cond.methodLink RL 68 yL_forfeit, Cond.static yL_forfeit, Cond.codeWith yL_forfeit cL_forfeit 3 (some .int) [(0, 6, 7, 14), (0, 6, 11, 17)], Cond.methodLink RL 23 yX3_forfeit]
def wsL_law0_r8 : List Cond := [Cond.instanceMethod yX3_forfeit, Cond.selects RX3 yX3_forfeit yX3_forfeit, Cond.code yX3_forfeit cX3_forfeit 3 none, Cond.fieldLink RX3 77 "PageBail" "now" "I", Cond.fieldLink RX3 106 "PageBail$Bail" "forfeitDay" "I", Cond.methodLink RL 70 yL_undo, Cond.static yL_undo, Cond.codeWith yL_undo cL_undo 3 (some .int) [(0, 5, 6, 14), (0, 5, 10, 17)], Cond.methodLink RL 27 yX3_undo, Cond.instanceMethod yX3_undo, Cond.selects RX3 yX3_undo yX3_undo, Cond.code yX3_undo cX3_undo 4 (some .int), Cond.methodLink RL 72 yX3_today, Cond.instanceMethod yX3_today, Cond.selects RX3 yX3_today yX3_today, Cond.code yX3_today cX3_today 1 (some .int), Cond.methodLink RL 75 yL_amnesty, Cond.static yL_amnesty, Cond.codeWith yL_amnesty cL_amnesty 4 (some .int) [(0, 6, 7, 14)], Cond.methodLink RL 30 yX3_amnesty, Cond.instanceMethod yX3_amnesty, Cond.selects RX3 yX3_amnesty yX3_amnesty, Cond.code yX3_amnesty cX3_amnesty 7 (some .int), Cond.methodLink RX3 113 yX1_bailAt]
def wsL_law0_r9 : List Cond := [Cond.methodLink RX3 116 yX0_isUnder, Cond.instanceMethod yX0_isUnder, Cond.selects RX0 yX0_isUnder yX0_isUnder, Cond.code yX0_isUnder cX0_isUnder 3 (some .boolean), Cond.fieldLink RX0 15 "PageBail$Bail" "sum" "I", Cond.fieldLink RX0 21 "PageBail$Bail" "putDay" "I", Cond.methodLink RX0 27 yX0_hasForfeitDay, Cond.methodLink RL 78 yL_pass, Cond.static yL_pass, Cond.codeWith yL_pass cL_pass 3 (some .int) [(0, 5, 6, 14), (0, 5, 10, 17)], Cond.methodLink RL 34 yX3_pass, Cond.instanceMethod yX3_pass, Cond.selects RX3 yX3_pass yX3_pass, Cond.code yX3_pass cX3_pass 4 (some .int), Cond.methodLink RX3 132 yX3_keepOverdue, Cond.instanceMethod yX3_keepOverdue, Cond.selects RX3 yX3_keepOverdue yX3_keepOverdue, Cond.code yX3_keepOverdue cX3_keepOverdue 5 (some .int), Cond.fieldLink RX3 125 "PageBail" "keptInAll" "I", Cond.methodLink RX3 180 yX0_isOverdue, Cond.instanceMethod yX0_isOverdue, Cond.selects RX0 yX0_isOverdue yX0_isOverdue, Cond.code yX0_isOverdue cX0_isOverdue 2 (some .boolean), Cond.methodLink RL 80 yL_sweep]
def wsL_law0_r10 : List Cond := [Cond.static yL_sweep, Cond.codeWith yL_sweep cL_sweep 2 (some .int) [(0, 5, 6, 17)], Cond.methodLink RL 37 yX3_sweep, Cond.instanceMethod yX3_sweep, Cond.selects RX3 yX3_sweep yX3_sweep, Cond.code yX3_sweep cX3_sweep 1 none, Cond.methodLink RL 83 yL_step, Cond.static yL_step, Cond.codeWith yL_step cL_step 3 (some .int) [(0, 5, 6, 14), (0, 5, 10, 17)], Cond.methodLink RL 40 yX3_step, Cond.instanceMethod yX3_step, Cond.selects RX3 yX3_step yX3_step, Cond.code yX3_step cX3_step 4 (some .int), Cond.methodLink RX3 161 yX3_sweepOn, Cond.instanceMethod yX3_sweepOn, Cond.selects RX3 yX3_sweepOn yX3_sweepOn, Cond.code yX3_sweepOn cX3_sweepOn 1 (some .int), Cond.methodLink RX3 183 yX2_move, Cond.methodLink RL 85 yL_walk, Cond.static yL_walk, Cond.codeWith yL_walk cL_walk 3 (some .int) [(0, 5, 6, 14)], Cond.methodLink RL 43 yX3_walk, Cond.instanceMethod yX3_walk, Cond.selects RX3 yX3_walk yX3_walk]
def wsL_law0_r11 : List Cond := [Cond.code yX3_walk cX3_walk 2 (some .int), Cond.methodLink RX3 59 yX1_countUpTo, Cond.methodLink RL 87 yL_put, Cond.static yL_put, Cond.codeWith yL_put cL_put 5 (some .int) [(0, 7, 8, 14), (0, 7, 13, 17)], Cond.methodLink RL 8 yX3_put, Cond.instanceMethod yX3_put, Cond.selects RX3 yX3_put yX3_put, Cond.code yX3_put cX3_put 5 (some .int), Cond.classLink RX3 75 RX0, Cond.instantiable RX0 5, Cond.methodLink RX3 63 yX3_pageToPutOn, Cond.instanceMethod yX3_pageToPutOn, Cond.selects RX3 yX3_pageToPutOn yX3_pageToPutOn, Cond.code yX3_pageToPutOn cX3_pageToPutOn 2 (some .int), Cond.methodLink RX3 168 Lib.Math.max.name, Cond.static Lib.Math.max.name, Cond.initialized "java/lang/Math", Cond.code Lib.Math.max.name Lib.Math.max.code 2 (some .int), Cond.methodLink RX3 69 yX2_split, Cond.instanceMethod yX2_split, Cond.selects RX2 yX2_split yX2_split, Cond.code yX2_split cX2_split 3 none, Cond.methodLink RX3 72 yX2_addTo]
def wsL_law0_r12 : List Cond := [Cond.instanceMethod yX2_addTo, Cond.selects RX2 yX2_addTo yX2_addTo, Cond.code yX2_addTo cX2_addTo 2 none, Cond.methodLink RX3 80 yX0_init, Cond.instanceMethod yX0_init, Cond.code yX0_init cX0_init 5 none, Cond.methodLink RX0 3 objectInit, Cond.fieldLink RX0 9 "PageBail$Bail" "number" "I", Cond.fieldLink RX0 18 "PageBail$Bail" "surety" "I", Cond.methodLink RX3 83 yX1_insert, Cond.instanceMethod yX1_insert, Cond.selects RX1 yX1_insert yX1_insert, Cond.code yX1_insert cX1_insert 4 none, Cond.methodLink RL 119 yL_areAlike, Cond.static yL_areAlike, Cond.code yL_areAlike cL_areAlike 4 (some .boolean), Cond.methodLink RL 93 yX3_kept, Cond.instanceMethod yX3_kept, Cond.selects RX3 yX3_kept yX3_kept, Cond.code yX3_kept cX3_kept 1 (some .int), Cond.methodLink RL 96 yX3_paidBack, Cond.instanceMethod yX3_paidBack, Cond.selects RX3 yX3_paidBack yX3_paidBack, Cond.code yX3_paidBack cX3_paidBack 1 (some .int)]
def wsL_law0_r13 : List Cond := [Cond.methodLink RL 99 yX3_sweeping, Cond.instanceMethod yX3_sweeping, Cond.selects RX3 yX3_sweeping yX3_sweeping, Cond.code yX3_sweeping cX3_sweeping 1 (some .int), Cond.methodLink RL 123 yL_arePagesSo, Cond.static yL_arePagesSo, Cond.code yL_arePagesSo cL_arePagesSo 9 (some .boolean), Cond.methodLink RL 102 yX3_pageOf, Cond.instanceMethod yX3_pageOf, Cond.selects RX3 yX3_pageOf yX3_pageOf, Cond.code yX3_pageOf cX3_pageOf 2 (some .int), Cond.methodLink RL 105 yX3_sum, Cond.instanceMethod yX3_sum, Cond.selects RX3 yX3_sum yX3_sum, Cond.code yX3_sum cX3_sum 3 (some .int), Cond.methodLink RL 108 yX3_heldBy, Cond.instanceMethod yX3_heldBy, Cond.selects RX3 yX3_heldBy yX3_heldBy, Cond.code yX3_heldBy cX3_heldBy 2 (some .int), Cond.methodLink RX3 122 yX1_sumOfSurety, Cond.instanceMethod yX1_sumOfSurety, Cond.selects RX1 yX1_sumOfSurety yX1_sumOfSurety, Cond.code yX1_sumOfSurety cX1_sumOfSurety 5 (some .int), Cond.fieldLink RX1 38 "PageBail$Bail" "surety" "I"]
def wsL_law0_r14 : List Cond := [Cond.fieldLink RX1 41 "PageBail$Bail" "sum" "I", Cond.methodLink RL 127 yL_isWalked, Cond.static yL_isWalked, Cond.code yL_isWalked cL_isWalked 7 (some .boolean)]
def wsL_law0 : List Cond := (wsL_law0_r1 ++ (wsL_law0_r2 ++ (wsL_law0_r3 ++ (wsL_law0_r4 ++ (wsL_law0_r5 ++ (wsL_law0_r6 ++ (wsL_law0_r7 ++ (wsL_law0_r8 ++ (wsL_law0_r9 ++ (wsL_law0_r10 ++ (wsL_law0_r11 ++ (wsL_law0_r12 ++ (wsL_law0_r13 ++ wsL_law0_r14))))))))))))) ++ wsX30 ++ wsX10 ++ wsX20 ++ wsX00 ++ ([] : List Cond)
def wsL_law : List Cond := wsL_law0 ++ (vx_atS RX3 143 "java/lang/IndexOutOfBoundsException" ["java/lang/RuntimeException", "java/lang/Exception"]).filter goodWord ++ (vx_atS RX3 58 "java/lang/IllegalStateException" ["java/lang/RuntimeException", "java/lang/Exception"]).filter goodWord ++ (vx_atS RX3 43 "java/lang/IllegalArgumentException" ["java/lang/RuntimeException", "java/lang/Exception"]).filter goodWord
abbrev vwCl : List vw_C := [(RX0, TX0, 5), (RX1, TX1, 2), (RX2, TX2, 2), (RX3, TX3, 7)]
end
section
set_option maxRecDepth 20000 in
theorem in_wsL_law0_r1 : ∀ w ∈ wsL_law0_r1, w ∈ lw_tbl := fun w h => (goodIn_p wsL_law0_r1 [23, 26, 31] (by decide +kernel) (by decide +kernel) w h).1
set_option maxRecDepth 20000 in
theorem in_wsL_law0_r2 : ∀ w ∈ wsL_law0_r2, w ∈ lw_tbl := fun w h => (goodIn_p wsL_law0_r2 [46, 232, 81, 85, 249] (by decide +kernel) (by decide +kernel) w h).1
set_option maxRecDepth 20000 in
theorem in_wsL_law0_r3 : ∀ w ∈ wsL_law0_r3, w ∈ lw_tbl := fun w h => (goodIn_p wsL_law0_r3 [235, 252, 89, 93, 97, 101] (by decide +kernel) (by decide +kernel) w h).1
set_option maxRecDepth 20000 in
theorem in_wsL_law0_r4 : ∀ w ∈ wsL_law0_r4, w ∈ lw_tbl := fun w h => (goodIn_p wsL_law0_r4 [173, 256, 181, 261, 266] (by decide +kernel) (by decide +kernel) w h).1
set_option maxRecDepth 20000 in
theorem in_wsL_law0_r5 : ∀ w ∈ wsL_law0_r5, w ∈ lw_tbl := fun w h => (goodIn_p wsL_law0_r5 [270, 278, 281, 286] (by decide +kernel) (by decide +kernel) w h).1
set_option maxRecDepth 20000 in
theorem in_wsL_law0_r6 : ∀ w ∈ wsL_law0_r6, w ∈ lw_tbl := fun w h => (goodIn_p wsL_law0_r6 [290, 294, 299, 305, 309] (by decide +kernel) (by decide +kernel) w h).1
set_option maxRecDepth 20000 in
theorem in_wsL_law0_r7 : ∀ w ∈ wsL_law0_r7, w ∈ lw_tbl := fun w h => (goodIn_p wsL_law0_r7 [313, 225, 317, 221, 322] (by decide +kernel) (by decide +kernel) w h).1
set_option maxRecDepth 20000 in
theorem in_wsL_law0_r8 : ∀ w ∈ wsL_law0_r8, w ∈ lw_tbl := fun w h => (goodIn_p wsL_law0_r8 [329, 336, 341, 348] (by decide +kernel) (by decide +kernel) w h).1
set_option maxRecDepth 20000 in
theorem in_wsL_law0_r9 : ∀ w ∈ wsL_law0_r9, w ∈ lw_tbl := fun w h => (goodIn_p wsL_law0_r9 [354, 362, 368, 372] (by decide +kernel) (by decide +kernel) w h).1
set_option maxRecDepth 20000 in
theorem in_wsL_law0_r10 : ∀ w ∈ wsL_law0_r10, w ∈ lw_tbl := fun w h => (goodIn_p wsL_law0_r10 [244, 178, 217] (by decide +kernel) (by decide +kernel) w h).1
set_option maxRecDepth 20000 in
theorem in_wsL_law0_r11 : ∀ w ∈ wsL_law0_r11, w ∈ lw_tbl := fun w h => (goodIn_p wsL_law0_r11 [382, 391, 397, 400, 404] (by decide +kernel) (by decide +kernel) w h).1
set_option maxRecDepth 20000 in
theorem in_wsL_law0_r12 : ∀ w ∈ wsL_law0_r12, w ∈ lw_tbl := fun w h => (goodIn_p wsL_law0_r12 [408, 413, 439, 442, 446, 450] (by decide +kernel) (by decide +kernel) w h).1
set_option maxRecDepth 20000 in
theorem in_wsL_law0_r13 : ∀ w ∈ wsL_law0_r13, w ∈ lw_tbl := fun w h => (goodIn_p wsL_law0_r13 [229, 453, 457, 461, 465, 470] (by decide +kernel) (by decide +kernel) w h).1
set_option maxRecDepth 20000 in
theorem in_wsL_law0_r14 : ∀ w ∈ wsL_law0_r14, w ∈ lw_tbl := fun w h => (goodIn_p wsL_law0_r14 [473] (by decide +kernel) (by decide +kernel) w h).1
theorem in_wsX30 : ∀ w ∈ wsX30, w ∈ lw_tbl := by decide +kernel
theorem in_wsX10 : ∀ w ∈ wsX10, w ∈ lw_tbl := by decide +kernel
theorem in_wsX20 : ∀ w ∈ wsX20, w ∈ lw_tbl := by decide +kernel
theorem in_wsX00 : ∀ w ∈ wsX00, w ∈ lw_tbl := by decide +kernel
theorem wsL_law_in0 : ∀ w ∈ wsL_law0, w ∈ lw_tbl := fun w => (fun h => (List.mem_append.mp h).elim (fun h => (List.mem_append.mp h).elim (fun h => (List.mem_append.mp h).elim (fun h => (List.mem_append.mp h).elim (fun h => (List.mem_append.mp h).elim (fun h => (List.mem_append.mp h).elim (fun h => in_wsL_law0_r1 w h) (fun h => (List.mem_append.mp h).elim (fun h => in_wsL_law0_r2 w h) (fun h => (List.mem_append.mp h).elim (fun h => in_wsL_law0_r3 w h) (fun h => (List.mem_append.mp h).elim (fun h => in_wsL_law0_r4 w h) (fun h => (List.mem_append.mp h).elim (fun h => in_wsL_law0_r5 w h) (fun h => (List.mem_append.mp h).elim (fun h => in_wsL_law0_r6 w h) (fun h => (List.mem_append.mp h).elim (fun h => in_wsL_law0_r7 w h) (fun h => (List.mem_append.mp h).elim (fun h => in_wsL_law0_r8 w h) (fun h => (List.mem_append.mp h).elim (fun h => in_wsL_law0_r9 w h) (fun h => (List.mem_append.mp h).elim (fun h => in_wsL_law0_r10 w h) (fun h => (List.mem_append.mp h).elim (fun h => in_wsL_law0_r11 w h) (fun h => (List.mem_append.mp h).elim (fun h => in_wsL_law0_r12 w h) (fun h => (List.mem_append.mp h).elim (fun h => in_wsL_law0_r13 w h) (fun h => in_wsL_law0_r14 w h)))))))))))))) (fun h => in_wsX30 w h)) (fun h => in_wsX10 w h)) (fun h => in_wsX20 w h)) (fun h => in_wsX00 w h)) (fun h => absurd h List.not_mem_nil))
theorem wsL_law_x0 : ∀ w ∈ (vx_atS RX3 143 "java/lang/IndexOutOfBoundsException" ["java/lang/RuntimeException", "java/lang/Exception"]).filter goodWord, w ∈ lw_tbl := by decide +kernel
theorem wsL_law_x1 : ∀ w ∈ (vx_atS RX3 58 "java/lang/IllegalStateException" ["java/lang/RuntimeException", "java/lang/Exception"]).filter goodWord, w ∈ lw_tbl := by decide +kernel
theorem wsL_law_x2 : ∀ w ∈ (vx_atS RX3 43 "java/lang/IllegalArgumentException" ["java/lang/RuntimeException", "java/lang/Exception"]).filter goodWord, w ∈ lw_tbl := by decide +kernel
theorem wsL_law_in : ∀ w ∈ wsL_law, w ∈ lw_tbl := fun w h => (List.mem_append.mp h).elim (fun h => (List.mem_append.mp h).elim (fun h => (List.mem_append.mp h).elim (fun h => wsL_law_in0 w h) (fun h => wsL_law_x0 w h)) (fun h => wsL_law_x1 w h)) (fun h => wsL_law_x2 w h)
theorem inlX0 : ∀ w ∈ wsX00, w ∈ wsL_law := fun _ h => List.mem_append_left _ (List.mem_append_left _ (List.mem_append_left _ (List.mem_append_left _ (List.mem_append_right _ h))))
theorem inX0 : ∀ w ∈ wsX00, w ∈ lw_tbl := fun w h => wsL_law_in w (inlX0 w h)
theorem inlX1 : ∀ w ∈ wsX10, w ∈ wsL_law := fun _ h => List.mem_append_left _ (List.mem_append_left _ (List.mem_append_left _ (List.mem_append_left _ (List.mem_append_left _ (List.mem_append_left _ (List.mem_append_right _ h))))))
theorem inX1 : ∀ w ∈ wsX10, w ∈ lw_tbl := fun w h => wsL_law_in w (inlX1 w h)
theorem inlX2 : ∀ w ∈ wsX20, w ∈ wsL_law := fun _ h => List.mem_append_left _ (List.mem_append_left _ (List.mem_append_left _ (List.mem_append_left _ (List.mem_append_left _ (List.mem_append_right _ h)))))
theorem inX2 : ∀ w ∈ wsX20, w ∈ lw_tbl := fun w h => wsL_law_in w (inlX2 w h)
theorem inlX3 : ∀ w ∈ wsX30, w ∈ wsL_law := fun _ h => List.mem_append_left _ (List.mem_append_left _ (List.mem_append_left _ (List.mem_append_left _ (List.mem_append_left _ (List.mem_append_left _ (List.mem_append_left _ (List.mem_append_right _ h)))))))
theorem inX3 : ∀ w ∈ wsX30, w ∈ lw_tbl := fun w h => wsL_law_in w (inlX3 w h)
theorem inX4 : ∀ w ∈ wsX40, w ∈ lw_tbl := by decide +kernel
theorem inJ9 : ∀ w ∈ wsJ90, w ∈ lw_tbl := by decide +kernel
theorem inJ0 : ∀ w ∈ wsJ00, w ∈ lw_tbl := by decide +kernel
end
section
theorem dX0_init_0 : decode cX0_init 0 = .ok (.aload_n 0, 1) := by decide +kernel
theorem dX0_init_1 : decode cX0_init 1 = .ok (.invokespecial 3, 3) := by decide +kernel
theorem dX0_init_4 : decode cX0_init 4 = .ok (.aload_n 0, 1) := by decide +kernel
theorem dX0_init_5 : decode cX0_init 5 = .ok (.iload_n 1, 1) := by decide +kernel
theorem dX0_init_6 : decode cX0_init 6 = .ok (.putfield 9, 3) := by decide +kernel
theorem dX0_init_9 : decode cX0_init 9 = .ok (.aload_n 0, 1) := by decide +kernel
theorem dX0_init_10 : decode cX0_init 10 = .ok (.iload_n 2, 1) := by decide +kernel
theorem dX0_init_11 : decode cX0_init 11 = .ok (.putfield 15, 3) := by decide +kernel
theorem dX0_init_14 : decode cX0_init 14 = .ok (.aload_n 0, 1) := by decide +kernel
theorem dX0_init_15 : decode cX0_init 15 = .ok (.iload_n 3, 1) := by decide +kernel
theorem dX0_init_16 : decode cX0_init 16 = .ok (.putfield 18, 3) := by decide +kernel
theorem dX0_init_19 : decode cX0_init 19 = .ok (.aload_n 0, 1) := by decide +kernel
theorem dX0_init_20 : decode cX0_init 20 = .ok (.iload 4, 2) := by decide +kernel
theorem dX0_init_22 : decode cX0_init 22 = .ok (.putfield 21, 3) := by decide +kernel
theorem dX0_init_25 : decode cX0_init 25 = .ok (.aload_n 0, 1) := by decide +kernel
theorem dX0_init_26 : decode cX0_init 26 = .ok (.iconst (-1), 1) := by decide +kernel
theorem dX0_init_27 : decode cX0_init 27 = .ok (.putfield 24, 3) := by decide +kernel
theorem dX0_init_30 : decode cX0_init 30 = .ok (.return_, 1) := by decide +kernel
theorem dX0_hasForfeitDay_0 : decode cX0_hasForfeitDay 0 = .ok (.aload_n 0, 1) := by decide +kernel
theorem dX0_hasForfeitDay_1 : decode cX0_hasForfeitDay 1 = .ok (.getfield 24, 3) := by decide +kernel
theorem dX0_hasForfeitDay_4 : decode cX0_hasForfeitDay 4 = .ok (.iconst (-1), 1) := by decide +kernel
theorem dX0_hasForfeitDay_5 : decode cX0_hasForfeitDay 5 = .ok (.if_icmp .eq 7, 3) := by decide +kernel
theorem dX0_hasForfeitDay_8 : decode cX0_hasForfeitDay 8 = .ok (.iconst 1, 1) := by decide +kernel
theorem dX0_hasForfeitDay_9 : decode cX0_hasForfeitDay 9 = .ok (.goto 4, 3) := by decide +kernel
theorem dX0_hasForfeitDay_12 : decode cX0_hasForfeitDay 12 = .ok (.iconst 0, 1) := by decide +kernel
theorem dX0_hasForfeitDay_13 : decode cX0_hasForfeitDay 13 = .ok (.ireturn, 1) := by decide +kernel
set_option maxRecDepth 20000 in
theorem ggX0_isOverdue_X0_hasForfeitDay : GoodIn wsX0_isOverdue wsX0_hasForfeitDay := goodIn_r _ [6, 1, 7, 8, 9, 10, 11] (by decide +kernel) (by decide +kernel)
set_option maxRecDepth 20000 in
theorem gX0_isOverdue_X0_hasForfeitDay : GoodIn wsX0_isOverdue (wsV RX0 27 RX0 yX0_hasForfeitDay wsX0_hasForfeitDay) := goodIn_app (goodIn_of _ (by decide +kernel)) ggX0_isOverdue_X0_hasForfeitDay
theorem dX0_isOverdue_0 : decode cX0_isOverdue 0 = .ok (.aload_n 0, 1) := by decide +kernel
theorem dX0_isOverdue_1 : decode cX0_isOverdue 1 = .ok (.invokevirtual 27, 3) := by decide +kernel
theorem dX0_isOverdue_4 : decode cX0_isOverdue 4 = .ok (.ifCond .eq 18, 3) := by decide +kernel
theorem dX0_isOverdue_7 : decode cX0_isOverdue 7 = .ok (.iload_n 1, 1) := by decide +kernel
theorem dX0_isOverdue_8 : decode cX0_isOverdue 8 = .ok (.aload_n 0, 1) := by decide +kernel
theorem dX0_isOverdue_9 : decode cX0_isOverdue 9 = .ok (.getfield 24, 3) := by decide +kernel
theorem dX0_isOverdue_12 : decode cX0_isOverdue 12 = .ok (.bipush 14, 2) := by decide +kernel
theorem dX0_isOverdue_14 : decode cX0_isOverdue 14 = .ok (.iadd, 1) := by decide +kernel
theorem dX0_isOverdue_15 : decode cX0_isOverdue 15 = .ok (.if_icmp .le 7, 3) := by decide +kernel
theorem dX0_isOverdue_18 : decode cX0_isOverdue 18 = .ok (.iconst 1, 1) := by decide +kernel
theorem dX0_isOverdue_19 : decode cX0_isOverdue 19 = .ok (.goto 4, 3) := by decide +kernel
theorem dX0_isOverdue_22 : decode cX0_isOverdue 22 = .ok (.iconst 0, 1) := by decide +kernel
theorem dX0_isOverdue_23 : decode cX0_isOverdue 23 = .ok (.ireturn, 1) := by decide +kernel
set_option maxRecDepth 20000 in
theorem ggX0_isUnder_X0_hasForfeitDay : GoodIn wsX0_isUnder wsX0_hasForfeitDay := goodIn_r _ [7, 8, 9, 10, 11, 12, 13] (by decide +kernel) (by decide +kernel)
set_option maxRecDepth 20000 in
theorem gX0_isUnder_X0_hasForfeitDay : GoodIn wsX0_isUnder (wsV RX0 27 RX0 yX0_hasForfeitDay wsX0_hasForfeitDay) := goodIn_app (goodIn_of _ (by decide +kernel)) ggX0_isUnder_X0_hasForfeitDay
theorem dX0_isUnder_0 : decode cX0_isUnder 0 = .ok (.aload_n 0, 1) := by decide +kernel
theorem dX0_isUnder_1 : decode cX0_isUnder 1 = .ok (.invokevirtual 27, 3) := by decide +kernel
theorem dX0_isUnder_4 : decode cX0_isUnder 4 = .ok (.ifCond .ne 23, 3) := by decide +kernel
theorem dX0_isUnder_7 : decode cX0_isUnder 7 = .ok (.aload_n 0, 1) := by decide +kernel
theorem dX0_isUnder_8 : decode cX0_isUnder 8 = .ok (.getfield 15, 3) := by decide +kernel
theorem dX0_isUnder_11 : decode cX0_isUnder 11 = .ok (.iload_n 1, 1) := by decide +kernel
theorem dX0_isUnder_12 : decode cX0_isUnder 12 = .ok (.if_icmp .gt 15, 3) := by decide +kernel
theorem dX0_isUnder_15 : decode cX0_isUnder 15 = .ok (.aload_n 0, 1) := by decide +kernel
theorem dX0_isUnder_16 : decode cX0_isUnder 16 = .ok (.getfield 21, 3) := by decide +kernel
theorem dX0_isUnder_19 : decode cX0_isUnder 19 = .ok (.iload_n 2, 1) := by decide +kernel
theorem dX0_isUnder_20 : decode cX0_isUnder 20 = .ok (.if_icmp .gt 7, 3) := by decide +kernel
theorem dX0_isUnder_23 : decode cX0_isUnder 23 = .ok (.iconst 1, 1) := by decide +kernel
theorem dX0_isUnder_24 : decode cX0_isUnder 24 = .ok (.goto 4, 3) := by decide +kernel
theorem dX0_isUnder_27 : decode cX0_isUnder 27 = .ok (.iconst 0, 1) := by decide +kernel
theorem dX0_isUnder_28 : decode cX0_isUnder 28 = .ok (.ireturn, 1) := by decide +kernel
theorem dX1_init_0 : decode cX1_init 0 = .ok (.aload_n 0, 1) := by decide +kernel
theorem dX1_init_1 : decode cX1_init 1 = .ok (.invokespecial 3, 3) := by decide +kernel
theorem dX1_init_4 : decode cX1_init 4 = .ok (.aload_n 0, 1) := by decide +kernel
theorem dX1_init_5 : decode cX1_init 5 = .ok (.bipush 80, 2) := by decide +kernel
theorem dX1_init_7 : decode cX1_init 7 = .ok (.anewarray 9, 3) := by decide +kernel
theorem dX1_init_10 : decode cX1_init 10 = .ok (.putfield 11, 3) := by decide +kernel
theorem dX1_init_13 : decode cX1_init 13 = .ok (.return_, 1) := by decide +kernel
theorem dX1_count_0 : decode cX1_count 0 = .ok (.aload_n 0, 1) := by decide +kernel
theorem dX1_count_1 : decode cX1_count 1 = .ok (.getfield 17, 3) := by decide +kernel
theorem dX1_count_4 : decode cX1_count 4 = .ok (.ireturn, 1) := by decide +kernel
theorem dX1_bailAt_0 : decode cX1_bailAt 0 = .ok (.iload_n 1, 1) := by decide +kernel
theorem dX1_bailAt_1 : decode cX1_bailAt 1 = .ok (.ifCond .lt 29, 3) := by decide +kernel
theorem dX1_bailAt_4 : decode cX1_bailAt 4 = .ok (.iload_n 1, 1) := by decide +kernel
theorem dX1_bailAt_5 : decode cX1_bailAt 5 = .ok (.aload_n 0, 1) := by decide +kernel
theorem dX1_bailAt_6 : decode cX1_bailAt 6 = .ok (.getfield 17, 3) := by decide +kernel
theorem dX1_bailAt_9 : decode cX1_bailAt 9 = .ok (.if_icmp .ge 21, 3) := by decide +kernel
theorem dX1_bailAt_12 : decode cX1_bailAt 12 = .ok (.iload_n 1, 1) := by decide +kernel
theorem dX1_bailAt_13 : decode cX1_bailAt 13 = .ok (.aload_n 0, 1) := by decide +kernel
theorem dX1_bailAt_14 : decode cX1_bailAt 14 = .ok (.getfield 11, 3) := by decide +kernel
theorem dX1_bailAt_17 : decode cX1_bailAt 17 = .ok (.arraylength, 1) := by decide +kernel
theorem dX1_bailAt_18 : decode cX1_bailAt 18 = .ok (.if_icmp .ge 12, 3) := by decide +kernel
theorem dX1_bailAt_21 : decode cX1_bailAt 21 = .ok (.aload_n 0, 1) := by decide +kernel
theorem dX1_bailAt_22 : decode cX1_bailAt 22 = .ok (.getfield 11, 3) := by decide +kernel
theorem dX1_bailAt_25 : decode cX1_bailAt 25 = .ok (.iload_n 1, 1) := by decide +kernel
theorem dX1_bailAt_26 : decode cX1_bailAt 26 = .ok (.aaload, 1) := by decide +kernel
theorem dX1_bailAt_27 : decode cX1_bailAt 27 = .ok (.goto 4, 3) := by decide +kernel
theorem dX1_bailAt_30 : decode cX1_bailAt 30 = .ok (.aconst_null, 1) := by decide +kernel
theorem dX1_bailAt_31 : decode cX1_bailAt 31 = .ok (.areturn, 1) := by decide +kernel
set_option maxRecDepth 20000 in
theorem ggX1_numberAt_X1_bailAt : GoodIn wsX1_numberAt wsX1_bailAt := goodIn_r _ [6, 7, 8, 14, 15] (by decide +kernel) (by decide +kernel)
set_option maxRecDepth 20000 in
theorem gX1_numberAt_X1_bailAt : GoodIn wsX1_numberAt (wsV RX1 21 RX1 yX1_bailAt wsX1_bailAt) := goodIn_app (goodIn_of _ (by decide +kernel)) ggX1_numberAt_X1_bailAt
theorem dX1_numberAt_0 : decode cX1_numberAt 0 = .ok (.aload_n 0, 1) := by decide +kernel
theorem dX1_numberAt_1 : decode cX1_numberAt 1 = .ok (.iload_n 1, 1) := by decide +kernel
theorem dX1_numberAt_2 : decode cX1_numberAt 2 = .ok (.invokevirtual 21, 3) := by decide +kernel
theorem dX1_numberAt_5 : decode cX1_numberAt 5 = .ok (.astore_n 2, 1) := by decide +kernel
theorem dX1_numberAt_6 : decode cX1_numberAt 6 = .ok (.aload_n 2, 1) := by decide +kernel
theorem dX1_numberAt_7 : decode cX1_numberAt 7 = .ok (.ifnonnull 7, 3) := by decide +kernel
theorem dX1_numberAt_10 : decode cX1_numberAt 10 = .ok (.iconst (-1), 1) := by decide +kernel
theorem dX1_numberAt_11 : decode cX1_numberAt 11 = .ok (.goto 7, 3) := by decide +kernel
theorem dX1_numberAt_14 : decode cX1_numberAt 14 = .ok (.aload_n 2, 1) := by decide +kernel
theorem dX1_numberAt_15 : decode cX1_numberAt 15 = .ok (.getfield 25, 3) := by decide +kernel
theorem dX1_numberAt_18 : decode cX1_numberAt 18 = .ok (.ireturn, 1) := by decide +kernel
set_option maxRecDepth 20000 in
theorem ggX1_countUpTo_X1_numberAt : GoodIn wsX1_countUpTo wsX1_numberAt := goodIn_r _ [6, 7, 8, 9, 10, 5, 11, 1, 12, 15, 16, 17, 18, 19, 13, 14] (by decide +kernel) (by decide +kernel)
set_option maxRecDepth 20000 in
theorem gX1_countUpTo_X1_numberAt : GoodIn wsX1_countUpTo (wsV RX1 28 RX1 yX1_numberAt wsX1_numberAt) := goodIn_app (goodIn_of _ (by decide +kernel)) ggX1_countUpTo_X1_numberAt
theorem dX1_countUpTo_0 : decode cX1_countUpTo 0 = .ok (.iconst 0, 1) := by decide +kernel
theorem dX1_countUpTo_1 : decode cX1_countUpTo 1 = .ok (.istore_n 2, 1) := by decide +kernel
theorem dX1_countUpTo_2 : decode cX1_countUpTo 2 = .ok (.iload_n 2, 1) := by decide +kernel
theorem dX1_countUpTo_3 : decode cX1_countUpTo 3 = .ok (.aload_n 0, 1) := by decide +kernel
theorem dX1_countUpTo_4 : decode cX1_countUpTo 4 = .ok (.getfield 17, 3) := by decide +kernel
theorem dX1_countUpTo_7 : decode cX1_countUpTo 7 = .ok (.if_icmp .ge 18, 3) := by decide +kernel
theorem dX1_countUpTo_10 : decode cX1_countUpTo 10 = .ok (.aload_n 0, 1) := by decide +kernel
theorem dX1_countUpTo_11 : decode cX1_countUpTo 11 = .ok (.iload_n 2, 1) := by decide +kernel
theorem dX1_countUpTo_12 : decode cX1_countUpTo 12 = .ok (.invokevirtual 28, 3) := by decide +kernel
theorem dX1_countUpTo_15 : decode cX1_countUpTo 15 = .ok (.iload_n 1, 1) := by decide +kernel
theorem dX1_countUpTo_16 : decode cX1_countUpTo 16 = .ok (.if_icmp .gt 9, 3) := by decide +kernel
theorem dX1_countUpTo_19 : decode cX1_countUpTo 19 = .ok (.iinc 2 1, 3) := by decide +kernel
theorem dX1_countUpTo_22 : decode cX1_countUpTo 22 = .ok (.goto (-20), 3) := by decide +kernel
theorem dX1_countUpTo_25 : decode cX1_countUpTo 25 = .ok (.iload_n 2, 1) := by decide +kernel
theorem dX1_countUpTo_26 : decode cX1_countUpTo 26 = .ok (.ireturn, 1) := by decide +kernel
set_option maxRecDepth 20000 in
theorem ggX1_placeOf_X1_countUpTo : GoodIn wsX1_placeOf wsX1_countUpTo := goodIn_r _ [5, 6, 7, 8, 9, 4, 10, 11, 12, 13, 14, 15, 16, 17, 18, 19, 20, 21, 22, 23] (by decide +kernel) (by decide +kernel)
set_option maxRecDepth 20000 in
theorem gX1_placeOf_X1_countUpTo : GoodIn wsX1_placeOf (wsV RX1 32 RX1 yX1_countUpTo wsX1_countUpTo) := goodIn_app (goodIn_of _ (by decide +kernel)) ggX1_placeOf_X1_countUpTo
set_option maxRecDepth 20000 in
theorem ggX1_placeOf_X1_numberAt : GoodIn wsX1_placeOf wsX1_numberAt := goodIn_r _ [10, 11, 12, 13, 14, 4, 15, 6, 16, 19, 20, 21, 22, 23, 17, 18] (by decide +kernel) (by decide +kernel)
set_option maxRecDepth 20000 in
theorem gX1_placeOf_X1_numberAt : GoodIn wsX1_placeOf (wsV RX1 28 RX1 yX1_numberAt wsX1_numberAt) := goodIn_app (goodIn_of _ (by decide +kernel)) ggX1_placeOf_X1_numberAt
theorem dX1_placeOf_0 : decode cX1_placeOf 0 = .ok (.aload_n 0, 1) := by decide +kernel
theorem dX1_placeOf_1 : decode cX1_placeOf 1 = .ok (.iload_n 1, 1) := by decide +kernel
theorem dX1_placeOf_2 : decode cX1_placeOf 2 = .ok (.invokevirtual 32, 3) := by decide +kernel
theorem dX1_placeOf_5 : decode cX1_placeOf 5 = .ok (.iconst 1, 1) := by decide +kernel
theorem dX1_placeOf_6 : decode cX1_placeOf 6 = .ok (.isub, 1) := by decide +kernel
theorem dX1_placeOf_7 : decode cX1_placeOf 7 = .ok (.istore_n 2, 1) := by decide +kernel
theorem dX1_placeOf_8 : decode cX1_placeOf 8 = .ok (.iload_n 2, 1) := by decide +kernel
theorem dX1_placeOf_9 : decode cX1_placeOf 9 = .ok (.ifCond .lt 16, 3) := by decide +kernel
theorem dX1_placeOf_12 : decode cX1_placeOf 12 = .ok (.aload_n 0, 1) := by decide +kernel
theorem dX1_placeOf_13 : decode cX1_placeOf 13 = .ok (.iload_n 2, 1) := by decide +kernel
theorem dX1_placeOf_14 : decode cX1_placeOf 14 = .ok (.invokevirtual 28, 3) := by decide +kernel
theorem dX1_placeOf_17 : decode cX1_placeOf 17 = .ok (.iload_n 1, 1) := by decide +kernel
theorem dX1_placeOf_18 : decode cX1_placeOf 18 = .ok (.if_icmp .ne 7, 3) := by decide +kernel
theorem dX1_placeOf_21 : decode cX1_placeOf 21 = .ok (.iload_n 2, 1) := by decide +kernel
theorem dX1_placeOf_22 : decode cX1_placeOf 22 = .ok (.goto 4, 3) := by decide +kernel
theorem dX1_placeOf_25 : decode cX1_placeOf 25 = .ok (.iconst (-1), 1) := by decide +kernel
theorem dX1_placeOf_26 : decode cX1_placeOf 26 = .ok (.ireturn, 1) := by decide +kernel
set_option maxRecDepth 20000 in
theorem ggX1_find_X1_placeOf : GoodIn wsX1_find wsX1_placeOf := goodIn_r _ [5, 6, 7, 8, 4, 9, 10, 11, 12, 13, 14, 15, 16, 17, 18, 19, 20, 21, 22, 23, 24, 25, 26, 27] (by decide +kernel) (by decide +kernel)
set_option maxRecDepth 20000 in
theorem gX1_find_X1_placeOf : GoodIn wsX1_find (wsV RX1 35 RX1 yX1_placeOf wsX1_placeOf) := goodIn_app (goodIn_of _ (by decide +kernel)) ggX1_find_X1_placeOf
set_option maxRecDepth 20000 in
theorem ggX1_find_X1_bailAt : GoodIn wsX1_find wsX1_bailAt := goodIn_r _ [19, 10, 20, 21, 22] (by decide +kernel) (by decide +kernel)
set_option maxRecDepth 20000 in
theorem gX1_find_X1_bailAt : GoodIn wsX1_find (wsV RX1 21 RX1 yX1_bailAt wsX1_bailAt) := goodIn_app (goodIn_of _ (by decide +kernel)) ggX1_find_X1_bailAt
theorem dX1_find_0 : decode cX1_find 0 = .ok (.aload_n 0, 1) := by decide +kernel
theorem dX1_find_1 : decode cX1_find 1 = .ok (.aload_n 0, 1) := by decide +kernel
theorem dX1_find_2 : decode cX1_find 2 = .ok (.iload_n 1, 1) := by decide +kernel
theorem dX1_find_3 : decode cX1_find 3 = .ok (.invokevirtual 35, 3) := by decide +kernel
theorem dX1_find_6 : decode cX1_find 6 = .ok (.invokevirtual 21, 3) := by decide +kernel
theorem dX1_find_9 : decode cX1_find 9 = .ok (.areturn, 1) := by decide +kernel
set_option maxRecDepth 20000 in
theorem ggX1_sumOfSurety_X1_bailAt : GoodIn wsX1_sumOfSurety wsX1_bailAt := goodIn_r _ [8, 1, 9, 10, 11] (by decide +kernel) (by decide +kernel)
set_option maxRecDepth 20000 in
theorem gX1_sumOfSurety_X1_bailAt : GoodIn wsX1_sumOfSurety (wsV RX1 21 RX1 yX1_bailAt wsX1_bailAt) := goodIn_app (goodIn_of _ (by decide +kernel)) ggX1_sumOfSurety_X1_bailAt
theorem dX1_sumOfSurety_0 : decode cX1_sumOfSurety 0 = .ok (.iconst 0, 1) := by decide +kernel
theorem dX1_sumOfSurety_1 : decode cX1_sumOfSurety 1 = .ok (.istore_n 2, 1) := by decide +kernel
theorem dX1_sumOfSurety_2 : decode cX1_sumOfSurety 2 = .ok (.iconst 0, 1) := by decide +kernel
theorem dX1_sumOfSurety_3 : decode cX1_sumOfSurety 3 = .ok (.istore_n 3, 1) := by decide +kernel
theorem dX1_sumOfSurety_4 : decode cX1_sumOfSurety 4 = .ok (.iload_n 3, 1) := by decide +kernel
theorem dX1_sumOfSurety_5 : decode cX1_sumOfSurety 5 = .ok (.aload_n 0, 1) := by decide +kernel
theorem dX1_sumOfSurety_6 : decode cX1_sumOfSurety 6 = .ok (.getfield 17, 3) := by decide +kernel
theorem dX1_sumOfSurety_9 : decode cX1_sumOfSurety 9 = .ok (.if_icmp .ge 38, 3) := by decide +kernel
theorem dX1_sumOfSurety_12 : decode cX1_sumOfSurety 12 = .ok (.aload_n 0, 1) := by decide +kernel
theorem dX1_sumOfSurety_13 : decode cX1_sumOfSurety 13 = .ok (.iload_n 3, 1) := by decide +kernel
theorem dX1_sumOfSurety_14 : decode cX1_sumOfSurety 14 = .ok (.invokevirtual 21, 3) := by decide +kernel
theorem dX1_sumOfSurety_17 : decode cX1_sumOfSurety 17 = .ok (.astore 4, 2) := by decide +kernel
theorem dX1_sumOfSurety_19 : decode cX1_sumOfSurety 19 = .ok (.aload 4, 2) := by decide +kernel
theorem dX1_sumOfSurety_21 : decode cX1_sumOfSurety 21 = .ok (.ifnull 20, 3) := by decide +kernel
theorem dX1_sumOfSurety_24 : decode cX1_sumOfSurety 24 = .ok (.aload 4, 2) := by decide +kernel
theorem dX1_sumOfSurety_26 : decode cX1_sumOfSurety 26 = .ok (.getfield 38, 3) := by decide +kernel
theorem dX1_sumOfSurety_29 : decode cX1_sumOfSurety 29 = .ok (.iload_n 1, 1) := by decide +kernel
theorem dX1_sumOfSurety_30 : decode cX1_sumOfSurety 30 = .ok (.if_icmp .ne 11, 3) := by decide +kernel
theorem dX1_sumOfSurety_33 : decode cX1_sumOfSurety 33 = .ok (.iload_n 2, 1) := by decide +kernel
theorem dX1_sumOfSurety_34 : decode cX1_sumOfSurety 34 = .ok (.aload 4, 2) := by decide +kernel
theorem dX1_sumOfSurety_36 : decode cX1_sumOfSurety 36 = .ok (.getfield 41, 3) := by decide +kernel
theorem dX1_sumOfSurety_39 : decode cX1_sumOfSurety 39 = .ok (.iadd, 1) := by decide +kernel
theorem dX1_sumOfSurety_40 : decode cX1_sumOfSurety 40 = .ok (.istore_n 2, 1) := by decide +kernel
theorem dX1_sumOfSurety_41 : decode cX1_sumOfSurety 41 = .ok (.iinc 3 1, 3) := by decide +kernel
theorem dX1_sumOfSurety_44 : decode cX1_sumOfSurety 44 = .ok (.goto (-40), 3) := by decide +kernel
theorem dX1_sumOfSurety_47 : decode cX1_sumOfSurety 47 = .ok (.iload_n 2, 1) := by decide +kernel
theorem dX1_sumOfSurety_48 : decode cX1_sumOfSurety 48 = .ok (.ireturn, 1) := by decide +kernel
theorem dX1_insert_0 : decode cX1_insert 0 = .ok (.iload_n 1, 1) := by decide +kernel
theorem dX1_insert_1 : decode cX1_insert 1 = .ok (.ifCond .lt 23, 3) := by decide +kernel
theorem dX1_insert_4 : decode cX1_insert 4 = .ok (.iload_n 1, 1) := by decide +kernel
theorem dX1_insert_5 : decode cX1_insert 5 = .ok (.aload_n 0, 1) := by decide +kernel
theorem dX1_insert_6 : decode cX1_insert 6 = .ok (.getfield 17, 3) := by decide +kernel
theorem dX1_insert_9 : decode cX1_insert 9 = .ok (.if_icmp .gt 15, 3) := by decide +kernel
theorem dX1_insert_12 : decode cX1_insert 12 = .ok (.aload_n 0, 1) := by decide +kernel
theorem dX1_insert_13 : decode cX1_insert 13 = .ok (.getfield 17, 3) := by decide +kernel
theorem dX1_insert_16 : decode cX1_insert 16 = .ok (.aload_n 0, 1) := by decide +kernel
theorem dX1_insert_17 : decode cX1_insert 17 = .ok (.getfield 11, 3) := by decide +kernel
theorem dX1_insert_20 : decode cX1_insert 20 = .ok (.arraylength, 1) := by decide +kernel
theorem dX1_insert_21 : decode cX1_insert 21 = .ok (.if_icmp .lt 4, 3) := by decide +kernel
theorem dX1_insert_24 : decode cX1_insert 24 = .ok (.return_, 1) := by decide +kernel
theorem dX1_insert_25 : decode cX1_insert 25 = .ok (.aload_n 0, 1) := by decide +kernel
theorem dX1_insert_26 : decode cX1_insert 26 = .ok (.getfield 17, 3) := by decide +kernel
theorem dX1_insert_29 : decode cX1_insert 29 = .ok (.istore_n 3, 1) := by decide +kernel
theorem dX1_insert_30 : decode cX1_insert 30 = .ok (.iload_n 3, 1) := by decide +kernel
theorem dX1_insert_31 : decode cX1_insert 31 = .ok (.iload_n 1, 1) := by decide +kernel
theorem dX1_insert_32 : decode cX1_insert 32 = .ok (.if_icmp .le 23, 3) := by decide +kernel
theorem dX1_insert_35 : decode cX1_insert 35 = .ok (.aload_n 0, 1) := by decide +kernel
theorem dX1_insert_36 : decode cX1_insert 36 = .ok (.getfield 11, 3) := by decide +kernel
theorem dX1_insert_39 : decode cX1_insert 39 = .ok (.iload_n 3, 1) := by decide +kernel
theorem dX1_insert_40 : decode cX1_insert 40 = .ok (.aload_n 0, 1) := by decide +kernel
theorem dX1_insert_41 : decode cX1_insert 41 = .ok (.getfield 11, 3) := by decide +kernel
theorem dX1_insert_44 : decode cX1_insert 44 = .ok (.iload_n 3, 1) := by decide +kernel
theorem dX1_insert_45 : decode cX1_insert 45 = .ok (.iconst 1, 1) := by decide +kernel
theorem dX1_insert_46 : decode cX1_insert 46 = .ok (.isub, 1) := by decide +kernel
theorem dX1_insert_47 : decode cX1_insert 47 = .ok (.aaload, 1) := by decide +kernel
theorem dX1_insert_48 : decode cX1_insert 48 = .ok (.aastore, 1) := by decide +kernel
theorem dX1_insert_49 : decode cX1_insert 49 = .ok (.iinc 3 (-1), 3) := by decide +kernel
theorem dX1_insert_52 : decode cX1_insert 52 = .ok (.goto (-22), 3) := by decide +kernel
theorem dX1_insert_55 : decode cX1_insert 55 = .ok (.aload_n 0, 1) := by decide +kernel
theorem dX1_insert_56 : decode cX1_insert 56 = .ok (.getfield 11, 3) := by decide +kernel
theorem dX1_insert_59 : decode cX1_insert 59 = .ok (.iload_n 1, 1) := by decide +kernel
theorem dX1_insert_60 : decode cX1_insert 60 = .ok (.aload_n 2, 1) := by decide +kernel
theorem dX1_insert_61 : decode cX1_insert 61 = .ok (.aastore, 1) := by decide +kernel
theorem dX1_insert_62 : decode cX1_insert 62 = .ok (.aload_n 0, 1) := by decide +kernel
theorem dX1_insert_63 : decode cX1_insert 63 = .ok (.dup, 1) := by decide +kernel
theorem dX1_insert_64 : decode cX1_insert 64 = .ok (.getfield 17, 3) := by decide +kernel
theorem dX1_insert_67 : decode cX1_insert 67 = .ok (.iconst 1, 1) := by decide +kernel
theorem dX1_insert_68 : decode cX1_insert 68 = .ok (.iadd, 1) := by decide +kernel
theorem dX1_insert_69 : decode cX1_insert 69 = .ok (.putfield 17, 3) := by decide +kernel
theorem dX1_insert_72 : decode cX1_insert 72 = .ok (.return_, 1) := by decide +kernel
set_option maxRecDepth 20000 in
theorem ggX1_remove_X1_bailAt : GoodIn wsX1_remove wsX1_bailAt := goodIn_r _ [7, 1, 2, 8, 9] (by decide +kernel) (by decide +kernel)
set_option maxRecDepth 20000 in
theorem gX1_remove_X1_bailAt : GoodIn wsX1_remove (wsV RX1 21 RX1 yX1_bailAt wsX1_bailAt) := goodIn_app (goodIn_of _ (by decide +kernel)) ggX1_remove_X1_bailAt
theorem dX1_remove_0 : decode cX1_remove 0 = .ok (.aload_n 0, 1) := by decide +kernel
theorem dX1_remove_1 : decode cX1_remove 1 = .ok (.iload_n 1, 1) := by decide +kernel
theorem dX1_remove_2 : decode cX1_remove 2 = .ok (.invokevirtual 21, 3) := by decide +kernel
theorem dX1_remove_5 : decode cX1_remove 5 = .ok (.ifnonnull 4, 3) := by decide +kernel
theorem dX1_remove_8 : decode cX1_remove 8 = .ok (.return_, 1) := by decide +kernel
theorem dX1_remove_9 : decode cX1_remove 9 = .ok (.aload_n 0, 1) := by decide +kernel
theorem dX1_remove_10 : decode cX1_remove 10 = .ok (.dup, 1) := by decide +kernel
theorem dX1_remove_11 : decode cX1_remove 11 = .ok (.getfield 17, 3) := by decide +kernel
theorem dX1_remove_14 : decode cX1_remove 14 = .ok (.iconst 1, 1) := by decide +kernel
theorem dX1_remove_15 : decode cX1_remove 15 = .ok (.isub, 1) := by decide +kernel
theorem dX1_remove_16 : decode cX1_remove 16 = .ok (.putfield 17, 3) := by decide +kernel
theorem dX1_remove_19 : decode cX1_remove 19 = .ok (.iload_n 1, 1) := by decide +kernel
theorem dX1_remove_20 : decode cX1_remove 20 = .ok (.istore_n 2, 1) := by decide +kernel
theorem dX1_remove_21 : decode cX1_remove 21 = .ok (.iload_n 2, 1) := by decide +kernel
theorem dX1_remove_22 : decode cX1_remove 22 = .ok (.aload_n 0, 1) := by decide +kernel
theorem dX1_remove_23 : decode cX1_remove 23 = .ok (.getfield 17, 3) := by decide +kernel
theorem dX1_remove_26 : decode cX1_remove 26 = .ok (.if_icmp .ge 23, 3) := by decide +kernel
theorem dX1_remove_29 : decode cX1_remove 29 = .ok (.aload_n 0, 1) := by decide +kernel
theorem dX1_remove_30 : decode cX1_remove 30 = .ok (.getfield 11, 3) := by decide +kernel
theorem dX1_remove_33 : decode cX1_remove 33 = .ok (.iload_n 2, 1) := by decide +kernel
theorem dX1_remove_34 : decode cX1_remove 34 = .ok (.aload_n 0, 1) := by decide +kernel
theorem dX1_remove_35 : decode cX1_remove 35 = .ok (.getfield 11, 3) := by decide +kernel
theorem dX1_remove_38 : decode cX1_remove 38 = .ok (.iload_n 2, 1) := by decide +kernel
theorem dX1_remove_39 : decode cX1_remove 39 = .ok (.iconst 1, 1) := by decide +kernel
theorem dX1_remove_40 : decode cX1_remove 40 = .ok (.iadd, 1) := by decide +kernel
theorem dX1_remove_41 : decode cX1_remove 41 = .ok (.aaload, 1) := by decide +kernel
theorem dX1_remove_42 : decode cX1_remove 42 = .ok (.aastore, 1) := by decide +kernel
theorem dX1_remove_43 : decode cX1_remove 43 = .ok (.iinc 2 1, 3) := by decide +kernel
theorem dX1_remove_46 : decode cX1_remove 46 = .ok (.goto (-25), 3) := by decide +kernel
theorem dX1_remove_49 : decode cX1_remove 49 = .ok (.aload_n 0, 1) := by decide +kernel
theorem dX1_remove_50 : decode cX1_remove 50 = .ok (.getfield 11, 3) := by decide +kernel
theorem dX1_remove_53 : decode cX1_remove 53 = .ok (.aload_n 0, 1) := by decide +kernel
theorem dX1_remove_54 : decode cX1_remove 54 = .ok (.getfield 17, 3) := by decide +kernel
theorem dX1_remove_57 : decode cX1_remove 57 = .ok (.aconst_null, 1) := by decide +kernel
theorem dX1_remove_58 : decode cX1_remove 58 = .ok (.aastore, 1) := by decide +kernel
theorem dX1_remove_59 : decode cX1_remove 59 = .ok (.return_, 1) := by decide +kernel
theorem dX2_init_0 : decode cX2_init 0 = .ok (.aload_n 0, 1) := by decide +kernel
theorem dX2_init_1 : decode cX2_init 1 = .ok (.invokespecial 3, 3) := by decide +kernel
theorem dX2_init_4 : decode cX2_init 4 = .ok (.aload_n 0, 1) := by decide +kernel
theorem dX2_init_5 : decode cX2_init 5 = .ok (.bipush 80, 2) := by decide +kernel
theorem dX2_init_7 : decode cX2_init 7 = .ok (.newarray .int, 2) := by decide +kernel
theorem dX2_init_9 : decode cX2_init 9 = .ok (.putfield 9, 3) := by decide +kernel
theorem dX2_init_12 : decode cX2_init 12 = .ok (.return_, 1) := by decide +kernel
theorem dX2_count_0 : decode cX2_count 0 = .ok (.aload_n 0, 1) := by decide +kernel
theorem dX2_count_1 : decode cX2_count 1 = .ok (.getfield 15, 3) := by decide +kernel
theorem dX2_count_4 : decode cX2_count 4 = .ok (.ireturn, 1) := by decide +kernel
theorem dX2_has_0 : decode cX2_has 0 = .ok (.iload_n 1, 1) := by decide +kernel
theorem dX2_has_1 : decode cX2_has 1 = .ok (.ifCond .lt 24, 3) := by decide +kernel
theorem dX2_has_4 : decode cX2_has 4 = .ok (.iload_n 1, 1) := by decide +kernel
theorem dX2_has_5 : decode cX2_has 5 = .ok (.aload_n 0, 1) := by decide +kernel
theorem dX2_has_6 : decode cX2_has 6 = .ok (.getfield 15, 3) := by decide +kernel
theorem dX2_has_9 : decode cX2_has 9 = .ok (.if_icmp .ge 16, 3) := by decide +kernel
theorem dX2_has_12 : decode cX2_has 12 = .ok (.iload_n 1, 1) := by decide +kernel
theorem dX2_has_13 : decode cX2_has 13 = .ok (.aload_n 0, 1) := by decide +kernel
theorem dX2_has_14 : decode cX2_has 14 = .ok (.getfield 9, 3) := by decide +kernel
theorem dX2_has_17 : decode cX2_has 17 = .ok (.arraylength, 1) := by decide +kernel
theorem dX2_has_18 : decode cX2_has 18 = .ok (.if_icmp .ge 7, 3) := by decide +kernel
theorem dX2_has_21 : decode cX2_has 21 = .ok (.iconst 1, 1) := by decide +kernel
theorem dX2_has_22 : decode cX2_has 22 = .ok (.goto 4, 3) := by decide +kernel
theorem dX2_has_25 : decode cX2_has 25 = .ok (.iconst 0, 1) := by decide +kernel
theorem dX2_has_26 : decode cX2_has 26 = .ok (.ireturn, 1) := by decide +kernel
set_option maxRecDepth 20000 in
theorem ggX2_sizeOf_X2_has : GoodIn wsX2_sizeOf wsX2_has := goodIn_r _ [6, 7, 1, 8, 9] (by decide +kernel) (by decide +kernel)
set_option maxRecDepth 20000 in
theorem gX2_sizeOf_X2_has : GoodIn wsX2_sizeOf (wsV RX2 19 RX2 yX2_has wsX2_has) := goodIn_app (goodIn_of _ (by decide +kernel)) ggX2_sizeOf_X2_has
theorem dX2_sizeOf_0 : decode cX2_sizeOf 0 = .ok (.aload_n 0, 1) := by decide +kernel
theorem dX2_sizeOf_1 : decode cX2_sizeOf 1 = .ok (.iload_n 1, 1) := by decide +kernel
theorem dX2_sizeOf_2 : decode cX2_sizeOf 2 = .ok (.invokevirtual 19, 3) := by decide +kernel
theorem dX2_sizeOf_5 : decode cX2_sizeOf 5 = .ok (.ifCond .eq 12, 3) := by decide +kernel
theorem dX2_sizeOf_8 : decode cX2_sizeOf 8 = .ok (.aload_n 0, 1) := by decide +kernel
theorem dX2_sizeOf_9 : decode cX2_sizeOf 9 = .ok (.getfield 9, 3) := by decide +kernel
theorem dX2_sizeOf_12 : decode cX2_sizeOf 12 = .ok (.iload_n 1, 1) := by decide +kernel
theorem dX2_sizeOf_13 : decode cX2_sizeOf 13 = .ok (.iaload, 1) := by decide +kernel
theorem dX2_sizeOf_14 : decode cX2_sizeOf 14 = .ok (.goto 4, 3) := by decide +kernel
theorem dX2_sizeOf_17 : decode cX2_sizeOf 17 = .ok (.iconst 0, 1) := by decide +kernel
theorem dX2_sizeOf_18 : decode cX2_sizeOf 18 = .ok (.ireturn, 1) := by decide +kernel
set_option maxRecDepth 20000 in
theorem ggX2_beginOf_X2_sizeOf : GoodIn wsX2_beginOf wsX2_sizeOf := goodIn_r _ [6, 7, 8, 9, 10, 5, 11, 1, 12, 13] (by decide +kernel) (by decide +kernel)
set_option maxRecDepth 20000 in
theorem gX2_beginOf_X2_sizeOf : GoodIn wsX2_beginOf (wsV RX2 23 RX2 yX2_sizeOf wsX2_sizeOf) := goodIn_app (goodIn_of _ (by decide +kernel)) ggX2_beginOf_X2_sizeOf
theorem dX2_beginOf_0 : decode cX2_beginOf 0 = .ok (.iconst 0, 1) := by decide +kernel
theorem dX2_beginOf_1 : decode cX2_beginOf 1 = .ok (.istore_n 2, 1) := by decide +kernel
theorem dX2_beginOf_2 : decode cX2_beginOf 2 = .ok (.iconst 0, 1) := by decide +kernel
theorem dX2_beginOf_3 : decode cX2_beginOf 3 = .ok (.istore_n 3, 1) := by decide +kernel
theorem dX2_beginOf_4 : decode cX2_beginOf 4 = .ok (.iload_n 3, 1) := by decide +kernel
theorem dX2_beginOf_5 : decode cX2_beginOf 5 = .ok (.iload_n 1, 1) := by decide +kernel
theorem dX2_beginOf_6 : decode cX2_beginOf 6 = .ok (.if_icmp .ge 25, 3) := by decide +kernel
theorem dX2_beginOf_9 : decode cX2_beginOf 9 = .ok (.iload_n 3, 1) := by decide +kernel
theorem dX2_beginOf_10 : decode cX2_beginOf 10 = .ok (.aload_n 0, 1) := by decide +kernel
theorem dX2_beginOf_11 : decode cX2_beginOf 11 = .ok (.getfield 15, 3) := by decide +kernel
theorem dX2_beginOf_14 : decode cX2_beginOf 14 = .ok (.if_icmp .ge 17, 3) := by decide +kernel
theorem dX2_beginOf_17 : decode cX2_beginOf 17 = .ok (.iload_n 2, 1) := by decide +kernel
theorem dX2_beginOf_18 : decode cX2_beginOf 18 = .ok (.aload_n 0, 1) := by decide +kernel
theorem dX2_beginOf_19 : decode cX2_beginOf 19 = .ok (.iload_n 3, 1) := by decide +kernel
theorem dX2_beginOf_20 : decode cX2_beginOf 20 = .ok (.invokevirtual 23, 3) := by decide +kernel
theorem dX2_beginOf_23 : decode cX2_beginOf 23 = .ok (.iadd, 1) := by decide +kernel
theorem dX2_beginOf_24 : decode cX2_beginOf 24 = .ok (.istore_n 2, 1) := by decide +kernel
theorem dX2_beginOf_25 : decode cX2_beginOf 25 = .ok (.iinc 3 1, 3) := by decide +kernel
theorem dX2_beginOf_28 : decode cX2_beginOf 28 = .ok (.goto (-24), 3) := by decide +kernel
theorem dX2_beginOf_31 : decode cX2_beginOf 31 = .ok (.iload_n 2, 1) := by decide +kernel
theorem dX2_beginOf_32 : decode cX2_beginOf 32 = .ok (.ireturn, 1) := by decide +kernel
set_option maxRecDepth 20000 in
theorem ggX2_pageWith_X2_sizeOf : GoodIn wsX2_pageWith wsX2_sizeOf := goodIn_r _ [6, 7, 8, 9, 10, 5, 11, 1, 12, 13] (by decide +kernel) (by decide +kernel)
set_option maxRecDepth 20000 in
theorem gX2_pageWith_X2_sizeOf : GoodIn wsX2_pageWith (wsV RX2 23 RX2 yX2_sizeOf wsX2_sizeOf) := goodIn_app (goodIn_of _ (by decide +kernel)) ggX2_pageWith_X2_sizeOf
theorem dX2_pageWith_0 : decode cX2_pageWith 0 = .ok (.iconst 0, 1) := by decide +kernel
theorem dX2_pageWith_1 : decode cX2_pageWith 1 = .ok (.istore_n 2, 1) := by decide +kernel
theorem dX2_pageWith_2 : decode cX2_pageWith 2 = .ok (.iconst 0, 1) := by decide +kernel
theorem dX2_pageWith_3 : decode cX2_pageWith 3 = .ok (.istore_n 3, 1) := by decide +kernel
theorem dX2_pageWith_4 : decode cX2_pageWith 4 = .ok (.iload_n 3, 1) := by decide +kernel
theorem dX2_pageWith_5 : decode cX2_pageWith 5 = .ok (.aload_n 0, 1) := by decide +kernel
theorem dX2_pageWith_6 : decode cX2_pageWith 6 = .ok (.getfield 15, 3) := by decide +kernel
theorem dX2_pageWith_9 : decode cX2_pageWith 9 = .ok (.if_icmp .ge 28, 3) := by decide +kernel
theorem dX2_pageWith_12 : decode cX2_pageWith 12 = .ok (.iload_n 2, 1) := by decide +kernel
theorem dX2_pageWith_13 : decode cX2_pageWith 13 = .ok (.aload_n 0, 1) := by decide +kernel
theorem dX2_pageWith_14 : decode cX2_pageWith 14 = .ok (.iload_n 3, 1) := by decide +kernel
theorem dX2_pageWith_15 : decode cX2_pageWith 15 = .ok (.invokevirtual 23, 3) := by decide +kernel
theorem dX2_pageWith_18 : decode cX2_pageWith 18 = .ok (.iadd, 1) := by decide +kernel
theorem dX2_pageWith_19 : decode cX2_pageWith 19 = .ok (.istore_n 2, 1) := by decide +kernel
theorem dX2_pageWith_20 : decode cX2_pageWith 20 = .ok (.iload_n 1, 1) := by decide +kernel
theorem dX2_pageWith_21 : decode cX2_pageWith 21 = .ok (.ifCond .lt 10, 3) := by decide +kernel
theorem dX2_pageWith_24 : decode cX2_pageWith 24 = .ok (.iload_n 1, 1) := by decide +kernel
theorem dX2_pageWith_25 : decode cX2_pageWith 25 = .ok (.iload_n 2, 1) := by decide +kernel
theorem dX2_pageWith_26 : decode cX2_pageWith 26 = .ok (.if_icmp .ge 5, 3) := by decide +kernel
theorem dX2_pageWith_29 : decode cX2_pageWith 29 = .ok (.iload_n 3, 1) := by decide +kernel
theorem dX2_pageWith_30 : decode cX2_pageWith 30 = .ok (.ireturn, 1) := by decide +kernel
theorem dX2_pageWith_31 : decode cX2_pageWith 31 = .ok (.iinc 3 1, 3) := by decide +kernel
theorem dX2_pageWith_34 : decode cX2_pageWith 34 = .ok (.goto (-30), 3) := by decide +kernel
theorem dX2_pageWith_37 : decode cX2_pageWith 37 = .ok (.iconst (-1), 1) := by decide +kernel
theorem dX2_pageWith_38 : decode cX2_pageWith 38 = .ok (.ireturn, 1) := by decide +kernel
set_option maxRecDepth 20000 in
theorem ggX2_addTo_X2_has : GoodIn wsX2_addTo wsX2_has := goodIn_r _ [7, 1, 2, 8, 9] (by decide +kernel) (by decide +kernel)
set_option maxRecDepth 20000 in
theorem gX2_addTo_X2_has : GoodIn wsX2_addTo (wsV RX2 19 RX2 yX2_has wsX2_has) := goodIn_app (goodIn_of _ (by decide +kernel)) ggX2_addTo_X2_has
theorem dX2_addTo_0 : decode cX2_addTo 0 = .ok (.aload_n 0, 1) := by decide +kernel
theorem dX2_addTo_1 : decode cX2_addTo 1 = .ok (.getfield 15, 3) := by decide +kernel
theorem dX2_addTo_4 : decode cX2_addTo 4 = .ok (.ifCond .ne 18, 3) := by decide +kernel
theorem dX2_addTo_7 : decode cX2_addTo 7 = .ok (.aload_n 0, 1) := by decide +kernel
theorem dX2_addTo_8 : decode cX2_addTo 8 = .ok (.getfield 9, 3) := by decide +kernel
theorem dX2_addTo_11 : decode cX2_addTo 11 = .ok (.iconst 0, 1) := by decide +kernel
theorem dX2_addTo_12 : decode cX2_addTo 12 = .ok (.iconst 1, 1) := by decide +kernel
theorem dX2_addTo_13 : decode cX2_addTo 13 = .ok (.iastore, 1) := by decide +kernel
theorem dX2_addTo_14 : decode cX2_addTo 14 = .ok (.aload_n 0, 1) := by decide +kernel
theorem dX2_addTo_15 : decode cX2_addTo 15 = .ok (.iconst 1, 1) := by decide +kernel
theorem dX2_addTo_16 : decode cX2_addTo 16 = .ok (.putfield 15, 3) := by decide +kernel
theorem dX2_addTo_19 : decode cX2_addTo 19 = .ok (.goto 21, 3) := by decide +kernel
theorem dX2_addTo_22 : decode cX2_addTo 22 = .ok (.aload_n 0, 1) := by decide +kernel
theorem dX2_addTo_23 : decode cX2_addTo 23 = .ok (.iload_n 1, 1) := by decide +kernel
theorem dX2_addTo_24 : decode cX2_addTo 24 = .ok (.invokevirtual 19, 3) := by decide +kernel
theorem dX2_addTo_27 : decode cX2_addTo 27 = .ok (.ifCond .eq 13, 3) := by decide +kernel
theorem dX2_addTo_30 : decode cX2_addTo 30 = .ok (.aload_n 0, 1) := by decide +kernel
theorem dX2_addTo_31 : decode cX2_addTo 31 = .ok (.getfield 9, 3) := by decide +kernel
theorem dX2_addTo_34 : decode cX2_addTo 34 = .ok (.iload_n 1, 1) := by decide +kernel
theorem dX2_addTo_35 : decode cX2_addTo 35 = .ok (.dup2, 1) := by decide +kernel
theorem dX2_addTo_36 : decode cX2_addTo 36 = .ok (.iaload, 1) := by decide +kernel
theorem dX2_addTo_37 : decode cX2_addTo 37 = .ok (.iconst 1, 1) := by decide +kernel
theorem dX2_addTo_38 : decode cX2_addTo 38 = .ok (.iadd, 1) := by decide +kernel
theorem dX2_addTo_39 : decode cX2_addTo 39 = .ok (.iastore, 1) := by decide +kernel
theorem dX2_addTo_40 : decode cX2_addTo 40 = .ok (.return_, 1) := by decide +kernel
set_option maxRecDepth 20000 in
theorem ggX2_split_X2_has : GoodIn wsX2_split wsX2_has := goodIn_r _ [7, 1, 2, 8, 9] (by decide +kernel) (by decide +kernel)
set_option maxRecDepth 20000 in
theorem gX2_split_X2_has : GoodIn wsX2_split (wsV RX2 19 RX2 yX2_has wsX2_has) := goodIn_app (goodIn_of _ (by decide +kernel)) ggX2_split_X2_has
theorem dX2_split_0 : decode cX2_split 0 = .ok (.aload_n 0, 1) := by decide +kernel
theorem dX2_split_1 : decode cX2_split 1 = .ok (.iload_n 1, 1) := by decide +kernel
theorem dX2_split_2 : decode cX2_split 2 = .ok (.invokevirtual 19, 3) := by decide +kernel
theorem dX2_split_5 : decode cX2_split 5 = .ok (.ifCond .eq 15, 3) := by decide +kernel
theorem dX2_split_8 : decode cX2_split 8 = .ok (.aload_n 0, 1) := by decide +kernel
theorem dX2_split_9 : decode cX2_split 9 = .ok (.getfield 15, 3) := by decide +kernel
theorem dX2_split_12 : decode cX2_split 12 = .ok (.aload_n 0, 1) := by decide +kernel
theorem dX2_split_13 : decode cX2_split 13 = .ok (.getfield 9, 3) := by decide +kernel
theorem dX2_split_16 : decode cX2_split 16 = .ok (.arraylength, 1) := by decide +kernel
theorem dX2_split_17 : decode cX2_split 17 = .ok (.if_icmp .lt 4, 3) := by decide +kernel
theorem dX2_split_20 : decode cX2_split 20 = .ok (.return_, 1) := by decide +kernel
theorem dX2_split_21 : decode cX2_split 21 = .ok (.aload_n 0, 1) := by decide +kernel
theorem dX2_split_22 : decode cX2_split 22 = .ok (.getfield 15, 3) := by decide +kernel
theorem dX2_split_25 : decode cX2_split 25 = .ok (.istore_n 2, 1) := by decide +kernel
theorem dX2_split_26 : decode cX2_split 26 = .ok (.iload_n 2, 1) := by decide +kernel
theorem dX2_split_27 : decode cX2_split 27 = .ok (.iload_n 1, 1) := by decide +kernel
theorem dX2_split_28 : decode cX2_split 28 = .ok (.iconst 1, 1) := by decide +kernel
theorem dX2_split_29 : decode cX2_split 29 = .ok (.iadd, 1) := by decide +kernel
theorem dX2_split_30 : decode cX2_split 30 = .ok (.if_icmp .le 23, 3) := by decide +kernel
theorem dX2_split_33 : decode cX2_split 33 = .ok (.aload_n 0, 1) := by decide +kernel
theorem dX2_split_34 : decode cX2_split 34 = .ok (.getfield 9, 3) := by decide +kernel
theorem dX2_split_37 : decode cX2_split 37 = .ok (.iload_n 2, 1) := by decide +kernel
theorem dX2_split_38 : decode cX2_split 38 = .ok (.aload_n 0, 1) := by decide +kernel
theorem dX2_split_39 : decode cX2_split 39 = .ok (.getfield 9, 3) := by decide +kernel
theorem dX2_split_42 : decode cX2_split 42 = .ok (.iload_n 2, 1) := by decide +kernel
theorem dX2_split_43 : decode cX2_split 43 = .ok (.iconst 1, 1) := by decide +kernel
theorem dX2_split_44 : decode cX2_split 44 = .ok (.isub, 1) := by decide +kernel
theorem dX2_split_45 : decode cX2_split 45 = .ok (.iaload, 1) := by decide +kernel
theorem dX2_split_46 : decode cX2_split 46 = .ok (.iastore, 1) := by decide +kernel
theorem dX2_split_47 : decode cX2_split 47 = .ok (.iinc 2 (-1), 3) := by decide +kernel
theorem dX2_split_50 : decode cX2_split 50 = .ok (.goto (-24), 3) := by decide +kernel
theorem dX2_split_53 : decode cX2_split 53 = .ok (.aload_n 0, 1) := by decide +kernel
theorem dX2_split_54 : decode cX2_split 54 = .ok (.getfield 9, 3) := by decide +kernel
theorem dX2_split_57 : decode cX2_split 57 = .ok (.iload_n 1, 1) := by decide +kernel
theorem dX2_split_58 : decode cX2_split 58 = .ok (.iconst 1, 1) := by decide +kernel
theorem dX2_split_59 : decode cX2_split 59 = .ok (.iadd, 1) := by decide +kernel
theorem dX2_split_60 : decode cX2_split 60 = .ok (.iconst 2, 1) := by decide +kernel
theorem dX2_split_61 : decode cX2_split 61 = .ok (.iastore, 1) := by decide +kernel
theorem dX2_split_62 : decode cX2_split 62 = .ok (.aload_n 0, 1) := by decide +kernel
theorem dX2_split_63 : decode cX2_split 63 = .ok (.getfield 9, 3) := by decide +kernel
theorem dX2_split_66 : decode cX2_split 66 = .ok (.iload_n 1, 1) := by decide +kernel
theorem dX2_split_67 : decode cX2_split 67 = .ok (.dup2, 1) := by decide +kernel
theorem dX2_split_68 : decode cX2_split 68 = .ok (.iaload, 1) := by decide +kernel
theorem dX2_split_69 : decode cX2_split 69 = .ok (.iconst 2, 1) := by decide +kernel
theorem dX2_split_70 : decode cX2_split 70 = .ok (.isub, 1) := by decide +kernel
theorem dX2_split_71 : decode cX2_split 71 = .ok (.iastore, 1) := by decide +kernel
theorem dX2_split_72 : decode cX2_split 72 = .ok (.aload_n 0, 1) := by decide +kernel
theorem dX2_split_73 : decode cX2_split 73 = .ok (.dup, 1) := by decide +kernel
theorem dX2_split_74 : decode cX2_split 74 = .ok (.getfield 15, 3) := by decide +kernel
theorem dX2_split_77 : decode cX2_split 77 = .ok (.iconst 1, 1) := by decide +kernel
theorem dX2_split_78 : decode cX2_split 78 = .ok (.iadd, 1) := by decide +kernel
theorem dX2_split_79 : decode cX2_split 79 = .ok (.putfield 15, 3) := by decide +kernel
theorem dX2_split_82 : decode cX2_split 82 = .ok (.return_, 1) := by decide +kernel
set_option maxRecDepth 20000 in
theorem ggX2_takeFrom_X2_has : GoodIn wsX2_takeFrom wsX2_has := goodIn_r _ [7, 2, 1, 24, 25] (by decide +kernel) (by decide +kernel)
set_option maxRecDepth 20000 in
theorem gX2_takeFrom_X2_has : GoodIn wsX2_takeFrom (wsV RX2 19 RX2 yX2_has wsX2_has) := goodIn_app (goodIn_of _ (by decide +kernel)) ggX2_takeFrom_X2_has
set_option maxRecDepth 20000 in
theorem ggX2_takeFrom_X2_remove : GoodIn wsX2_takeFrom wsX2_remove := goodIn_r _ [11, 2, 1, 3, 4, 5, 6, 7, 24, 25] (by decide +kernel) (by decide +kernel)
set_option maxRecDepth 20000 in
theorem gX2_takeFrom_X2_remove : GoodIn wsX2_takeFrom (wsV RX2 27 RX2 yX2_remove wsX2_remove) := goodIn_app (goodIn_of _ (by decide +kernel)) ggX2_takeFrom_X2_remove
set_option maxRecDepth 20000 in
theorem ggX2_takeFrom_X2_borrowOrJoin : GoodIn wsX2_takeFrom wsX2_borrowOrJoin := goodIn_r _ [15, 16, 17, 18, 6, 19, 1, 3, 4, 5, 7, 2, 20, 21, 22, 23, 8, 9, 10, 11, 24, 25] (by decide +kernel) (by decide +kernel)
set_option maxRecDepth 20000 in
theorem gX2_takeFrom_X2_borrowOrJoin : GoodIn wsX2_takeFrom (wsV RX2 31 RX2 yX2_borrowOrJoin wsX2_borrowOrJoin) := goodIn_app (goodIn_of _ (by decide +kernel)) ggX2_takeFrom_X2_borrowOrJoin
theorem dX2_takeFrom_0 : decode cX2_takeFrom 0 = .ok (.aload_n 0, 1) := by decide +kernel
theorem dX2_takeFrom_1 : decode cX2_takeFrom 1 = .ok (.iload_n 1, 1) := by decide +kernel
theorem dX2_takeFrom_2 : decode cX2_takeFrom 2 = .ok (.invokevirtual 19, 3) := by decide +kernel
theorem dX2_takeFrom_5 : decode cX2_takeFrom 5 = .ok (.ifCond .ne 4, 3) := by decide +kernel
theorem dX2_takeFrom_8 : decode cX2_takeFrom 8 = .ok (.return_, 1) := by decide +kernel
theorem dX2_takeFrom_9 : decode cX2_takeFrom 9 = .ok (.aload_n 0, 1) := by decide +kernel
theorem dX2_takeFrom_10 : decode cX2_takeFrom 10 = .ok (.getfield 9, 3) := by decide +kernel
theorem dX2_takeFrom_13 : decode cX2_takeFrom 13 = .ok (.iload_n 1, 1) := by decide +kernel
theorem dX2_takeFrom_14 : decode cX2_takeFrom 14 = .ok (.dup2, 1) := by decide +kernel
theorem dX2_takeFrom_15 : decode cX2_takeFrom 15 = .ok (.iaload, 1) := by decide +kernel
theorem dX2_takeFrom_16 : decode cX2_takeFrom 16 = .ok (.iconst 1, 1) := by decide +kernel
theorem dX2_takeFrom_17 : decode cX2_takeFrom 17 = .ok (.isub, 1) := by decide +kernel
theorem dX2_takeFrom_18 : decode cX2_takeFrom 18 = .ok (.iastore, 1) := by decide +kernel
theorem dX2_takeFrom_19 : decode cX2_takeFrom 19 = .ok (.aload_n 0, 1) := by decide +kernel
theorem dX2_takeFrom_20 : decode cX2_takeFrom 20 = .ok (.getfield 9, 3) := by decide +kernel
theorem dX2_takeFrom_23 : decode cX2_takeFrom 23 = .ok (.iload_n 1, 1) := by decide +kernel
theorem dX2_takeFrom_24 : decode cX2_takeFrom 24 = .ok (.iaload, 1) := by decide +kernel
theorem dX2_takeFrom_25 : decode cX2_takeFrom 25 = .ok (.ifCond .ne 11, 3) := by decide +kernel
theorem dX2_takeFrom_28 : decode cX2_takeFrom 28 = .ok (.aload_n 0, 1) := by decide +kernel
theorem dX2_takeFrom_29 : decode cX2_takeFrom 29 = .ok (.iload_n 1, 1) := by decide +kernel
theorem dX2_takeFrom_30 : decode cX2_takeFrom 30 = .ok (.invokevirtual 27, 3) := by decide +kernel
theorem dX2_takeFrom_33 : decode cX2_takeFrom 33 = .ok (.goto 26, 3) := by decide +kernel
theorem dX2_takeFrom_36 : decode cX2_takeFrom 36 = .ok (.aload_n 0, 1) := by decide +kernel
theorem dX2_takeFrom_37 : decode cX2_takeFrom 37 = .ok (.getfield 9, 3) := by decide +kernel
theorem dX2_takeFrom_40 : decode cX2_takeFrom 40 = .ok (.iload_n 1, 1) := by decide +kernel
theorem dX2_takeFrom_41 : decode cX2_takeFrom 41 = .ok (.iaload, 1) := by decide +kernel
theorem dX2_takeFrom_42 : decode cX2_takeFrom 42 = .ok (.iconst 1, 1) := by decide +kernel
theorem dX2_takeFrom_43 : decode cX2_takeFrom 43 = .ok (.if_icmp .ne 16, 3) := by decide +kernel
theorem dX2_takeFrom_46 : decode cX2_takeFrom 46 = .ok (.aload_n 0, 1) := by decide +kernel
theorem dX2_takeFrom_47 : decode cX2_takeFrom 47 = .ok (.getfield 15, 3) := by decide +kernel
theorem dX2_takeFrom_50 : decode cX2_takeFrom 50 = .ok (.iconst 1, 1) := by decide +kernel
theorem dX2_takeFrom_51 : decode cX2_takeFrom 51 = .ok (.if_icmp .le 8, 3) := by decide +kernel
theorem dX2_takeFrom_54 : decode cX2_takeFrom 54 = .ok (.aload_n 0, 1) := by decide +kernel
theorem dX2_takeFrom_55 : decode cX2_takeFrom 55 = .ok (.iload_n 1, 1) := by decide +kernel
theorem dX2_takeFrom_56 : decode cX2_takeFrom 56 = .ok (.invokevirtual 31, 3) := by decide +kernel
theorem dX2_takeFrom_59 : decode cX2_takeFrom 59 = .ok (.return_, 1) := by decide +kernel
set_option maxRecDepth 20000 in
theorem ggX2_move_X2_has : GoodIn wsX2_move wsX2_has := goodIn_r _ [6, 7, 1, 12, 13] (by decide +kernel) (by decide +kernel)
set_option maxRecDepth 20000 in
theorem gX2_move_X2_has : GoodIn wsX2_move (wsV RX2 19 RX2 yX2_has wsX2_has) := goodIn_app (goodIn_of _ (by decide +kernel)) ggX2_move_X2_has
set_option maxRecDepth 20000 in
theorem ggX2_move_X2_remove : GoodIn wsX2_move wsX2_remove := goodIn_r _ [11, 7, 1, 2, 3, 4, 5, 6, 12, 13] (by decide +kernel) (by decide +kernel)
set_option maxRecDepth 20000 in
theorem gX2_move_X2_remove : GoodIn wsX2_move (wsV RX2 27 RX2 yX2_remove wsX2_remove) := goodIn_app (goodIn_of _ (by decide +kernel)) ggX2_move_X2_remove
theorem dX2_move_0 : decode cX2_move 0 = .ok (.aload_n 0, 1) := by decide +kernel
theorem dX2_move_1 : decode cX2_move 1 = .ok (.iload_n 1, 1) := by decide +kernel
theorem dX2_move_2 : decode cX2_move 2 = .ok (.invokevirtual 19, 3) := by decide +kernel
theorem dX2_move_5 : decode cX2_move 5 = .ok (.ifCond .eq 11, 3) := by decide +kernel
theorem dX2_move_8 : decode cX2_move 8 = .ok (.aload_n 0, 1) := by decide +kernel
theorem dX2_move_9 : decode cX2_move 9 = .ok (.iload_n 2, 1) := by decide +kernel
theorem dX2_move_10 : decode cX2_move 10 = .ok (.invokevirtual 19, 3) := by decide +kernel
theorem dX2_move_13 : decode cX2_move 13 = .ok (.ifCond .ne 4, 3) := by decide +kernel
theorem dX2_move_16 : decode cX2_move 16 = .ok (.return_, 1) := by decide +kernel
theorem dX2_move_17 : decode cX2_move 17 = .ok (.aload_n 0, 1) := by decide +kernel
theorem dX2_move_18 : decode cX2_move 18 = .ok (.getfield 9, 3) := by decide +kernel
theorem dX2_move_21 : decode cX2_move 21 = .ok (.iload_n 1, 1) := by decide +kernel
theorem dX2_move_22 : decode cX2_move 22 = .ok (.dup2, 1) := by decide +kernel
theorem dX2_move_23 : decode cX2_move 23 = .ok (.iaload, 1) := by decide +kernel
theorem dX2_move_24 : decode cX2_move 24 = .ok (.iconst 1, 1) := by decide +kernel
theorem dX2_move_25 : decode cX2_move 25 = .ok (.isub, 1) := by decide +kernel
theorem dX2_move_26 : decode cX2_move 26 = .ok (.iastore, 1) := by decide +kernel
theorem dX2_move_27 : decode cX2_move 27 = .ok (.aload_n 0, 1) := by decide +kernel
theorem dX2_move_28 : decode cX2_move 28 = .ok (.getfield 9, 3) := by decide +kernel
theorem dX2_move_31 : decode cX2_move 31 = .ok (.iload_n 2, 1) := by decide +kernel
theorem dX2_move_32 : decode cX2_move 32 = .ok (.dup2, 1) := by decide +kernel
theorem dX2_move_33 : decode cX2_move 33 = .ok (.iaload, 1) := by decide +kernel
theorem dX2_move_34 : decode cX2_move 34 = .ok (.iconst 1, 1) := by decide +kernel
theorem dX2_move_35 : decode cX2_move 35 = .ok (.iadd, 1) := by decide +kernel
theorem dX2_move_36 : decode cX2_move 36 = .ok (.iastore, 1) := by decide +kernel
theorem dX2_move_37 : decode cX2_move 37 = .ok (.aload_n 0, 1) := by decide +kernel
theorem dX2_move_38 : decode cX2_move 38 = .ok (.getfield 9, 3) := by decide +kernel
theorem dX2_move_41 : decode cX2_move 41 = .ok (.iload_n 1, 1) := by decide +kernel
theorem dX2_move_42 : decode cX2_move 42 = .ok (.iaload, 1) := by decide +kernel
theorem dX2_move_43 : decode cX2_move 43 = .ok (.ifCond .ne 8, 3) := by decide +kernel
theorem dX2_move_46 : decode cX2_move 46 = .ok (.aload_n 0, 1) := by decide +kernel
theorem dX2_move_47 : decode cX2_move 47 = .ok (.iload_n 1, 1) := by decide +kernel
theorem dX2_move_48 : decode cX2_move 48 = .ok (.invokevirtual 27, 3) := by decide +kernel
theorem dX2_move_51 : decode cX2_move 51 = .ok (.return_, 1) := by decide +kernel
set_option maxRecDepth 20000 in
theorem ggX2_borrowOrJoin_X2_sizeOf : GoodIn wsX2_borrowOrJoin wsX2_sizeOf := goodIn_r _ [5, 6, 7, 8, 9, 4, 10, 11, 20, 21] (by decide +kernel) (by decide +kernel)
set_option maxRecDepth 20000 in
theorem gX2_borrowOrJoin_X2_sizeOf : GoodIn wsX2_borrowOrJoin (wsV RX2 23 RX2 yX2_sizeOf wsX2_sizeOf) := goodIn_app (goodIn_of _ (by decide +kernel)) ggX2_borrowOrJoin_X2_sizeOf
set_option maxRecDepth 20000 in
theorem ggX2_borrowOrJoin_X2_move : GoodIn wsX2_borrowOrJoin wsX2_move := goodIn_r _ [15, 6, 7, 8, 9, 4, 10, 11, 16, 17, 18, 19, 20, 21] (by decide +kernel) (by decide +kernel)
set_option maxRecDepth 20000 in
theorem gX2_borrowOrJoin_X2_move : GoodIn wsX2_borrowOrJoin (wsV RX2 34 RX2 yX2_move wsX2_move) := goodIn_app (goodIn_of _ (by decide +kernel)) ggX2_borrowOrJoin_X2_move
set_option maxRecDepth 20000 in
theorem ggX2_borrowOrJoin_X2_has : GoodIn wsX2_borrowOrJoin wsX2_has := goodIn_r _ [10, 11, 6, 20, 21] (by decide +kernel) (by decide +kernel)
set_option maxRecDepth 20000 in
theorem gX2_borrowOrJoin_X2_has : GoodIn wsX2_borrowOrJoin (wsV RX2 19 RX2 yX2_has wsX2_has) := goodIn_app (goodIn_of _ (by decide +kernel)) ggX2_borrowOrJoin_X2_has
theorem dX2_borrowOrJoin_0 : decode cX2_borrowOrJoin 0 = .ok (.aload_n 0, 1) := by decide +kernel
theorem dX2_borrowOrJoin_1 : decode cX2_borrowOrJoin 1 = .ok (.iload_n 1, 1) := by decide +kernel
theorem dX2_borrowOrJoin_2 : decode cX2_borrowOrJoin 2 = .ok (.iconst 1, 1) := by decide +kernel
theorem dX2_borrowOrJoin_3 : decode cX2_borrowOrJoin 3 = .ok (.iadd, 1) := by decide +kernel
theorem dX2_borrowOrJoin_4 : decode cX2_borrowOrJoin 4 = .ok (.invokevirtual 23, 3) := by decide +kernel
theorem dX2_borrowOrJoin_7 : decode cX2_borrowOrJoin 7 = .ok (.iconst 3, 1) := by decide +kernel
theorem dX2_borrowOrJoin_8 : decode cX2_borrowOrJoin 8 = .ok (.if_icmp .lt 14, 3) := by decide +kernel
theorem dX2_borrowOrJoin_11 : decode cX2_borrowOrJoin 11 = .ok (.aload_n 0, 1) := by decide +kernel
theorem dX2_borrowOrJoin_12 : decode cX2_borrowOrJoin 12 = .ok (.iload_n 1, 1) := by decide +kernel
theorem dX2_borrowOrJoin_13 : decode cX2_borrowOrJoin 13 = .ok (.iconst 1, 1) := by decide +kernel
theorem dX2_borrowOrJoin_14 : decode cX2_borrowOrJoin 14 = .ok (.iadd, 1) := by decide +kernel
theorem dX2_borrowOrJoin_15 : decode cX2_borrowOrJoin 15 = .ok (.iload_n 1, 1) := by decide +kernel
theorem dX2_borrowOrJoin_16 : decode cX2_borrowOrJoin 16 = .ok (.invokevirtual 34, 3) := by decide +kernel
theorem dX2_borrowOrJoin_19 : decode cX2_borrowOrJoin 19 = .ok (.goto 54, 3) := by decide +kernel
theorem dX2_borrowOrJoin_22 : decode cX2_borrowOrJoin 22 = .ok (.aload_n 0, 1) := by decide +kernel
theorem dX2_borrowOrJoin_23 : decode cX2_borrowOrJoin 23 = .ok (.iload_n 1, 1) := by decide +kernel
theorem dX2_borrowOrJoin_24 : decode cX2_borrowOrJoin 24 = .ok (.iconst 1, 1) := by decide +kernel
theorem dX2_borrowOrJoin_25 : decode cX2_borrowOrJoin 25 = .ok (.isub, 1) := by decide +kernel
theorem dX2_borrowOrJoin_26 : decode cX2_borrowOrJoin 26 = .ok (.invokevirtual 23, 3) := by decide +kernel
theorem dX2_borrowOrJoin_29 : decode cX2_borrowOrJoin 29 = .ok (.iconst 3, 1) := by decide +kernel
theorem dX2_borrowOrJoin_30 : decode cX2_borrowOrJoin 30 = .ok (.if_icmp .lt 14, 3) := by decide +kernel
theorem dX2_borrowOrJoin_33 : decode cX2_borrowOrJoin 33 = .ok (.aload_n 0, 1) := by decide +kernel
theorem dX2_borrowOrJoin_34 : decode cX2_borrowOrJoin 34 = .ok (.iload_n 1, 1) := by decide +kernel
theorem dX2_borrowOrJoin_35 : decode cX2_borrowOrJoin 35 = .ok (.iconst 1, 1) := by decide +kernel
theorem dX2_borrowOrJoin_36 : decode cX2_borrowOrJoin 36 = .ok (.isub, 1) := by decide +kernel
theorem dX2_borrowOrJoin_37 : decode cX2_borrowOrJoin 37 = .ok (.iload_n 1, 1) := by decide +kernel
theorem dX2_borrowOrJoin_38 : decode cX2_borrowOrJoin 38 = .ok (.invokevirtual 34, 3) := by decide +kernel
theorem dX2_borrowOrJoin_41 : decode cX2_borrowOrJoin 41 = .ok (.goto 32, 3) := by decide +kernel
theorem dX2_borrowOrJoin_44 : decode cX2_borrowOrJoin 44 = .ok (.aload_n 0, 1) := by decide +kernel
theorem dX2_borrowOrJoin_45 : decode cX2_borrowOrJoin 45 = .ok (.iload_n 1, 1) := by decide +kernel
theorem dX2_borrowOrJoin_46 : decode cX2_borrowOrJoin 46 = .ok (.iconst 1, 1) := by decide +kernel
theorem dX2_borrowOrJoin_47 : decode cX2_borrowOrJoin 47 = .ok (.iadd, 1) := by decide +kernel
theorem dX2_borrowOrJoin_48 : decode cX2_borrowOrJoin 48 = .ok (.invokevirtual 19, 3) := by decide +kernel
theorem dX2_borrowOrJoin_51 : decode cX2_borrowOrJoin 51 = .ok (.ifCond .eq 14, 3) := by decide +kernel
theorem dX2_borrowOrJoin_54 : decode cX2_borrowOrJoin 54 = .ok (.aload_n 0, 1) := by decide +kernel
theorem dX2_borrowOrJoin_55 : decode cX2_borrowOrJoin 55 = .ok (.iload_n 1, 1) := by decide +kernel
theorem dX2_borrowOrJoin_56 : decode cX2_borrowOrJoin 56 = .ok (.iload_n 1, 1) := by decide +kernel
theorem dX2_borrowOrJoin_57 : decode cX2_borrowOrJoin 57 = .ok (.iconst 1, 1) := by decide +kernel
theorem dX2_borrowOrJoin_58 : decode cX2_borrowOrJoin 58 = .ok (.iadd, 1) := by decide +kernel
theorem dX2_borrowOrJoin_59 : decode cX2_borrowOrJoin 59 = .ok (.invokevirtual 34, 3) := by decide +kernel
theorem dX2_borrowOrJoin_62 : decode cX2_borrowOrJoin 62 = .ok (.goto 11, 3) := by decide +kernel
theorem dX2_borrowOrJoin_65 : decode cX2_borrowOrJoin 65 = .ok (.aload_n 0, 1) := by decide +kernel
theorem dX2_borrowOrJoin_66 : decode cX2_borrowOrJoin 66 = .ok (.iload_n 1, 1) := by decide +kernel
theorem dX2_borrowOrJoin_67 : decode cX2_borrowOrJoin 67 = .ok (.iload_n 1, 1) := by decide +kernel
theorem dX2_borrowOrJoin_68 : decode cX2_borrowOrJoin 68 = .ok (.iconst 1, 1) := by decide +kernel
theorem dX2_borrowOrJoin_69 : decode cX2_borrowOrJoin 69 = .ok (.isub, 1) := by decide +kernel
theorem dX2_borrowOrJoin_70 : decode cX2_borrowOrJoin 70 = .ok (.invokevirtual 34, 3) := by decide +kernel
theorem dX2_borrowOrJoin_73 : decode cX2_borrowOrJoin 73 = .ok (.return_, 1) := by decide +kernel
set_option maxRecDepth 20000 in
theorem ggX2_remove_X2_has : GoodIn wsX2_remove wsX2_has := goodIn_r _ [7, 1, 2, 8, 9] (by decide +kernel) (by decide +kernel)
set_option maxRecDepth 20000 in
theorem gX2_remove_X2_has : GoodIn wsX2_remove (wsV RX2 19 RX2 yX2_has wsX2_has) := goodIn_app (goodIn_of _ (by decide +kernel)) ggX2_remove_X2_has
theorem dX2_remove_0 : decode cX2_remove 0 = .ok (.aload_n 0, 1) := by decide +kernel
theorem dX2_remove_1 : decode cX2_remove 1 = .ok (.iload_n 1, 1) := by decide +kernel
theorem dX2_remove_2 : decode cX2_remove 2 = .ok (.invokevirtual 19, 3) := by decide +kernel
theorem dX2_remove_5 : decode cX2_remove 5 = .ok (.ifCond .ne 4, 3) := by decide +kernel
theorem dX2_remove_8 : decode cX2_remove 8 = .ok (.return_, 1) := by decide +kernel
theorem dX2_remove_9 : decode cX2_remove 9 = .ok (.aload_n 0, 1) := by decide +kernel
theorem dX2_remove_10 : decode cX2_remove 10 = .ok (.dup, 1) := by decide +kernel
theorem dX2_remove_11 : decode cX2_remove 11 = .ok (.getfield 15, 3) := by decide +kernel
theorem dX2_remove_14 : decode cX2_remove 14 = .ok (.iconst 1, 1) := by decide +kernel
theorem dX2_remove_15 : decode cX2_remove 15 = .ok (.isub, 1) := by decide +kernel
theorem dX2_remove_16 : decode cX2_remove 16 = .ok (.putfield 15, 3) := by decide +kernel
theorem dX2_remove_19 : decode cX2_remove 19 = .ok (.iload_n 1, 1) := by decide +kernel
theorem dX2_remove_20 : decode cX2_remove 20 = .ok (.istore_n 2, 1) := by decide +kernel
theorem dX2_remove_21 : decode cX2_remove 21 = .ok (.iload_n 2, 1) := by decide +kernel
theorem dX2_remove_22 : decode cX2_remove 22 = .ok (.aload_n 0, 1) := by decide +kernel
theorem dX2_remove_23 : decode cX2_remove 23 = .ok (.getfield 15, 3) := by decide +kernel
theorem dX2_remove_26 : decode cX2_remove 26 = .ok (.if_icmp .ge 23, 3) := by decide +kernel
theorem dX2_remove_29 : decode cX2_remove 29 = .ok (.aload_n 0, 1) := by decide +kernel
theorem dX2_remove_30 : decode cX2_remove 30 = .ok (.getfield 9, 3) := by decide +kernel
theorem dX2_remove_33 : decode cX2_remove 33 = .ok (.iload_n 2, 1) := by decide +kernel
theorem dX2_remove_34 : decode cX2_remove 34 = .ok (.aload_n 0, 1) := by decide +kernel
theorem dX2_remove_35 : decode cX2_remove 35 = .ok (.getfield 9, 3) := by decide +kernel
theorem dX2_remove_38 : decode cX2_remove 38 = .ok (.iload_n 2, 1) := by decide +kernel
theorem dX2_remove_39 : decode cX2_remove 39 = .ok (.iconst 1, 1) := by decide +kernel
theorem dX2_remove_40 : decode cX2_remove 40 = .ok (.iadd, 1) := by decide +kernel
theorem dX2_remove_41 : decode cX2_remove 41 = .ok (.iaload, 1) := by decide +kernel
theorem dX2_remove_42 : decode cX2_remove 42 = .ok (.iastore, 1) := by decide +kernel
theorem dX2_remove_43 : decode cX2_remove 43 = .ok (.iinc 2 1, 3) := by decide +kernel
theorem dX2_remove_46 : decode cX2_remove 46 = .ok (.goto (-25), 3) := by decide +kernel
theorem dX2_remove_49 : decode cX2_remove 49 = .ok (.return_, 1) := by decide +kernel
set_option maxRecDepth 20000 in
theorem ggX3_init_X1_init : GoodIn wsX3_init wsX1_init := goodIn_r _ [16, 17, 2, 3, 18, 19, 24, 25] (by decide +kernel) (by decide +kernel)
set_option maxRecDepth 20000 in
theorem gX3_init_X1_init_n9 : GoodIn wsX3_init (wsX1_init) := ggX3_init_X1_init
set_option maxRecDepth 20000 in
theorem ggX3_init_X2_init : GoodIn wsX3_init wsX2_init := goodIn_r _ [21, 22, 2, 3, 12, 23, 33, 34] (by decide +kernel) (by decide +kernel)
set_option maxRecDepth 20000 in
theorem gX3_init_X2_init_n18 : GoodIn wsX3_init (wsX2_init) := ggX3_init_X2_init
theorem dX3_init_0 : decode cX3_init 0 = .ok (.aload_n 0, 1) := by decide +kernel
theorem dX3_init_1 : decode cX3_init 1 = .ok (.invokespecial 1, 3) := by decide +kernel
theorem dX3_init_4 : decode cX3_init 4 = .ok (.aload_n 0, 1) := by decide +kernel
theorem dX3_init_5 : decode cX3_init 5 = .ok (.new 7, 3) := by decide +kernel
theorem dX3_init_8 : decode cX3_init 8 = .ok (.dup, 1) := by decide +kernel
theorem dX3_init_9 : decode cX3_init 9 = .ok (.invokespecial 9, 3) := by decide +kernel
theorem dX3_init_12 : decode cX3_init 12 = .ok (.putfield 10, 3) := by decide +kernel
theorem dX3_init_15 : decode cX3_init 15 = .ok (.aload_n 0, 1) := by decide +kernel
theorem dX3_init_16 : decode cX3_init 16 = .ok (.new 16, 3) := by decide +kernel
theorem dX3_init_19 : decode cX3_init 19 = .ok (.dup, 1) := by decide +kernel
theorem dX3_init_20 : decode cX3_init 20 = .ok (.invokespecial 18, 3) := by decide +kernel
theorem dX3_init_23 : decode cX3_init 23 = .ok (.putfield 19, 3) := by decide +kernel
theorem dX3_init_26 : decode cX3_init 26 = .ok (.aload_n 0, 1) := by decide +kernel
theorem dX3_init_27 : decode cX3_init 27 = .ok (.iconst 4, 1) := by decide +kernel
theorem dX3_init_28 : decode cX3_init 28 = .ok (.newarray .int, 2) := by decide +kernel
theorem dX3_init_30 : decode cX3_init 30 = .ok (.dup, 1) := by decide +kernel
theorem dX3_init_31 : decode cX3_init 31 = .ok (.iconst 0, 1) := by decide +kernel
theorem dX3_init_32 : decode cX3_init 32 = .ok (.iconst (-1), 1) := by decide +kernel
theorem dX3_init_33 : decode cX3_init 33 = .ok (.iastore, 1) := by decide +kernel
theorem dX3_init_34 : decode cX3_init 34 = .ok (.dup, 1) := by decide +kernel
theorem dX3_init_35 : decode cX3_init 35 = .ok (.iconst 1, 1) := by decide +kernel
theorem dX3_init_36 : decode cX3_init 36 = .ok (.iconst (-1), 1) := by decide +kernel
theorem dX3_init_37 : decode cX3_init 37 = .ok (.iastore, 1) := by decide +kernel
theorem dX3_init_38 : decode cX3_init 38 = .ok (.dup, 1) := by decide +kernel
theorem dX3_init_39 : decode cX3_init 39 = .ok (.iconst 2, 1) := by decide +kernel
theorem dX3_init_40 : decode cX3_init 40 = .ok (.iconst (-1), 1) := by decide +kernel
theorem dX3_init_41 : decode cX3_init 41 = .ok (.iastore, 1) := by decide +kernel
theorem dX3_init_42 : decode cX3_init 42 = .ok (.dup, 1) := by decide +kernel
theorem dX3_init_43 : decode cX3_init 43 = .ok (.iconst 3, 1) := by decide +kernel
theorem dX3_init_44 : decode cX3_init 44 = .ok (.iconst (-1), 1) := by decide +kernel
theorem dX3_init_45 : decode cX3_init 45 = .ok (.iastore, 1) := by decide +kernel
theorem dX3_init_46 : decode cX3_init 46 = .ok (.putfield 23, 3) := by decide +kernel
theorem dX3_init_49 : decode cX3_init 49 = .ok (.aload_n 0, 1) := by decide +kernel
theorem dX3_init_50 : decode cX3_init 50 = .ok (.iconst (-1), 1) := by decide +kernel
theorem dX3_init_51 : decode cX3_init 51 = .ok (.putfield 27, 3) := by decide +kernel
theorem dX3_init_54 : decode cX3_init 54 = .ok (.return_, 1) := by decide +kernel
set_option maxRecDepth 20000 in
theorem ggX3_put_X3_requireCase : GoodIn wsX3_put wsX3_requireCase := goodIn_ca (goodIn_r _ [14, 1, 2, 15, 16, 13, 17] (by decide +kernel) (by decide +kernel)) (goodIn_sub (fun _ h => List.mem_cons_of_mem _ (List.mem_append_left _ (List.mem_append_right _ h))) (by decide +kernel))
set_option maxRecDepth 20000 in
theorem gX3_put_X3_requireCase : GoodIn wsX3_put (va_wsS RX3 31 yX3_requireCase wsX3_requireCase) := goodIn_app (goodIn_of _ (by decide +kernel)) ggX3_put_X3_requireCase
set_option maxRecDepth 20000 in
theorem ggX3_put_X3_isIn : GoodIn wsX3_put wsX3_isIn := goodIn_r _ [17] (by decide +kernel) (by decide +kernel)
set_option maxRecDepth 20000 in
theorem gX3_put_X3_isIn : GoodIn wsX3_put (va_wsS RX3 35 yX3_isIn wsX3_isIn) := goodIn_app (goodIn_of _ (by decide +kernel)) ggX3_put_X3_isIn
set_option maxRecDepth 20000 in
theorem ggX3_put_X1_find : GoodIn wsX3_put wsX1_find := goodIn_r _ [22, 23, 24, 25, 21, 26, 27, 28, 29, 30, 31, 32, 33, 34, 35, 36, 37, 38, 39, 40, 41, 110, 111, 105, 106, 107, 108, 109] (by decide +kernel) (by decide +kernel)
set_option maxRecDepth 20000 in
theorem gX3_put_X1_find : GoodIn wsX3_put (wsV RX3 46 RX1 yX1_find wsX1_find) := goodIn_app (goodIn_of _ (by decide +kernel)) ggX3_put_X1_find
set_option maxRecDepth 20000 in
theorem ggX3_put_X1_count : GoodIn wsX3_put wsX1_count := goodIn_r _ [45, 31, 110, 111] (by decide +kernel) (by decide +kernel)
set_option maxRecDepth 20000 in
theorem gX3_put_X1_count : GoodIn wsX3_put (wsV RX3 50 RX1 yX1_count wsX1_count) := goodIn_app (goodIn_of _ (by decide +kernel)) ggX3_put_X1_count
end
section
set_option maxRecDepth 20000 in
theorem ggX3_put_X1_countUpTo : GoodIn wsX3_put wsX1_countUpTo := goodIn_r _ [30, 31, 32, 33, 34, 21, 35, 36, 37, 38, 39, 40, 41, 110, 111, 105, 106, 107, 108, 109] (by decide +kernel) (by decide +kernel)
set_option maxRecDepth 20000 in
theorem gX3_put_X1_countUpTo : GoodIn wsX3_put (wsV RX3 59 RX1 yX1_countUpTo wsX1_countUpTo) := goodIn_app (goodIn_of _ (by decide +kernel)) ggX3_put_X1_countUpTo
set_option maxRecDepth 20000 in
theorem ggX3_put_X3_pageToPutOn : GoodIn wsX3_put wsX3_pageToPutOn := goodIn_r _ [50, 6, 51, 52, 53, 54, 55, 56, 57, 58, 59, 60, 61, 62, 63, 64, 65, 66, 67, 68, 69, 98, 99, 100, 101, 102, 103, 104, 112, 113] (by decide +kernel) (by decide +kernel)
set_option maxRecDepth 20000 in
theorem gX3_put_X3_pageToPutOn : GoodIn wsX3_put (wsV RX3 63 RX3 yX3_pageToPutOn wsX3_pageToPutOn) := goodIn_app (goodIn_of _ (by decide +kernel)) ggX3_put_X3_pageToPutOn
set_option maxRecDepth 20000 in
theorem ggX3_put_X2_sizeOf : GoodIn wsX3_put wsX2_sizeOf := goodIn_r _ [64, 65, 66, 67, 68, 58, 69, 60, 112, 113] (by decide +kernel) (by decide +kernel)
set_option maxRecDepth 20000 in
theorem gX3_put_X2_sizeOf : GoodIn wsX3_put (wsV RX3 66 RX2 yX2_sizeOf wsX2_sizeOf) := goodIn_app (goodIn_of _ (by decide +kernel)) ggX3_put_X2_sizeOf
set_option maxRecDepth 20000 in
theorem ggX3_put_X2_split : GoodIn wsX3_put wsX2_split := goodIn_r _ [74, 60, 65, 66, 67, 68, 58, 69, 112, 113] (by decide +kernel) (by decide +kernel)
set_option maxRecDepth 20000 in
theorem gX3_put_X2_split : GoodIn wsX3_put (wsV RX3 69 RX2 yX2_split wsX2_split) := goodIn_app (goodIn_of _ (by decide +kernel)) ggX3_put_X2_split
set_option maxRecDepth 20000 in
theorem ggX3_put_X2_addTo : GoodIn wsX3_put wsX2_addTo := goodIn_r _ [78, 60, 65, 66, 67, 68, 58, 69, 112, 113] (by decide +kernel) (by decide +kernel)
set_option maxRecDepth 20000 in
theorem gX3_put_X2_addTo : GoodIn wsX3_put (wsV RX3 72 RX2 yX2_addTo wsX2_addTo) := goodIn_app (goodIn_of _ (by decide +kernel)) ggX3_put_X2_addTo
set_option maxRecDepth 20000 in
theorem ggX3_put_X0_init : GoodIn wsX3_put wsX0_init := goodIn_r _ [81, 82, 83, 84, 85, 86, 87, 88, 89, 105, 106, 107, 108, 109] (by decide +kernel) (by decide +kernel)
set_option maxRecDepth 20000 in
theorem gX3_put_X0_init : GoodIn wsX3_put (wsX0_init) := ggX3_put_X0_init
set_option maxRecDepth 20000 in
theorem ggX3_put_X1_insert : GoodIn wsX3_put wsX1_insert := goodIn_r _ [93, 31, 41, 110, 111] (by decide +kernel) (by decide +kernel)
set_option maxRecDepth 20000 in
theorem gX3_put_X1_insert : GoodIn wsX3_put (wsV RX3 83 RX1 yX1_insert wsX1_insert) := goodIn_app (goodIn_of _ (by decide +kernel)) ggX3_put_X1_insert
set_option maxRecDepth 20000 in
theorem ggX3_put_X2_count : GoodIn wsX3_put wsX2_count := goodIn_r _ [97, 60, 112, 113] (by decide +kernel) (by decide +kernel)
set_option maxRecDepth 20000 in
theorem gX3_put_X2_count : GoodIn wsX3_put (wsV RX3 87 RX2 yX2_count wsX2_count) := goodIn_app (goodIn_of _ (by decide +kernel)) ggX3_put_X2_count
theorem dX3_put_0 : decode cX3_put 0 = .ok (.iload_n 1, 1) := by decide +kernel
theorem dX3_put_1 : decode cX3_put 1 = .ok (.invokestatic 31, 3) := by decide +kernel
theorem dX3_put_4 : decode cX3_put 4 = .ok (.iload_n 2, 1) := by decide +kernel
theorem dX3_put_5 : decode cX3_put 5 = .ok (.iconst 1, 1) := by decide +kernel
theorem dX3_put_6 : decode cX3_put 6 = .ok (.sipush 10000, 3) := by decide +kernel
theorem dX3_put_9 : decode cX3_put 9 = .ok (.invokestatic 35, 3) := by decide +kernel
theorem dX3_put_12 : decode cX3_put 12 = .ok (.ifCond .eq 13, 3) := by decide +kernel
theorem dX3_put_15 : decode cX3_put 15 = .ok (.iload_n 3, 1) := by decide +kernel
theorem dX3_put_16 : decode cX3_put 16 = .ok (.iconst 0, 1) := by decide +kernel
theorem dX3_put_17 : decode cX3_put 17 = .ok (.bipush 9, 2) := by decide +kernel
theorem dX3_put_19 : decode cX3_put 19 = .ok (.invokestatic 35, 3) := by decide +kernel
theorem dX3_put_22 : decode cX3_put 22 = .ok (.ifCond .ne 13, 3) := by decide +kernel
theorem dX3_put_25 : decode cX3_put 25 = .ok (.new 39, 3) := by decide +kernel
theorem dX3_put_28 : decode cX3_put 28 = .ok (.dup, 1) := by decide +kernel
theorem dX3_put_29 : decode cX3_put 29 = .ok (.ldc 41, 2) := by decide +kernel
theorem dX3_put_31 : decode cX3_put 31 = .ok (.invokespecial 43, 3) := by decide +kernel
theorem dX3_put_34 : decode cX3_put 34 = .ok (.athrow, 1) := by decide +kernel
theorem dX3_put_35 : decode cX3_put 35 = .ok (.aload_n 0, 1) := by decide +kernel
theorem dX3_put_36 : decode cX3_put 36 = .ok (.getfield 10, 3) := by decide +kernel
theorem dX3_put_39 : decode cX3_put 39 = .ok (.iload_n 1, 1) := by decide +kernel
theorem dX3_put_40 : decode cX3_put 40 = .ok (.invokevirtual 46, 3) := by decide +kernel
theorem dX3_put_43 : decode cX3_put 43 = .ok (.ifnonnull 15, 3) := by decide +kernel
theorem dX3_put_46 : decode cX3_put 46 = .ok (.aload_n 0, 1) := by decide +kernel
theorem dX3_put_47 : decode cX3_put 47 = .ok (.getfield 10, 3) := by decide +kernel
theorem dX3_put_50 : decode cX3_put 50 = .ok (.invokevirtual 50, 3) := by decide +kernel
theorem dX3_put_53 : decode cX3_put 53 = .ok (.bipush 80, 2) := by decide +kernel
theorem dX3_put_55 : decode cX3_put 55 = .ok (.if_icmp .lt 13, 3) := by decide +kernel
theorem dX3_put_58 : decode cX3_put 58 = .ok (.new 54, 3) := by decide +kernel
theorem dX3_put_61 : decode cX3_put 61 = .ok (.dup, 1) := by decide +kernel
theorem dX3_put_62 : decode cX3_put 62 = .ok (.ldc 56, 2) := by decide +kernel
theorem dX3_put_64 : decode cX3_put 64 = .ok (.invokespecial 58, 3) := by decide +kernel
theorem dX3_put_67 : decode cX3_put 67 = .ok (.athrow, 1) := by decide +kernel
theorem dX3_put_68 : decode cX3_put 68 = .ok (.aload_n 0, 1) := by decide +kernel
theorem dX3_put_69 : decode cX3_put 69 = .ok (.getfield 10, 3) := by decide +kernel
theorem dX3_put_72 : decode cX3_put 72 = .ok (.iload_n 1, 1) := by decide +kernel
theorem dX3_put_73 : decode cX3_put 73 = .ok (.invokevirtual 59, 3) := by decide +kernel
theorem dX3_put_76 : decode cX3_put 76 = .ok (.istore 4, 2) := by decide +kernel
theorem dX3_put_78 : decode cX3_put 78 = .ok (.aload_n 0, 1) := by decide +kernel
theorem dX3_put_79 : decode cX3_put 79 = .ok (.getfield 19, 3) := by decide +kernel
theorem dX3_put_82 : decode cX3_put 82 = .ok (.aload_n 0, 1) := by decide +kernel
theorem dX3_put_83 : decode cX3_put 83 = .ok (.iload 4, 2) := by decide +kernel
theorem dX3_put_85 : decode cX3_put 85 = .ok (.invokevirtual 63, 3) := by decide +kernel
theorem dX3_put_88 : decode cX3_put 88 = .ok (.invokevirtual 66, 3) := by decide +kernel
theorem dX3_put_91 : decode cX3_put 91 = .ok (.iconst 4, 1) := by decide +kernel
theorem dX3_put_92 : decode cX3_put 92 = .ok (.if_icmp .lt 16, 3) := by decide +kernel
theorem dX3_put_95 : decode cX3_put 95 = .ok (.aload_n 0, 1) := by decide +kernel
theorem dX3_put_96 : decode cX3_put 96 = .ok (.getfield 19, 3) := by decide +kernel
theorem dX3_put_99 : decode cX3_put 99 = .ok (.aload_n 0, 1) := by decide +kernel
theorem dX3_put_100 : decode cX3_put 100 = .ok (.iload 4, 2) := by decide +kernel
theorem dX3_put_102 : decode cX3_put 102 = .ok (.invokevirtual 63, 3) := by decide +kernel
theorem dX3_put_105 : decode cX3_put 105 = .ok (.invokevirtual 69, 3) := by decide +kernel
theorem dX3_put_108 : decode cX3_put 108 = .ok (.aload_n 0, 1) := by decide +kernel
theorem dX3_put_109 : decode cX3_put 109 = .ok (.getfield 19, 3) := by decide +kernel
theorem dX3_put_112 : decode cX3_put 112 = .ok (.aload_n 0, 1) := by decide +kernel
theorem dX3_put_113 : decode cX3_put 113 = .ok (.iload 4, 2) := by decide +kernel
theorem dX3_put_115 : decode cX3_put 115 = .ok (.invokevirtual 63, 3) := by decide +kernel
theorem dX3_put_118 : decode cX3_put 118 = .ok (.invokevirtual 72, 3) := by decide +kernel
theorem dX3_put_121 : decode cX3_put 121 = .ok (.aload_n 0, 1) := by decide +kernel
theorem dX3_put_122 : decode cX3_put 122 = .ok (.getfield 10, 3) := by decide +kernel
theorem dX3_put_125 : decode cX3_put 125 = .ok (.iload 4, 2) := by decide +kernel
theorem dX3_put_127 : decode cX3_put 127 = .ok (.new 75, 3) := by decide +kernel
theorem dX3_put_130 : decode cX3_put 130 = .ok (.dup, 1) := by decide +kernel
theorem dX3_put_131 : decode cX3_put 131 = .ok (.iload_n 1, 1) := by decide +kernel
theorem dX3_put_132 : decode cX3_put 132 = .ok (.iload_n 2, 1) := by decide +kernel
theorem dX3_put_133 : decode cX3_put 133 = .ok (.iload_n 3, 1) := by decide +kernel
theorem dX3_put_134 : decode cX3_put 134 = .ok (.aload_n 0, 1) := by decide +kernel
theorem dX3_put_135 : decode cX3_put 135 = .ok (.getfield 77, 3) := by decide +kernel
theorem dX3_put_138 : decode cX3_put 138 = .ok (.invokespecial 80, 3) := by decide +kernel
theorem dX3_put_141 : decode cX3_put 141 = .ok (.invokevirtual 83, 3) := by decide +kernel
theorem dX3_put_144 : decode cX3_put 144 = .ok (.aload_n 0, 1) := by decide +kernel
theorem dX3_put_145 : decode cX3_put 145 = .ok (.getfield 19, 3) := by decide +kernel
theorem dX3_put_148 : decode cX3_put 148 = .ok (.invokevirtual 87, 3) := by decide +kernel
theorem dX3_put_151 : decode cX3_put 151 = .ok (.ireturn, 1) := by decide +kernel
set_option maxRecDepth 20000 in
theorem ggX3_payBack_X3_requireCase : GoodIn wsX3_payBack wsX3_requireCase := goodIn_ca (goodIn_r _ [9, 10, 11, 12, 13, 8, 14] (by decide +kernel) (by decide +kernel)) (goodIn_sub (fun _ h => List.mem_cons_of_mem _ (List.mem_append_right _ h)) (by decide +kernel))
set_option maxRecDepth 20000 in
theorem gX3_payBack_X3_requireCase : GoodIn wsX3_payBack (va_wsS RX3 31 yX3_requireCase wsX3_requireCase) := goodIn_app (goodIn_of _ (by decide +kernel)) ggX3_payBack_X3_requireCase
set_option maxRecDepth 20000 in
theorem ggX3_payBack_X1_find : GoodIn wsX3_payBack wsX1_find := goodIn_r _ [19, 20, 21, 22, 18, 23, 24, 25, 26, 27, 28, 29, 30, 31, 32, 33, 34, 35, 36, 37, 38, 103, 104, 98, 99, 100, 101, 102] (by decide +kernel) (by decide +kernel)
set_option maxRecDepth 20000 in
theorem gX3_payBack_X1_find : GoodIn wsX3_payBack (wsV RX3 46 RX1 yX1_find wsX1_find) := goodIn_app (goodIn_of _ (by decide +kernel)) ggX3_payBack_X1_find
set_option maxRecDepth 20000 in
theorem ggX3_payBack_X0_hasForfeitDay : GoodIn wsX3_payBack wsX0_hasForfeitDay := goodIn_r _ [43, 44, 98, 99, 100, 101, 102] (by decide +kernel) (by decide +kernel)
set_option maxRecDepth 20000 in
theorem gX3_payBack_X0_hasForfeitDay : GoodIn wsX3_payBack (wsV RX3 88 RX0 yX0_hasForfeitDay wsX0_hasForfeitDay) := goodIn_app (goodIn_of _ (by decide +kernel)) ggX3_payBack_X0_hasForfeitDay
set_option maxRecDepth 20000 in
theorem ggX3_payBack_X1_placeOf : GoodIn wsX3_payBack wsX1_placeOf := goodIn_r _ [23, 24, 25, 26, 18, 27, 28, 29, 30, 31, 32, 33, 34, 35, 36, 37, 38, 103, 104, 98, 99, 100, 101, 102] (by decide +kernel) (by decide +kernel)
set_option maxRecDepth 20000 in
theorem gX3_payBack_X1_placeOf : GoodIn wsX3_payBack (wsV RX3 100 RX1 yX1_placeOf wsX1_placeOf) := goodIn_app (goodIn_of _ (by decide +kernel)) ggX3_payBack_X1_placeOf
set_option maxRecDepth 20000 in
theorem ggX3_payBack_X3_takeOut : GoodIn wsX3_payBack wsX3_takeOut := goodIn_r _ [49, 50, 3, 51, 52, 53, 54, 55, 56, 57, 58, 59, 60, 61, 62, 63, 64, 65, 66, 67, 68, 69, 70, 71, 72, 73, 74, 75, 76, 77, 78, 79, 80, 81, 82, 83, 84, 85, 18, 86, 28, 38, 34, 35, 36, 37, 87, 88, 89, 90, 91, 92, 93, 94, 95, 96, 97, 105, 106, 103, 104] (by decide +kernel) (by decide +kernel)
set_option maxRecDepth 20000 in
theorem gX3_payBack_X3_takeOut : GoodIn wsX3_payBack (wsV RX3 103 RX3 yX3_takeOut wsX3_takeOut) := goodIn_app (goodIn_of _ (by decide +kernel)) ggX3_payBack_X3_takeOut
theorem dX3_payBack_0 : decode cX3_payBack 0 = .ok (.iload_n 1, 1) := by decide +kernel
theorem dX3_payBack_1 : decode cX3_payBack 1 = .ok (.invokestatic 31, 3) := by decide +kernel
theorem dX3_payBack_4 : decode cX3_payBack 4 = .ok (.aload_n 0, 1) := by decide +kernel
theorem dX3_payBack_5 : decode cX3_payBack 5 = .ok (.getfield 10, 3) := by decide +kernel
theorem dX3_payBack_8 : decode cX3_payBack 8 = .ok (.iload_n 1, 1) := by decide +kernel
theorem dX3_payBack_9 : decode cX3_payBack 9 = .ok (.invokevirtual 46, 3) := by decide +kernel
theorem dX3_payBack_12 : decode cX3_payBack 12 = .ok (.astore_n 2, 1) := by decide +kernel
theorem dX3_payBack_13 : decode cX3_payBack 13 = .ok (.aload_n 2, 1) := by decide +kernel
theorem dX3_payBack_14 : decode cX3_payBack 14 = .ok (.ifnull 10, 3) := by decide +kernel
theorem dX3_payBack_17 : decode cX3_payBack 17 = .ok (.aload_n 2, 1) := by decide +kernel
theorem dX3_payBack_18 : decode cX3_payBack 18 = .ok (.invokevirtual 88, 3) := by decide +kernel
theorem dX3_payBack_21 : decode cX3_payBack 21 = .ok (.ifCond .eq 13, 3) := by decide +kernel
theorem dX3_payBack_24 : decode cX3_payBack 24 = .ok (.new 54, 3) := by decide +kernel
theorem dX3_payBack_27 : decode cX3_payBack 27 = .ok (.dup, 1) := by decide +kernel
theorem dX3_payBack_28 : decode cX3_payBack 28 = .ok (.ldc 92, 2) := by decide +kernel
theorem dX3_payBack_30 : decode cX3_payBack 30 = .ok (.invokespecial 58, 3) := by decide +kernel
theorem dX3_payBack_33 : decode cX3_payBack 33 = .ok (.athrow, 1) := by decide +kernel
theorem dX3_payBack_34 : decode cX3_payBack 34 = .ok (.aload_n 0, 1) := by decide +kernel
theorem dX3_payBack_35 : decode cX3_payBack 35 = .ok (.dup, 1) := by decide +kernel
theorem dX3_payBack_36 : decode cX3_payBack 36 = .ok (.getfield 94, 3) := by decide +kernel
theorem dX3_payBack_39 : decode cX3_payBack 39 = .ok (.aload_n 2, 1) := by decide +kernel
theorem dX3_payBack_40 : decode cX3_payBack 40 = .ok (.getfield 97, 3) := by decide +kernel
theorem dX3_payBack_43 : decode cX3_payBack 43 = .ok (.iadd, 1) := by decide +kernel
theorem dX3_payBack_44 : decode cX3_payBack 44 = .ok (.putfield 94, 3) := by decide +kernel
theorem dX3_payBack_47 : decode cX3_payBack 47 = .ok (.aload_n 0, 1) := by decide +kernel
theorem dX3_payBack_48 : decode cX3_payBack 48 = .ok (.aload_n 0, 1) := by decide +kernel
theorem dX3_payBack_49 : decode cX3_payBack 49 = .ok (.getfield 10, 3) := by decide +kernel
theorem dX3_payBack_52 : decode cX3_payBack 52 = .ok (.iload_n 1, 1) := by decide +kernel
theorem dX3_payBack_53 : decode cX3_payBack 53 = .ok (.invokevirtual 100, 3) := by decide +kernel
theorem dX3_payBack_56 : decode cX3_payBack 56 = .ok (.invokevirtual 103, 3) := by decide +kernel
theorem dX3_payBack_59 : decode cX3_payBack 59 = .ok (.aload_n 2, 1) := by decide +kernel
theorem dX3_payBack_60 : decode cX3_payBack 60 = .ok (.getfield 97, 3) := by decide +kernel
theorem dX3_payBack_63 : decode cX3_payBack 63 = .ok (.ireturn, 1) := by decide +kernel
set_option maxRecDepth 20000 in
theorem ggX3_forfeit_X3_requireCase : GoodIn wsX3_forfeit wsX3_requireCase := goodIn_ca (goodIn_r _ [9, 10, 11, 12, 13, 8, 14] (by decide +kernel) (by decide +kernel)) (goodIn_sub (fun _ h => List.mem_cons_of_mem _ (List.mem_append_right _ h)) (by decide +kernel))
set_option maxRecDepth 20000 in
theorem gX3_forfeit_X3_requireCase : GoodIn wsX3_forfeit (va_wsS RX3 31 yX3_requireCase wsX3_requireCase) := goodIn_app (goodIn_of _ (by decide +kernel)) ggX3_forfeit_X3_requireCase
set_option maxRecDepth 20000 in
theorem ggX3_forfeit_X1_find : GoodIn wsX3_forfeit wsX1_find := goodIn_r _ [19, 20, 21, 22, 18, 23, 24, 25, 26, 27, 28, 29, 30, 31, 32, 33, 34, 35, 36, 37, 38, 57, 58, 52, 53, 54, 55, 56] (by decide +kernel) (by decide +kernel)
set_option maxRecDepth 20000 in
theorem gX3_forfeit_X1_find : GoodIn wsX3_forfeit (wsV RX3 46 RX1 yX1_find wsX1_find) := goodIn_app (goodIn_of _ (by decide +kernel)) ggX3_forfeit_X1_find
set_option maxRecDepth 20000 in
theorem ggX3_forfeit_X0_hasForfeitDay : GoodIn wsX3_forfeit wsX0_hasForfeitDay := goodIn_r _ [43, 44, 52, 53, 54, 55, 56] (by decide +kernel) (by decide +kernel)
set_option maxRecDepth 20000 in
theorem gX3_forfeit_X0_hasForfeitDay : GoodIn wsX3_forfeit (wsV RX3 88 RX0 yX0_hasForfeitDay wsX0_hasForfeitDay) := goodIn_app (goodIn_of _ (by decide +kernel)) ggX3_forfeit_X0_hasForfeitDay
theorem dX3_forfeit_0 : decode cX3_forfeit 0 = .ok (.iload_n 1, 1) := by decide +kernel
theorem dX3_forfeit_1 : decode cX3_forfeit 1 = .ok (.invokestatic 31, 3) := by decide +kernel
theorem dX3_forfeit_4 : decode cX3_forfeit 4 = .ok (.aload_n 0, 1) := by decide +kernel
theorem dX3_forfeit_5 : decode cX3_forfeit 5 = .ok (.getfield 10, 3) := by decide +kernel
theorem dX3_forfeit_8 : decode cX3_forfeit 8 = .ok (.iload_n 1, 1) := by decide +kernel
theorem dX3_forfeit_9 : decode cX3_forfeit 9 = .ok (.invokevirtual 46, 3) := by decide +kernel
theorem dX3_forfeit_12 : decode cX3_forfeit 12 = .ok (.astore_n 2, 1) := by decide +kernel
theorem dX3_forfeit_13 : decode cX3_forfeit 13 = .ok (.aload_n 2, 1) := by decide +kernel
theorem dX3_forfeit_14 : decode cX3_forfeit 14 = .ok (.ifnull 10, 3) := by decide +kernel
theorem dX3_forfeit_17 : decode cX3_forfeit 17 = .ok (.aload_n 2, 1) := by decide +kernel
theorem dX3_forfeit_18 : decode cX3_forfeit 18 = .ok (.invokevirtual 88, 3) := by decide +kernel
theorem dX3_forfeit_21 : decode cX3_forfeit 21 = .ok (.ifCond .eq 13, 3) := by decide +kernel
theorem dX3_forfeit_24 : decode cX3_forfeit 24 = .ok (.new 54, 3) := by decide +kernel
theorem dX3_forfeit_27 : decode cX3_forfeit 27 = .ok (.dup, 1) := by decide +kernel
theorem dX3_forfeit_28 : decode cX3_forfeit 28 = .ok (.ldc 92, 2) := by decide +kernel
theorem dX3_forfeit_30 : decode cX3_forfeit 30 = .ok (.invokespecial 58, 3) := by decide +kernel
theorem dX3_forfeit_33 : decode cX3_forfeit 33 = .ok (.athrow, 1) := by decide +kernel
theorem dX3_forfeit_34 : decode cX3_forfeit 34 = .ok (.aload_n 2, 1) := by decide +kernel
theorem dX3_forfeit_35 : decode cX3_forfeit 35 = .ok (.aload_n 0, 1) := by decide +kernel
theorem dX3_forfeit_36 : decode cX3_forfeit 36 = .ok (.getfield 77, 3) := by decide +kernel
theorem dX3_forfeit_39 : decode cX3_forfeit 39 = .ok (.putfield 106, 3) := by decide +kernel
theorem dX3_forfeit_42 : decode cX3_forfeit 42 = .ok (.return_, 1) := by decide +kernel
set_option maxRecDepth 20000 in
theorem ggX3_undo_X3_requireCase : GoodIn wsX3_undo wsX3_requireCase := goodIn_ca (goodIn_r _ [9, 10, 11, 12, 13, 8, 14] (by decide +kernel) (by decide +kernel)) (goodIn_sub (fun _ h => List.mem_cons_of_mem _ (List.mem_append_right _ h)) (by decide +kernel))
set_option maxRecDepth 20000 in
theorem gX3_undo_X3_requireCase : GoodIn wsX3_undo (va_wsS RX3 31 yX3_requireCase wsX3_requireCase) := goodIn_app (goodIn_of _ (by decide +kernel)) ggX3_undo_X3_requireCase
set_option maxRecDepth 20000 in
theorem ggX3_undo_X1_find : GoodIn wsX3_undo wsX1_find := goodIn_r _ [19, 20, 21, 22, 18, 23, 24, 25, 26, 27, 28, 29, 30, 31, 32, 33, 34, 35, 36, 37, 38, 57, 58, 52, 53, 54, 55, 56] (by decide +kernel) (by decide +kernel)
set_option maxRecDepth 20000 in
theorem gX3_undo_X1_find : GoodIn wsX3_undo (wsV RX3 46 RX1 yX1_find wsX1_find) := goodIn_app (goodIn_of _ (by decide +kernel)) ggX3_undo_X1_find
set_option maxRecDepth 20000 in
theorem ggX3_undo_X0_hasForfeitDay : GoodIn wsX3_undo wsX0_hasForfeitDay := goodIn_r _ [43, 44, 52, 53, 54, 55, 56] (by decide +kernel) (by decide +kernel)
set_option maxRecDepth 20000 in
theorem gX3_undo_X0_hasForfeitDay : GoodIn wsX3_undo (wsV RX3 88 RX0 yX0_hasForfeitDay wsX0_hasForfeitDay) := goodIn_app (goodIn_of _ (by decide +kernel)) ggX3_undo_X0_hasForfeitDay
theorem dX3_undo_0 : decode cX3_undo 0 = .ok (.iload_n 1, 1) := by decide +kernel
theorem dX3_undo_1 : decode cX3_undo 1 = .ok (.invokestatic 31, 3) := by decide +kernel
theorem dX3_undo_4 : decode cX3_undo 4 = .ok (.aload_n 0, 1) := by decide +kernel
theorem dX3_undo_5 : decode cX3_undo 5 = .ok (.getfield 10, 3) := by decide +kernel
theorem dX3_undo_8 : decode cX3_undo 8 = .ok (.iload_n 1, 1) := by decide +kernel
theorem dX3_undo_9 : decode cX3_undo 9 = .ok (.invokevirtual 46, 3) := by decide +kernel
theorem dX3_undo_12 : decode cX3_undo 12 = .ok (.astore_n 2, 1) := by decide +kernel
theorem dX3_undo_13 : decode cX3_undo 13 = .ok (.aload_n 2, 1) := by decide +kernel
theorem dX3_undo_14 : decode cX3_undo 14 = .ok (.ifnull 10, 3) := by decide +kernel
theorem dX3_undo_17 : decode cX3_undo 17 = .ok (.aload_n 2, 1) := by decide +kernel
theorem dX3_undo_18 : decode cX3_undo 18 = .ok (.invokevirtual 88, 3) := by decide +kernel
theorem dX3_undo_21 : decode cX3_undo 21 = .ok (.ifCond .ne 13, 3) := by decide +kernel
theorem dX3_undo_24 : decode cX3_undo 24 = .ok (.new 54, 3) := by decide +kernel
theorem dX3_undo_27 : decode cX3_undo 27 = .ok (.dup, 1) := by decide +kernel
theorem dX3_undo_28 : decode cX3_undo 28 = .ok (.ldc 109, 2) := by decide +kernel
theorem dX3_undo_30 : decode cX3_undo 30 = .ok (.invokespecial 58, 3) := by decide +kernel
theorem dX3_undo_33 : decode cX3_undo 33 = .ok (.athrow, 1) := by decide +kernel
theorem dX3_undo_34 : decode cX3_undo 34 = .ok (.aload_n 0, 1) := by decide +kernel
theorem dX3_undo_35 : decode cX3_undo 35 = .ok (.getfield 77, 3) := by decide +kernel
theorem dX3_undo_38 : decode cX3_undo 38 = .ok (.aload_n 2, 1) := by decide +kernel
theorem dX3_undo_39 : decode cX3_undo 39 = .ok (.getfield 106, 3) := by decide +kernel
theorem dX3_undo_42 : decode cX3_undo 42 = .ok (.isub, 1) := by decide +kernel
theorem dX3_undo_43 : decode cX3_undo 43 = .ok (.istore_n 3, 1) := by decide +kernel
theorem dX3_undo_44 : decode cX3_undo 44 = .ok (.aload_n 2, 1) := by decide +kernel
theorem dX3_undo_45 : decode cX3_undo 45 = .ok (.iconst (-1), 1) := by decide +kernel
theorem dX3_undo_46 : decode cX3_undo 46 = .ok (.putfield 106, 3) := by decide +kernel
theorem dX3_undo_49 : decode cX3_undo 49 = .ok (.iload_n 3, 1) := by decide +kernel
theorem dX3_undo_50 : decode cX3_undo 50 = .ok (.ireturn, 1) := by decide +kernel
set_option maxRecDepth 20000 in
theorem ggX3_amnesty_X3_isIn : GoodIn wsX3_amnesty wsX3_isIn := goodIn_r _ [10] (by decide +kernel) (by decide +kernel)
set_option maxRecDepth 20000 in
theorem gX3_amnesty_X3_isIn : GoodIn wsX3_amnesty (va_wsS RX3 35 yX3_isIn wsX3_isIn) := goodIn_app (goodIn_of _ (by decide +kernel)) ggX3_amnesty_X3_isIn
set_option maxRecDepth 20000 in
theorem ggX3_amnesty_X1_count : GoodIn wsX3_amnesty wsX1_count := goodIn_r _ [15, 16, 92, 93] (by decide +kernel) (by decide +kernel)
set_option maxRecDepth 20000 in
theorem gX3_amnesty_X1_count : GoodIn wsX3_amnesty (wsV RX3 50 RX1 yX1_count wsX1_count) := goodIn_app (goodIn_of _ (by decide +kernel)) ggX3_amnesty_X1_count
set_option maxRecDepth 20000 in
theorem ggX3_amnesty_X1_bailAt : GoodIn wsX3_amnesty wsX1_bailAt := goodIn_r _ [20, 16, 21, 92, 93] (by decide +kernel) (by decide +kernel)
set_option maxRecDepth 20000 in
theorem gX3_amnesty_X1_bailAt : GoodIn wsX3_amnesty (wsV RX3 113 RX1 yX1_bailAt wsX1_bailAt) := goodIn_app (goodIn_of _ (by decide +kernel)) ggX3_amnesty_X1_bailAt
set_option maxRecDepth 20000 in
theorem ggX3_amnesty_X0_isUnder : GoodIn wsX3_amnesty wsX0_isUnder := goodIn_r _ [26, 27, 28, 29, 30, 31, 25, 32, 33, 87, 88, 89, 90, 91] (by decide +kernel) (by decide +kernel)
set_option maxRecDepth 20000 in
theorem gX3_amnesty_X0_isUnder : GoodIn wsX3_amnesty (wsV RX3 116 RX0 yX0_isUnder wsX0_isUnder) := goodIn_app (goodIn_of _ (by decide +kernel)) ggX3_amnesty_X0_isUnder
set_option maxRecDepth 20000 in
theorem ggX3_amnesty_X3_takeOut : GoodIn wsX3_amnesty wsX3_takeOut := goodIn_r _ [37, 38, 4, 39, 40, 41, 42, 43, 44, 45, 46, 47, 48, 49, 50, 51, 52, 53, 54, 55, 56, 57, 58, 59, 60, 61, 62, 63, 64, 65, 66, 67, 68, 69, 70, 71, 72, 73, 14, 74, 16, 21, 75, 18, 19, 20, 76, 77, 78, 79, 80, 81, 82, 83, 84, 85, 86, 94, 95, 92, 93] (by decide +kernel) (by decide +kernel)
set_option maxRecDepth 20000 in
theorem gX3_amnesty_X3_takeOut : GoodIn wsX3_amnesty (wsV RX3 103 RX3 yX3_takeOut wsX3_takeOut) := goodIn_app (goodIn_of _ (by decide +kernel)) ggX3_amnesty_X3_takeOut
theorem dX3_amnesty_0 : decode cX3_amnesty 0 = .ok (.iload_n 1, 1) := by decide +kernel
theorem dX3_amnesty_1 : decode cX3_amnesty 1 = .ok (.iconst 1, 1) := by decide +kernel
theorem dX3_amnesty_2 : decode cX3_amnesty 2 = .ok (.sipush 10000, 3) := by decide +kernel
theorem dX3_amnesty_5 : decode cX3_amnesty 5 = .ok (.invokestatic 35, 3) := by decide +kernel
theorem dX3_amnesty_8 : decode cX3_amnesty 8 = .ok (.ifCond .eq 15, 3) := by decide +kernel
theorem dX3_amnesty_11 : decode cX3_amnesty 11 = .ok (.iload_n 2, 1) := by decide +kernel
theorem dX3_amnesty_12 : decode cX3_amnesty 12 = .ok (.iconst 0, 1) := by decide +kernel
theorem dX3_amnesty_13 : decode cX3_amnesty 13 = .ok (.aload_n 0, 1) := by decide +kernel
theorem dX3_amnesty_14 : decode cX3_amnesty 14 = .ok (.getfield 77, 3) := by decide +kernel
theorem dX3_amnesty_17 : decode cX3_amnesty 17 = .ok (.invokestatic 35, 3) := by decide +kernel
theorem dX3_amnesty_20 : decode cX3_amnesty 20 = .ok (.ifCond .ne 13, 3) := by decide +kernel
theorem dX3_amnesty_23 : decode cX3_amnesty 23 = .ok (.new 39, 3) := by decide +kernel
theorem dX3_amnesty_26 : decode cX3_amnesty 26 = .ok (.dup, 1) := by decide +kernel
theorem dX3_amnesty_27 : decode cX3_amnesty 27 = .ok (.ldc 111, 2) := by decide +kernel
theorem dX3_amnesty_29 : decode cX3_amnesty 29 = .ok (.invokespecial 43, 3) := by decide +kernel
theorem dX3_amnesty_32 : decode cX3_amnesty 32 = .ok (.athrow, 1) := by decide +kernel
theorem dX3_amnesty_33 : decode cX3_amnesty 33 = .ok (.iconst 0, 1) := by decide +kernel
theorem dX3_amnesty_34 : decode cX3_amnesty 34 = .ok (.istore_n 3, 1) := by decide +kernel
theorem dX3_amnesty_35 : decode cX3_amnesty 35 = .ok (.iconst 0, 1) := by decide +kernel
theorem dX3_amnesty_36 : decode cX3_amnesty 36 = .ok (.istore 4, 2) := by decide +kernel
theorem dX3_amnesty_38 : decode cX3_amnesty 38 = .ok (.aload_n 0, 1) := by decide +kernel
theorem dX3_amnesty_39 : decode cX3_amnesty 39 = .ok (.getfield 10, 3) := by decide +kernel
theorem dX3_amnesty_42 : decode cX3_amnesty 42 = .ok (.invokevirtual 50, 3) := by decide +kernel
theorem dX3_amnesty_45 : decode cX3_amnesty 45 = .ok (.istore 5, 2) := by decide +kernel
theorem dX3_amnesty_47 : decode cX3_amnesty 47 = .ok (.iload 5, 2) := by decide +kernel
theorem dX3_amnesty_49 : decode cX3_amnesty 49 = .ok (.ifCond .le 64, 3) := by decide +kernel
theorem dX3_amnesty_52 : decode cX3_amnesty 52 = .ok (.aload_n 0, 1) := by decide +kernel
theorem dX3_amnesty_53 : decode cX3_amnesty 53 = .ok (.getfield 10, 3) := by decide +kernel
theorem dX3_amnesty_56 : decode cX3_amnesty 56 = .ok (.iload 4, 2) := by decide +kernel
theorem dX3_amnesty_58 : decode cX3_amnesty 58 = .ok (.invokevirtual 113, 3) := by decide +kernel
theorem dX3_amnesty_61 : decode cX3_amnesty 61 = .ok (.astore 6, 2) := by decide +kernel
theorem dX3_amnesty_63 : decode cX3_amnesty 63 = .ok (.aload 6, 2) := by decide +kernel
theorem dX3_amnesty_65 : decode cX3_amnesty 65 = .ok (.ifnull 39, 3) := by decide +kernel
theorem dX3_amnesty_68 : decode cX3_amnesty 68 = .ok (.aload 6, 2) := by decide +kernel
theorem dX3_amnesty_70 : decode cX3_amnesty 70 = .ok (.iload_n 1, 1) := by decide +kernel
theorem dX3_amnesty_71 : decode cX3_amnesty 71 = .ok (.iload_n 2, 1) := by decide +kernel
theorem dX3_amnesty_72 : decode cX3_amnesty 72 = .ok (.invokevirtual 116, 3) := by decide +kernel
theorem dX3_amnesty_75 : decode cX3_amnesty 75 = .ok (.ifCond .eq 29, 3) := by decide +kernel
theorem dX3_amnesty_78 : decode cX3_amnesty 78 = .ok (.aload_n 0, 1) := by decide +kernel
theorem dX3_amnesty_79 : decode cX3_amnesty 79 = .ok (.dup, 1) := by decide +kernel
theorem dX3_amnesty_80 : decode cX3_amnesty 80 = .ok (.getfield 94, 3) := by decide +kernel
theorem dX3_amnesty_83 : decode cX3_amnesty 83 = .ok (.aload 6, 2) := by decide +kernel
theorem dX3_amnesty_85 : decode cX3_amnesty 85 = .ok (.getfield 97, 3) := by decide +kernel
theorem dX3_amnesty_88 : decode cX3_amnesty 88 = .ok (.iadd, 1) := by decide +kernel
theorem dX3_amnesty_89 : decode cX3_amnesty 89 = .ok (.putfield 94, 3) := by decide +kernel
theorem dX3_amnesty_92 : decode cX3_amnesty 92 = .ok (.aload_n 0, 1) := by decide +kernel
theorem dX3_amnesty_93 : decode cX3_amnesty 93 = .ok (.iload 4, 2) := by decide +kernel
theorem dX3_amnesty_95 : decode cX3_amnesty 95 = .ok (.invokevirtual 103, 3) := by decide +kernel
theorem dX3_amnesty_98 : decode cX3_amnesty 98 = .ok (.iinc 3 1, 3) := by decide +kernel
theorem dX3_amnesty_101 : decode cX3_amnesty 101 = .ok (.goto 6, 3) := by decide +kernel
theorem dX3_amnesty_104 : decode cX3_amnesty 104 = .ok (.iinc 4 1, 3) := by decide +kernel
theorem dX3_amnesty_107 : decode cX3_amnesty 107 = .ok (.iinc 5 (-1), 3) := by decide +kernel
theorem dX3_amnesty_110 : decode cX3_amnesty 110 = .ok (.goto (-63), 3) := by decide +kernel
theorem dX3_amnesty_113 : decode cX3_amnesty 113 = .ok (.iload_n 3, 1) := by decide +kernel
theorem dX3_amnesty_114 : decode cX3_amnesty 114 = .ok (.ireturn, 1) := by decide +kernel
set_option maxRecDepth 20000 in
theorem ggX3_records_X1_count : GoodIn wsX3_records wsX1_count := goodIn_r _ [6, 7, 15, 16] (by decide +kernel) (by decide +kernel)
set_option maxRecDepth 20000 in
theorem gX3_records_X1_count : GoodIn wsX3_records (wsV RX3 50 RX1 yX1_count wsX1_count) := goodIn_app (goodIn_of _ (by decide +kernel)) ggX3_records_X1_count
theorem dX3_records_0 : decode cX3_records 0 = .ok (.aload_n 0, 1) := by decide +kernel
theorem dX3_records_1 : decode cX3_records 1 = .ok (.getfield 10, 3) := by decide +kernel
theorem dX3_records_4 : decode cX3_records 4 = .ok (.invokevirtual 50, 3) := by decide +kernel
theorem dX3_records_7 : decode cX3_records 7 = .ok (.ireturn, 1) := by decide +kernel
set_option maxRecDepth 20000 in
theorem ggX3_sum_X3_requireCase : GoodIn wsX3_sum wsX3_requireCase := goodIn_ca (goodIn_r _ [6, 7, 8, 9, 10, 5, 11] (by decide +kernel) (by decide +kernel)) (goodIn_sub (fun _ h => List.mem_cons_of_mem _ (List.mem_append_right _ h)) (by decide +kernel))
set_option maxRecDepth 20000 in
theorem gX3_sum_X3_requireCase : GoodIn wsX3_sum (va_wsS RX3 31 yX3_requireCase wsX3_requireCase) := goodIn_app (goodIn_of _ (by decide +kernel)) ggX3_sum_X3_requireCase
set_option maxRecDepth 20000 in
theorem ggX3_sum_X1_find : GoodIn wsX3_sum wsX1_find := goodIn_r _ [16, 17, 18, 19, 15, 20, 21, 22, 23, 24, 25, 26, 27, 28, 29, 30, 31, 32, 33, 34, 35, 48, 49, 43, 44, 45, 46, 47] (by decide +kernel) (by decide +kernel)
set_option maxRecDepth 20000 in
theorem gX3_sum_X1_find : GoodIn wsX3_sum (wsV RX3 46 RX1 yX1_find wsX1_find) := goodIn_app (goodIn_of _ (by decide +kernel)) ggX3_sum_X1_find
theorem dX3_sum_0 : decode cX3_sum 0 = .ok (.iload_n 1, 1) := by decide +kernel
theorem dX3_sum_1 : decode cX3_sum 1 = .ok (.invokestatic 31, 3) := by decide +kernel
theorem dX3_sum_4 : decode cX3_sum 4 = .ok (.aload_n 0, 1) := by decide +kernel
theorem dX3_sum_5 : decode cX3_sum 5 = .ok (.getfield 10, 3) := by decide +kernel
theorem dX3_sum_8 : decode cX3_sum 8 = .ok (.iload_n 1, 1) := by decide +kernel
theorem dX3_sum_9 : decode cX3_sum 9 = .ok (.invokevirtual 46, 3) := by decide +kernel
theorem dX3_sum_12 : decode cX3_sum 12 = .ok (.astore_n 2, 1) := by decide +kernel
theorem dX3_sum_13 : decode cX3_sum 13 = .ok (.aload_n 2, 1) := by decide +kernel
theorem dX3_sum_14 : decode cX3_sum 14 = .ok (.ifnonnull 7, 3) := by decide +kernel
theorem dX3_sum_17 : decode cX3_sum 17 = .ok (.iconst 0, 1) := by decide +kernel
theorem dX3_sum_18 : decode cX3_sum 18 = .ok (.goto 7, 3) := by decide +kernel
theorem dX3_sum_21 : decode cX3_sum 21 = .ok (.aload_n 2, 1) := by decide +kernel
theorem dX3_sum_22 : decode cX3_sum 22 = .ok (.getfield 97, 3) := by decide +kernel
theorem dX3_sum_25 : decode cX3_sum 25 = .ok (.ireturn, 1) := by decide +kernel
set_option maxRecDepth 20000 in
theorem ggX3_heldBy_X3_isIn : GoodIn wsX3_heldBy wsX3_isIn := goodIn_r _ [7] (by decide +kernel) (by decide +kernel)
set_option maxRecDepth 20000 in
theorem gX3_heldBy_X3_isIn : GoodIn wsX3_heldBy (va_wsS RX3 35 yX3_isIn wsX3_isIn) := goodIn_app (goodIn_of _ (by decide +kernel)) ggX3_heldBy_X3_isIn
set_option maxRecDepth 20000 in
theorem ggX3_heldBy_X1_sumOfSurety : GoodIn wsX3_heldBy wsX1_sumOfSurety := goodIn_r _ [12, 13, 14, 15, 16, 17, 18, 11, 19, 20, 28, 29, 30, 31, 32, 33, 34] (by decide +kernel) (by decide +kernel)
set_option maxRecDepth 20000 in
theorem gX3_heldBy_X1_sumOfSurety : GoodIn wsX3_heldBy (wsV RX3 122 RX1 yX1_sumOfSurety wsX1_sumOfSurety) := goodIn_app (goodIn_of _ (by decide +kernel)) ggX3_heldBy_X1_sumOfSurety
theorem dX3_heldBy_0 : decode cX3_heldBy 0 = .ok (.iload_n 1, 1) := by decide +kernel
theorem dX3_heldBy_1 : decode cX3_heldBy 1 = .ok (.iconst 0, 1) := by decide +kernel
theorem dX3_heldBy_2 : decode cX3_heldBy 2 = .ok (.bipush 9, 2) := by decide +kernel
theorem dX3_heldBy_4 : decode cX3_heldBy 4 = .ok (.invokestatic 35, 3) := by decide +kernel
theorem dX3_heldBy_7 : decode cX3_heldBy 7 = .ok (.ifCond .ne 13, 3) := by decide +kernel
theorem dX3_heldBy_10 : decode cX3_heldBy 10 = .ok (.new 39, 3) := by decide +kernel
theorem dX3_heldBy_13 : decode cX3_heldBy 13 = .ok (.dup, 1) := by decide +kernel
theorem dX3_heldBy_14 : decode cX3_heldBy 14 = .ok (.ldc 120, 2) := by decide +kernel
theorem dX3_heldBy_16 : decode cX3_heldBy 16 = .ok (.invokespecial 43, 3) := by decide +kernel
theorem dX3_heldBy_19 : decode cX3_heldBy 19 = .ok (.athrow, 1) := by decide +kernel
theorem dX3_heldBy_20 : decode cX3_heldBy 20 = .ok (.aload_n 0, 1) := by decide +kernel
theorem dX3_heldBy_21 : decode cX3_heldBy 21 = .ok (.getfield 10, 3) := by decide +kernel
theorem dX3_heldBy_24 : decode cX3_heldBy 24 = .ok (.iload_n 1, 1) := by decide +kernel
theorem dX3_heldBy_25 : decode cX3_heldBy 25 = .ok (.invokevirtual 122, 3) := by decide +kernel
theorem dX3_heldBy_28 : decode cX3_heldBy 28 = .ok (.ireturn, 1) := by decide +kernel
theorem dX3_kept_0 : decode cX3_kept 0 = .ok (.aload_n 0, 1) := by decide +kernel
theorem dX3_kept_1 : decode cX3_kept 1 = .ok (.getfield 125, 3) := by decide +kernel
theorem dX3_kept_4 : decode cX3_kept 4 = .ok (.ireturn, 1) := by decide +kernel
theorem dX3_paidBack_0 : decode cX3_paidBack 0 = .ok (.aload_n 0, 1) := by decide +kernel
theorem dX3_paidBack_1 : decode cX3_paidBack 1 = .ok (.getfield 94, 3) := by decide +kernel
theorem dX3_paidBack_4 : decode cX3_paidBack 4 = .ok (.ireturn, 1) := by decide +kernel
set_option maxRecDepth 20000 in
theorem ggX3_pass_X3_isIn : GoodIn wsX3_pass wsX3_isIn := goodIn_r _ [9] (by decide +kernel) (by decide +kernel)
set_option maxRecDepth 20000 in
theorem gX3_pass_X3_isIn : GoodIn wsX3_pass (va_wsS RX3 35 yX3_isIn wsX3_isIn) := goodIn_app (goodIn_of _ (by decide +kernel)) ggX3_pass_X3_isIn
set_option maxRecDepth 20000 in
theorem ggX3_pass_X3_keepOverdue : GoodIn wsX3_pass wsX3_keepOverdue := goodIn_r _ [13, 14, 5, 15, 16, 17, 18, 19, 20, 21, 22, 23, 24, 25, 26, 27, 28, 29, 30, 31, 32, 33, 34, 35, 36, 37, 38, 39, 40, 8, 41, 42, 43, 44, 45, 46, 47, 48, 49, 50, 51, 52, 53, 54, 55, 56, 57, 58, 59, 60, 61, 62, 63, 64, 65, 66, 67, 68, 69, 70, 71, 72, 73, 74, 75, 76, 77, 78, 79, 80, 81, 82, 83, 84, 85, 86, 87, 88, 89, 90, 91, 92, 93, 94, 95, 96, 97, 98, 99] (by decide +kernel) (by decide +kernel)
set_option maxRecDepth 20000 in
theorem gX3_pass_X3_keepOverdue : GoodIn wsX3_pass (wsV RX3 132 RX3 yX3_keepOverdue wsX3_keepOverdue) := goodIn_app (goodIn_of _ (by decide +kernel)) ggX3_pass_X3_keepOverdue
theorem dX3_pass_0 : decode cX3_pass 0 = .ok (.iload_n 1, 1) := by decide +kernel
theorem dX3_pass_1 : decode cX3_pass 1 = .ok (.iconst 1, 1) := by decide +kernel
theorem dX3_pass_2 : decode cX3_pass 2 = .ok (.bipush 100, 2) := by decide +kernel
theorem dX3_pass_4 : decode cX3_pass 4 = .ok (.invokestatic 35, 3) := by decide +kernel
theorem dX3_pass_7 : decode cX3_pass 7 = .ok (.ifCond .ne 13, 3) := by decide +kernel
theorem dX3_pass_10 : decode cX3_pass 10 = .ok (.new 39, 3) := by decide +kernel
theorem dX3_pass_13 : decode cX3_pass 13 = .ok (.dup, 1) := by decide +kernel
theorem dX3_pass_14 : decode cX3_pass 14 = .ok (.ldc 128, 2) := by decide +kernel
theorem dX3_pass_16 : decode cX3_pass 16 = .ok (.invokespecial 43, 3) := by decide +kernel
theorem dX3_pass_19 : decode cX3_pass 19 = .ok (.athrow, 1) := by decide +kernel
theorem dX3_pass_20 : decode cX3_pass 20 = .ok (.aload_n 0, 1) := by decide +kernel
theorem dX3_pass_21 : decode cX3_pass 21 = .ok (.getfield 77, 3) := by decide +kernel
theorem dX3_pass_24 : decode cX3_pass 24 = .ok (.iload_n 1, 1) := by decide +kernel
theorem dX3_pass_25 : decode cX3_pass 25 = .ok (.iadd, 1) := by decide +kernel
theorem dX3_pass_26 : decode cX3_pass 26 = .ok (.sipush 5000, 3) := by decide +kernel
theorem dX3_pass_29 : decode cX3_pass 29 = .ok (.if_icmp .le 13, 3) := by decide +kernel
theorem dX3_pass_32 : decode cX3_pass 32 = .ok (.new 54, 3) := by decide +kernel
theorem dX3_pass_35 : decode cX3_pass 35 = .ok (.dup, 1) := by decide +kernel
theorem dX3_pass_36 : decode cX3_pass 36 = .ok (.ldc 130, 2) := by decide +kernel
theorem dX3_pass_38 : decode cX3_pass 38 = .ok (.invokespecial 58, 3) := by decide +kernel
theorem dX3_pass_41 : decode cX3_pass 41 = .ok (.athrow, 1) := by decide +kernel
theorem dX3_pass_42 : decode cX3_pass 42 = .ok (.iconst 0, 1) := by decide +kernel
theorem dX3_pass_43 : decode cX3_pass 43 = .ok (.istore_n 2, 1) := by decide +kernel
theorem dX3_pass_44 : decode cX3_pass 44 = .ok (.iconst 0, 1) := by decide +kernel
theorem dX3_pass_45 : decode cX3_pass 45 = .ok (.istore_n 3, 1) := by decide +kernel
theorem dX3_pass_46 : decode cX3_pass 46 = .ok (.iload_n 3, 1) := by decide +kernel
theorem dX3_pass_47 : decode cX3_pass 47 = .ok (.iload_n 1, 1) := by decide +kernel
theorem dX3_pass_48 : decode cX3_pass 48 = .ok (.if_icmp .ge 26, 3) := by decide +kernel
theorem dX3_pass_51 : decode cX3_pass 51 = .ok (.aload_n 0, 1) := by decide +kernel
theorem dX3_pass_52 : decode cX3_pass 52 = .ok (.dup, 1) := by decide +kernel
theorem dX3_pass_53 : decode cX3_pass 53 = .ok (.getfield 77, 3) := by decide +kernel
theorem dX3_pass_56 : decode cX3_pass 56 = .ok (.iconst 1, 1) := by decide +kernel
theorem dX3_pass_57 : decode cX3_pass 57 = .ok (.iadd, 1) := by decide +kernel
theorem dX3_pass_58 : decode cX3_pass 58 = .ok (.putfield 77, 3) := by decide +kernel
theorem dX3_pass_61 : decode cX3_pass 61 = .ok (.iload_n 2, 1) := by decide +kernel
theorem dX3_pass_62 : decode cX3_pass 62 = .ok (.aload_n 0, 1) := by decide +kernel
theorem dX3_pass_63 : decode cX3_pass 63 = .ok (.invokevirtual 132, 3) := by decide +kernel
theorem dX3_pass_66 : decode cX3_pass 66 = .ok (.iadd, 1) := by decide +kernel
theorem dX3_pass_67 : decode cX3_pass 67 = .ok (.istore_n 2, 1) := by decide +kernel
theorem dX3_pass_68 : decode cX3_pass 68 = .ok (.iinc 3 1, 3) := by decide +kernel
theorem dX3_pass_71 : decode cX3_pass 71 = .ok (.goto (-25), 3) := by decide +kernel
theorem dX3_pass_74 : decode cX3_pass 74 = .ok (.iload_n 2, 1) := by decide +kernel
theorem dX3_pass_75 : decode cX3_pass 75 = .ok (.ireturn, 1) := by decide +kernel
theorem dX3_today_0 : decode cX3_today 0 = .ok (.aload_n 0, 1) := by decide +kernel
theorem dX3_today_1 : decode cX3_today 1 = .ok (.getfield 77, 3) := by decide +kernel
theorem dX3_today_4 : decode cX3_today 4 = .ok (.ireturn, 1) := by decide +kernel
set_option maxRecDepth 20000 in
theorem ggX3_pages_X2_count : GoodIn wsX3_pages wsX2_count := goodIn_r _ [6, 7, 15, 16] (by decide +kernel) (by decide +kernel)
set_option maxRecDepth 20000 in
theorem gX3_pages_X2_count : GoodIn wsX3_pages (wsV RX3 87 RX2 yX2_count wsX2_count) := goodIn_app (goodIn_of _ (by decide +kernel)) ggX3_pages_X2_count
theorem dX3_pages_0 : decode cX3_pages 0 = .ok (.aload_n 0, 1) := by decide +kernel
theorem dX3_pages_1 : decode cX3_pages 1 = .ok (.getfield 19, 3) := by decide +kernel
theorem dX3_pages_4 : decode cX3_pages 4 = .ok (.invokevirtual 87, 3) := by decide +kernel
theorem dX3_pages_7 : decode cX3_pages 7 = .ok (.ireturn, 1) := by decide +kernel
set_option maxRecDepth 20000 in
theorem ggX3_size_X2_has : GoodIn wsX3_size wsX2_has := goodIn_r _ [8, 9, 10, 23, 24] (by decide +kernel) (by decide +kernel)
set_option maxRecDepth 20000 in
theorem gX3_size_X2_has : GoodIn wsX3_size (wsV RX3 135 RX2 yX2_has wsX2_has) := goodIn_app (goodIn_of _ (by decide +kernel)) ggX3_size_X2_has
set_option maxRecDepth 20000 in
theorem ggX3_size_X2_sizeOf : GoodIn wsX3_size wsX2_sizeOf := goodIn_r _ [14, 10, 15, 5, 6, 7, 8, 9, 23, 24] (by decide +kernel) (by decide +kernel)
set_option maxRecDepth 20000 in
theorem gX3_size_X2_sizeOf : GoodIn wsX3_size (wsV RX3 66 RX2 yX2_sizeOf wsX2_sizeOf) := goodIn_app (goodIn_of _ (by decide +kernel)) ggX3_size_X2_sizeOf
theorem dX3_size_0 : decode cX3_size 0 = .ok (.aload_n 0, 1) := by decide +kernel
theorem dX3_size_1 : decode cX3_size 1 = .ok (.getfield 19, 3) := by decide +kernel
theorem dX3_size_4 : decode cX3_size 4 = .ok (.iload_n 1, 1) := by decide +kernel
theorem dX3_size_5 : decode cX3_size 5 = .ok (.invokevirtual 135, 3) := by decide +kernel
theorem dX3_size_8 : decode cX3_size 8 = .ok (.ifCond .ne 13, 3) := by decide +kernel
theorem dX3_size_11 : decode cX3_size 11 = .ok (.new 139, 3) := by decide +kernel
theorem dX3_size_14 : decode cX3_size 14 = .ok (.dup, 1) := by decide +kernel
theorem dX3_size_15 : decode cX3_size 15 = .ok (.ldc 141, 2) := by decide +kernel
theorem dX3_size_17 : decode cX3_size 17 = .ok (.invokespecial 143, 3) := by decide +kernel
theorem dX3_size_20 : decode cX3_size 20 = .ok (.athrow, 1) := by decide +kernel
theorem dX3_size_21 : decode cX3_size 21 = .ok (.aload_n 0, 1) := by decide +kernel
theorem dX3_size_22 : decode cX3_size 22 = .ok (.getfield 19, 3) := by decide +kernel
theorem dX3_size_25 : decode cX3_size 25 = .ok (.iload_n 1, 1) := by decide +kernel
theorem dX3_size_26 : decode cX3_size 26 = .ok (.invokevirtual 66, 3) := by decide +kernel
theorem dX3_size_29 : decode cX3_size 29 = .ok (.ireturn, 1) := by decide +kernel
set_option maxRecDepth 20000 in
theorem ggX3_at_X2_has : GoodIn wsX3_at wsX2_has := goodIn_r _ [9, 10, 11, 45, 46] (by decide +kernel) (by decide +kernel)
set_option maxRecDepth 20000 in
theorem gX3_at_X2_has : GoodIn wsX3_at (wsV RX3 135 RX2 yX2_has wsX2_has) := goodIn_app (goodIn_of _ (by decide +kernel)) ggX3_at_X2_has
set_option maxRecDepth 20000 in
theorem ggX3_at_X2_sizeOf : GoodIn wsX3_at wsX2_sizeOf := goodIn_r _ [15, 11, 16, 6, 7, 8, 9, 10, 45, 46] (by decide +kernel) (by decide +kernel)
set_option maxRecDepth 20000 in
theorem gX3_at_X2_sizeOf : GoodIn wsX3_at (wsV RX3 66 RX2 yX2_sizeOf wsX2_sizeOf) := goodIn_app (goodIn_of _ (by decide +kernel)) ggX3_at_X2_sizeOf
set_option maxRecDepth 20000 in
theorem ggX3_at_X3_isIn : GoodIn wsX3_at wsX3_isIn := goodIn_r _ [20] (by decide +kernel) (by decide +kernel)
set_option maxRecDepth 20000 in
theorem gX3_at_X3_isIn : GoodIn wsX3_at (va_wsS RX3 35 yX3_isIn wsX3_isIn) := goodIn_app (goodIn_of _ (by decide +kernel)) ggX3_at_X3_isIn
set_option maxRecDepth 20000 in
theorem ggX3_at_X2_beginOf : GoodIn wsX3_at wsX2_beginOf := goodIn_r _ [24, 10, 25, 13, 14, 8, 15, 11, 16, 6, 7, 9, 45, 46] (by decide +kernel) (by decide +kernel)
set_option maxRecDepth 20000 in
theorem gX3_at_X2_beginOf : GoodIn wsX3_at (wsV RX3 146 RX2 yX2_beginOf wsX2_beginOf) := goodIn_app (goodIn_of _ (by decide +kernel)) ggX3_at_X2_beginOf
set_option maxRecDepth 20000 in
theorem ggX3_at_X1_numberAt : GoodIn wsX3_at wsX1_numberAt := goodIn_r _ [30, 31, 32, 33, 34, 29, 35, 36, 37, 47, 48, 49, 50, 51, 52, 53] (by decide +kernel) (by decide +kernel)
set_option maxRecDepth 20000 in
theorem gX3_at_X1_numberAt : GoodIn wsX3_at (wsV RX3 149 RX1 yX1_numberAt wsX1_numberAt) := goodIn_app (goodIn_of _ (by decide +kernel)) ggX3_at_X1_numberAt
theorem dX3_at_0 : decode cX3_at 0 = .ok (.aload_n 0, 1) := by decide +kernel
theorem dX3_at_1 : decode cX3_at 1 = .ok (.getfield 19, 3) := by decide +kernel
theorem dX3_at_4 : decode cX3_at 4 = .ok (.iload_n 1, 1) := by decide +kernel
theorem dX3_at_5 : decode cX3_at 5 = .ok (.invokevirtual 135, 3) := by decide +kernel
theorem dX3_at_8 : decode cX3_at 8 = .ok (.ifCond .eq 21, 3) := by decide +kernel
theorem dX3_at_11 : decode cX3_at 11 = .ok (.iload_n 2, 1) := by decide +kernel
theorem dX3_at_12 : decode cX3_at 12 = .ok (.iconst 0, 1) := by decide +kernel
theorem dX3_at_13 : decode cX3_at 13 = .ok (.aload_n 0, 1) := by decide +kernel
theorem dX3_at_14 : decode cX3_at 14 = .ok (.getfield 19, 3) := by decide +kernel
theorem dX3_at_17 : decode cX3_at 17 = .ok (.iload_n 1, 1) := by decide +kernel
theorem dX3_at_18 : decode cX3_at 18 = .ok (.invokevirtual 66, 3) := by decide +kernel
theorem dX3_at_21 : decode cX3_at 21 = .ok (.iconst 1, 1) := by decide +kernel
theorem dX3_at_22 : decode cX3_at 22 = .ok (.isub, 1) := by decide +kernel
theorem dX3_at_23 : decode cX3_at 23 = .ok (.invokestatic 35, 3) := by decide +kernel
theorem dX3_at_26 : decode cX3_at 26 = .ok (.ifCond .ne 13, 3) := by decide +kernel
theorem dX3_at_29 : decode cX3_at 29 = .ok (.new 139, 3) := by decide +kernel
theorem dX3_at_32 : decode cX3_at 32 = .ok (.dup, 1) := by decide +kernel
theorem dX3_at_33 : decode cX3_at 33 = .ok (.ldc 144, 2) := by decide +kernel
theorem dX3_at_35 : decode cX3_at 35 = .ok (.invokespecial 143, 3) := by decide +kernel
theorem dX3_at_38 : decode cX3_at 38 = .ok (.athrow, 1) := by decide +kernel
theorem dX3_at_39 : decode cX3_at 39 = .ok (.aload_n 0, 1) := by decide +kernel
theorem dX3_at_40 : decode cX3_at 40 = .ok (.getfield 10, 3) := by decide +kernel
theorem dX3_at_43 : decode cX3_at 43 = .ok (.aload_n 0, 1) := by decide +kernel
theorem dX3_at_44 : decode cX3_at 44 = .ok (.getfield 19, 3) := by decide +kernel
theorem dX3_at_47 : decode cX3_at 47 = .ok (.iload_n 1, 1) := by decide +kernel
theorem dX3_at_48 : decode cX3_at 48 = .ok (.invokevirtual 146, 3) := by decide +kernel
theorem dX3_at_51 : decode cX3_at 51 = .ok (.iload_n 2, 1) := by decide +kernel
theorem dX3_at_52 : decode cX3_at 52 = .ok (.iadd, 1) := by decide +kernel
theorem dX3_at_53 : decode cX3_at 53 = .ok (.invokevirtual 149, 3) := by decide +kernel
theorem dX3_at_56 : decode cX3_at 56 = .ok (.ireturn, 1) := by decide +kernel
set_option maxRecDepth 20000 in
theorem ggX3_pageOf_X3_requireCase : GoodIn wsX3_pageOf wsX3_requireCase := goodIn_ca (goodIn_r _ [6, 7, 8, 9, 10, 5, 11] (by decide +kernel) (by decide +kernel)) (goodIn_sub (fun _ h => List.mem_cons_of_mem _ (List.mem_append_right _ h)) (by decide +kernel))
set_option maxRecDepth 20000 in
theorem gX3_pageOf_X3_requireCase : GoodIn wsX3_pageOf (va_wsS RX3 31 yX3_requireCase wsX3_requireCase) := goodIn_app (goodIn_of _ (by decide +kernel)) ggX3_pageOf_X3_requireCase
set_option maxRecDepth 20000 in
theorem ggX3_pageOf_X1_placeOf : GoodIn wsX3_pageOf wsX1_placeOf := goodIn_r _ [16, 17, 18, 19, 15, 20, 21, 22, 23, 24, 25, 26, 27, 28, 29, 30, 31, 54, 55, 56, 57, 58, 59, 60] (by decide +kernel) (by decide +kernel)
set_option maxRecDepth 20000 in
theorem gX3_pageOf_X1_placeOf : GoodIn wsX3_pageOf (wsV RX3 100 RX1 yX1_placeOf wsX1_placeOf) := goodIn_app (goodIn_of _ (by decide +kernel)) ggX3_pageOf_X1_placeOf
set_option maxRecDepth 20000 in
theorem ggX3_pageOf_X2_pageWith : GoodIn wsX3_pageOf wsX2_pageWith := goodIn_r _ [36, 37, 38, 39, 40, 35, 41, 42, 43, 44, 45, 46, 61, 62] (by decide +kernel) (by decide +kernel)
set_option maxRecDepth 20000 in
theorem gX3_pageOf_X2_pageWith : GoodIn wsX3_pageOf (wsV RX3 152 RX2 yX2_pageWith wsX2_pageWith) := goodIn_app (goodIn_of _ (by decide +kernel)) ggX3_pageOf_X2_pageWith
theorem dX3_pageOf_0 : decode cX3_pageOf 0 = .ok (.iload_n 1, 1) := by decide +kernel
theorem dX3_pageOf_1 : decode cX3_pageOf 1 = .ok (.invokestatic 31, 3) := by decide +kernel
theorem dX3_pageOf_4 : decode cX3_pageOf 4 = .ok (.aload_n 0, 1) := by decide +kernel
theorem dX3_pageOf_5 : decode cX3_pageOf 5 = .ok (.getfield 19, 3) := by decide +kernel
theorem dX3_pageOf_8 : decode cX3_pageOf 8 = .ok (.aload_n 0, 1) := by decide +kernel
theorem dX3_pageOf_9 : decode cX3_pageOf 9 = .ok (.getfield 10, 3) := by decide +kernel
theorem dX3_pageOf_12 : decode cX3_pageOf 12 = .ok (.iload_n 1, 1) := by decide +kernel
theorem dX3_pageOf_13 : decode cX3_pageOf 13 = .ok (.invokevirtual 100, 3) := by decide +kernel
theorem dX3_pageOf_16 : decode cX3_pageOf 16 = .ok (.invokevirtual 152, 3) := by decide +kernel
theorem dX3_pageOf_19 : decode cX3_pageOf 19 = .ok (.ireturn, 1) := by decide +kernel
theorem dX3_sweep_0 : decode cX3_sweep 0 = .ok (.aload_n 0, 1) := by decide +kernel
theorem dX3_sweep_1 : decode cX3_sweep 1 = .ok (.getfield 27, 3) := by decide +kernel
theorem dX3_sweep_4 : decode cX3_sweep 4 = .ok (.iconst (-1), 1) := by decide +kernel
theorem dX3_sweep_5 : decode cX3_sweep 5 = .ok (.if_icmp .eq 13, 3) := by decide +kernel
theorem dX3_sweep_8 : decode cX3_sweep 8 = .ok (.new 54, 3) := by decide +kernel
theorem dX3_sweep_11 : decode cX3_sweep 11 = .ok (.dup, 1) := by decide +kernel
theorem dX3_sweep_12 : decode cX3_sweep 12 = .ok (.ldc 155, 2) := by decide +kernel
theorem dX3_sweep_14 : decode cX3_sweep 14 = .ok (.invokespecial 58, 3) := by decide +kernel
theorem dX3_sweep_17 : decode cX3_sweep 17 = .ok (.athrow, 1) := by decide +kernel
theorem dX3_sweep_18 : decode cX3_sweep 18 = .ok (.aload_n 0, 1) := by decide +kernel
theorem dX3_sweep_19 : decode cX3_sweep 19 = .ok (.iconst 0, 1) := by decide +kernel
theorem dX3_sweep_20 : decode cX3_sweep 20 = .ok (.putfield 27, 3) := by decide +kernel
theorem dX3_sweep_23 : decode cX3_sweep 23 = .ok (.return_, 1) := by decide +kernel
set_option maxRecDepth 20000 in
theorem ggX3_step_X3_isIn : GoodIn wsX3_step wsX3_isIn := goodIn_r _ [9] (by decide +kernel) (by decide +kernel)
set_option maxRecDepth 20000 in
theorem gX3_step_X3_isIn : GoodIn wsX3_step (va_wsS RX3 35 yX3_isIn wsX3_isIn) := goodIn_app (goodIn_of _ (by decide +kernel)) ggX3_step_X3_isIn
set_option maxRecDepth 20000 in
theorem ggX3_step_X3_sweepOn : GoodIn wsX3_step wsX3_sweepOn := goodIn_r _ [13, 14, 5, 15, 16, 17, 18, 19, 20, 21, 22, 23, 24, 25, 26, 27, 28, 29, 30, 31, 32, 33, 34, 35, 36, 37, 38, 39, 40, 41, 42, 43] (by decide +kernel) (by decide +kernel)
set_option maxRecDepth 20000 in
theorem gX3_step_X3_sweepOn : GoodIn wsX3_step (wsV RX3 161 RX3 yX3_sweepOn wsX3_sweepOn) := goodIn_app (goodIn_of _ (by decide +kernel)) ggX3_step_X3_sweepOn
theorem dX3_step_0 : decode cX3_step 0 = .ok (.iload_n 1, 1) := by decide +kernel
theorem dX3_step_1 : decode cX3_step 1 = .ok (.iconst 1, 1) := by decide +kernel
theorem dX3_step_2 : decode cX3_step 2 = .ok (.bipush 100, 2) := by decide +kernel
theorem dX3_step_4 : decode cX3_step 4 = .ok (.invokestatic 35, 3) := by decide +kernel
theorem dX3_step_7 : decode cX3_step 7 = .ok (.ifCond .ne 13, 3) := by decide +kernel
theorem dX3_step_10 : decode cX3_step 10 = .ok (.new 39, 3) := by decide +kernel
theorem dX3_step_13 : decode cX3_step 13 = .ok (.dup, 1) := by decide +kernel
theorem dX3_step_14 : decode cX3_step 14 = .ok (.ldc 157, 2) := by decide +kernel
theorem dX3_step_16 : decode cX3_step 16 = .ok (.invokespecial 43, 3) := by decide +kernel
theorem dX3_step_19 : decode cX3_step 19 = .ok (.athrow, 1) := by decide +kernel
theorem dX3_step_20 : decode cX3_step 20 = .ok (.aload_n 0, 1) := by decide +kernel
theorem dX3_step_21 : decode cX3_step 21 = .ok (.getfield 27, 3) := by decide +kernel
theorem dX3_step_24 : decode cX3_step 24 = .ok (.iconst (-1), 1) := by decide +kernel
theorem dX3_step_25 : decode cX3_step 25 = .ok (.if_icmp .ne 13, 3) := by decide +kernel
theorem dX3_step_28 : decode cX3_step 28 = .ok (.new 54, 3) := by decide +kernel
theorem dX3_step_31 : decode cX3_step 31 = .ok (.dup, 1) := by decide +kernel
theorem dX3_step_32 : decode cX3_step 32 = .ok (.ldc 159, 2) := by decide +kernel
theorem dX3_step_34 : decode cX3_step 34 = .ok (.invokespecial 58, 3) := by decide +kernel
theorem dX3_step_37 : decode cX3_step 37 = .ok (.athrow, 1) := by decide +kernel
theorem dX3_step_38 : decode cX3_step 38 = .ok (.iconst 0, 1) := by decide +kernel
theorem dX3_step_39 : decode cX3_step 39 = .ok (.istore_n 2, 1) := by decide +kernel
theorem dX3_step_40 : decode cX3_step 40 = .ok (.iconst 0, 1) := by decide +kernel
theorem dX3_step_41 : decode cX3_step 41 = .ok (.istore_n 3, 1) := by decide +kernel
theorem dX3_step_42 : decode cX3_step 42 = .ok (.iload_n 3, 1) := by decide +kernel
theorem dX3_step_43 : decode cX3_step 43 = .ok (.iload_n 1, 1) := by decide +kernel
theorem dX3_step_44 : decode cX3_step 44 = .ok (.if_icmp .ge 24, 3) := by decide +kernel
theorem dX3_step_47 : decode cX3_step 47 = .ok (.aload_n 0, 1) := by decide +kernel
theorem dX3_step_48 : decode cX3_step 48 = .ok (.getfield 27, 3) := by decide +kernel
theorem dX3_step_51 : decode cX3_step 51 = .ok (.iconst (-1), 1) := by decide +kernel
theorem dX3_step_52 : decode cX3_step 52 = .ok (.if_icmp .eq 16, 3) := by decide +kernel
theorem dX3_step_55 : decode cX3_step 55 = .ok (.iload_n 2, 1) := by decide +kernel
theorem dX3_step_56 : decode cX3_step 56 = .ok (.aload_n 0, 1) := by decide +kernel
theorem dX3_step_57 : decode cX3_step 57 = .ok (.invokevirtual 161, 3) := by decide +kernel
theorem dX3_step_60 : decode cX3_step 60 = .ok (.iadd, 1) := by decide +kernel
theorem dX3_step_61 : decode cX3_step 61 = .ok (.istore_n 2, 1) := by decide +kernel
theorem dX3_step_62 : decode cX3_step 62 = .ok (.iinc 3 1, 3) := by decide +kernel
theorem dX3_step_65 : decode cX3_step 65 = .ok (.goto (-23), 3) := by decide +kernel
theorem dX3_step_68 : decode cX3_step 68 = .ok (.iload_n 2, 1) := by decide +kernel
theorem dX3_step_69 : decode cX3_step 69 = .ok (.ireturn, 1) := by decide +kernel
theorem dX3_sweeping_0 : decode cX3_sweeping 0 = .ok (.aload_n 0, 1) := by decide +kernel
theorem dX3_sweeping_1 : decode cX3_sweeping 1 = .ok (.getfield 27, 3) := by decide +kernel
theorem dX3_sweeping_4 : decode cX3_sweeping 4 = .ok (.ireturn, 1) := by decide +kernel
set_option maxRecDepth 20000 in
theorem ggX3_walk_X3_isIn : GoodIn wsX3_walk wsX3_isIn := goodIn_r _ [8] (by decide +kernel) (by decide +kernel)
set_option maxRecDepth 20000 in
theorem gX3_walk_X3_isIn : GoodIn wsX3_walk (va_wsS RX3 35 yX3_isIn wsX3_isIn) := goodIn_app (goodIn_of _ (by decide +kernel)) ggX3_walk_X3_isIn
set_option maxRecDepth 20000 in
theorem ggX3_walk_X1_countUpTo : GoodIn wsX3_walk wsX1_countUpTo := goodIn_r _ [13, 14, 15, 16, 17, 12, 18, 19, 20, 21, 22, 23, 24, 33, 34, 35, 36, 37, 38, 39] (by decide +kernel) (by decide +kernel)
set_option maxRecDepth 20000 in
theorem gX3_walk_X1_countUpTo : GoodIn wsX3_walk (wsV RX3 59 RX1 yX1_countUpTo wsX1_countUpTo) := goodIn_app (goodIn_of _ (by decide +kernel)) ggX3_walk_X1_countUpTo
set_option maxRecDepth 20000 in
theorem ggX3_walk_X1_numberAt : GoodIn wsX3_walk wsX1_numberAt := goodIn_r _ [18, 19, 20, 21, 22, 12, 23, 14, 24, 35, 36, 37, 38, 39, 33, 34] (by decide +kernel) (by decide +kernel)
set_option maxRecDepth 20000 in
theorem gX3_walk_X1_numberAt : GoodIn wsX3_walk (wsV RX3 149 RX1 yX1_numberAt wsX1_numberAt) := goodIn_app (goodIn_of _ (by decide +kernel)) ggX3_walk_X1_numberAt
theorem dX3_walk_0 : decode cX3_walk 0 = .ok (.iload_n 1, 1) := by decide +kernel
theorem dX3_walk_1 : decode cX3_walk 1 = .ok (.iconst 0, 1) := by decide +kernel
theorem dX3_walk_2 : decode cX3_walk 2 = .ok (.iconst 3, 1) := by decide +kernel
theorem dX3_walk_3 : decode cX3_walk 3 = .ok (.invokestatic 35, 3) := by decide +kernel
theorem dX3_walk_6 : decode cX3_walk 6 = .ok (.ifCond .ne 13, 3) := by decide +kernel
theorem dX3_walk_9 : decode cX3_walk 9 = .ok (.new 39, 3) := by decide +kernel
theorem dX3_walk_12 : decode cX3_walk 12 = .ok (.dup, 1) := by decide +kernel
theorem dX3_walk_13 : decode cX3_walk 13 = .ok (.ldc 164, 2) := by decide +kernel
theorem dX3_walk_15 : decode cX3_walk 15 = .ok (.invokespecial 43, 3) := by decide +kernel
theorem dX3_walk_18 : decode cX3_walk 18 = .ok (.athrow, 1) := by decide +kernel
theorem dX3_walk_19 : decode cX3_walk 19 = .ok (.aload_n 0, 1) := by decide +kernel
theorem dX3_walk_20 : decode cX3_walk 20 = .ok (.getfield 23, 3) := by decide +kernel
theorem dX3_walk_23 : decode cX3_walk 23 = .ok (.iload_n 1, 1) := by decide +kernel
theorem dX3_walk_24 : decode cX3_walk 24 = .ok (.aload_n 0, 1) := by decide +kernel
theorem dX3_walk_25 : decode cX3_walk 25 = .ok (.getfield 10, 3) := by decide +kernel
theorem dX3_walk_28 : decode cX3_walk 28 = .ok (.aload_n 0, 1) := by decide +kernel
theorem dX3_walk_29 : decode cX3_walk 29 = .ok (.getfield 10, 3) := by decide +kernel
theorem dX3_walk_32 : decode cX3_walk 32 = .ok (.aload_n 0, 1) := by decide +kernel
theorem dX3_walk_33 : decode cX3_walk 33 = .ok (.getfield 23, 3) := by decide +kernel
theorem dX3_walk_36 : decode cX3_walk 36 = .ok (.iload_n 1, 1) := by decide +kernel
theorem dX3_walk_37 : decode cX3_walk 37 = .ok (.iaload, 1) := by decide +kernel
theorem dX3_walk_38 : decode cX3_walk 38 = .ok (.invokevirtual 59, 3) := by decide +kernel
theorem dX3_walk_41 : decode cX3_walk 41 = .ok (.invokevirtual 149, 3) := by decide +kernel
theorem dX3_walk_44 : decode cX3_walk 44 = .ok (.iastore, 1) := by decide +kernel
theorem dX3_walk_45 : decode cX3_walk 45 = .ok (.aload_n 0, 1) := by decide +kernel
theorem dX3_walk_46 : decode cX3_walk 46 = .ok (.getfield 23, 3) := by decide +kernel
theorem dX3_walk_49 : decode cX3_walk 49 = .ok (.iload_n 1, 1) := by decide +kernel
theorem dX3_walk_50 : decode cX3_walk 50 = .ok (.iaload, 1) := by decide +kernel
theorem dX3_walk_51 : decode cX3_walk 51 = .ok (.ireturn, 1) := by decide +kernel
theorem dX3_isIn_0 : decode cX3_isIn 0 = .ok (.iload_n 0, 1) := by decide +kernel
theorem dX3_isIn_1 : decode cX3_isIn 1 = .ok (.iload_n 1, 1) := by decide +kernel
theorem dX3_isIn_2 : decode cX3_isIn 2 = .ok (.if_icmp .lt 12, 3) := by decide +kernel
theorem dX3_isIn_5 : decode cX3_isIn 5 = .ok (.iload_n 0, 1) := by decide +kernel
theorem dX3_isIn_6 : decode cX3_isIn 6 = .ok (.iload_n 2, 1) := by decide +kernel
theorem dX3_isIn_7 : decode cX3_isIn 7 = .ok (.if_icmp .gt 7, 3) := by decide +kernel
theorem dX3_isIn_10 : decode cX3_isIn 10 = .ok (.iconst 1, 1) := by decide +kernel
theorem dX3_isIn_11 : decode cX3_isIn 11 = .ok (.goto 4, 3) := by decide +kernel
theorem dX3_isIn_14 : decode cX3_isIn 14 = .ok (.iconst 0, 1) := by decide +kernel
theorem dX3_isIn_15 : decode cX3_isIn 15 = .ok (.ireturn, 1) := by decide +kernel
set_option maxRecDepth 20000 in
theorem ggX3_requireCase_X3_isIn : GoodIn wsX3_requireCase wsX3_isIn := goodIn_r _ [6] (by decide +kernel) (by decide +kernel)
set_option maxRecDepth 20000 in
theorem gX3_requireCase_X3_isIn : GoodIn wsX3_requireCase (va_wsS RX3 35 yX3_isIn wsX3_isIn) := goodIn_app (goodIn_of _ (by decide +kernel)) ggX3_requireCase_X3_isIn
theorem dX3_requireCase_0 : decode cX3_requireCase 0 = .ok (.iload_n 0, 1) := by decide +kernel
theorem dX3_requireCase_1 : decode cX3_requireCase 1 = .ok (.iconst 0, 1) := by decide +kernel
theorem dX3_requireCase_2 : decode cX3_requireCase 2 = .ok (.sipush 999, 3) := by decide +kernel
theorem dX3_requireCase_5 : decode cX3_requireCase 5 = .ok (.invokestatic 35, 3) := by decide +kernel
theorem dX3_requireCase_8 : decode cX3_requireCase 8 = .ok (.ifCond .ne 13, 3) := by decide +kernel
theorem dX3_requireCase_11 : decode cX3_requireCase 11 = .ok (.new 39, 3) := by decide +kernel
theorem dX3_requireCase_14 : decode cX3_requireCase 14 = .ok (.dup, 1) := by decide +kernel
theorem dX3_requireCase_15 : decode cX3_requireCase 15 = .ok (.ldc 166, 2) := by decide +kernel
theorem dX3_requireCase_17 : decode cX3_requireCase 17 = .ok (.invokespecial 43, 3) := by decide +kernel
theorem dX3_requireCase_20 : decode cX3_requireCase 20 = .ok (.athrow, 1) := by decide +kernel
theorem dX3_requireCase_21 : decode cX3_requireCase 21 = .ok (.return_, 1) := by decide +kernel
set_option maxRecDepth 20000 in
theorem ggX3_pageToPutOn_X2_pageWith : GoodIn wsX3_pageToPutOn wsX2_pageWith := goodIn_r _ [10, 11, 12, 13, 14, 9, 15, 16, 17, 18, 19, 20, 28, 29] (by decide +kernel) (by decide +kernel)
set_option maxRecDepth 20000 in
theorem gX3_pageToPutOn_X2_pageWith : GoodIn wsX3_pageToPutOn (wsV RX3 152 RX2 yX2_pageWith wsX2_pageWith) := goodIn_app (goodIn_of _ (by decide +kernel)) ggX3_pageToPutOn_X2_pageWith
theorem dX3_pageToPutOn_0 : decode cX3_pageToPutOn 0 = .ok (.aload_n 0, 1) := by decide +kernel
theorem dX3_pageToPutOn_1 : decode cX3_pageToPutOn 1 = .ok (.getfield 19, 3) := by decide +kernel
theorem dX3_pageToPutOn_4 : decode cX3_pageToPutOn 4 = .ok (.iload_n 1, 1) := by decide +kernel
theorem dX3_pageToPutOn_5 : decode cX3_pageToPutOn 5 = .ok (.iconst 1, 1) := by decide +kernel
theorem dX3_pageToPutOn_6 : decode cX3_pageToPutOn 6 = .ok (.isub, 1) := by decide +kernel
theorem dX3_pageToPutOn_7 : decode cX3_pageToPutOn 7 = .ok (.iconst 0, 1) := by decide +kernel
theorem dX3_pageToPutOn_8 : decode cX3_pageToPutOn 8 = .ok (.invokestatic 168, 3) := by decide +kernel
theorem dX3_pageToPutOn_11 : decode cX3_pageToPutOn 11 = .ok (.invokevirtual 152, 3) := by decide +kernel
theorem dX3_pageToPutOn_14 : decode cX3_pageToPutOn 14 = .ok (.ireturn, 1) := by decide +kernel
set_option maxRecDepth 20000 in
theorem ggX3_takeOut_X2_pageWith : GoodIn wsX3_takeOut wsX2_pageWith := goodIn_r _ [8, 9, 10, 11, 12, 7, 13, 14, 15, 16, 17, 18, 57, 58] (by decide +kernel) (by decide +kernel)
set_option maxRecDepth 20000 in
theorem gX3_takeOut_X2_pageWith : GoodIn wsX3_takeOut (wsV RX3 152 RX2 yX2_pageWith wsX2_pageWith) := goodIn_app (goodIn_of _ (by decide +kernel)) ggX3_takeOut_X2_pageWith
set_option maxRecDepth 20000 in
theorem ggX3_takeOut_X2_takeFrom : GoodIn wsX3_takeOut wsX2_takeFrom := goodIn_r _ [22, 14, 9, 15, 16, 17, 7, 18, 23, 24, 25, 26, 27, 28, 29, 30, 10, 11, 12, 13, 31, 32, 33, 34, 57, 58] (by decide +kernel) (by decide +kernel)
set_option maxRecDepth 20000 in
theorem gX3_takeOut_X2_takeFrom : GoodIn wsX3_takeOut (wsV RX3 174 RX2 yX2_takeFrom wsX2_takeFrom) := goodIn_app (goodIn_of _ (by decide +kernel)) ggX3_takeOut_X2_takeFrom
set_option maxRecDepth 20000 in
theorem ggX3_takeOut_X1_remove : GoodIn wsX3_takeOut wsX1_remove := goodIn_r _ [39, 40, 41, 42, 43, 44, 38, 45, 59, 60] (by decide +kernel) (by decide +kernel)
set_option maxRecDepth 20000 in
theorem gX3_takeOut_X1_remove : GoodIn wsX3_takeOut (wsV RX3 177 RX1 yX1_remove wsX1_remove) := goodIn_app (goodIn_of _ (by decide +kernel)) ggX3_takeOut_X1_remove
set_option maxRecDepth 20000 in
theorem ggX3_takeOut_X2_count : GoodIn wsX3_takeOut wsX2_count := goodIn_r _ [49, 9, 57, 58] (by decide +kernel) (by decide +kernel)
set_option maxRecDepth 20000 in
theorem gX3_takeOut_X2_count : GoodIn wsX3_takeOut (wsV RX3 87 RX2 yX2_count wsX2_count) := goodIn_app (goodIn_of _ (by decide +kernel)) ggX3_takeOut_X2_count
theorem dX3_takeOut_0 : decode cX3_takeOut 0 = .ok (.aload_n 0, 1) := by decide +kernel
theorem dX3_takeOut_1 : decode cX3_takeOut 1 = .ok (.getfield 19, 3) := by decide +kernel
theorem dX3_takeOut_4 : decode cX3_takeOut 4 = .ok (.aload_n 0, 1) := by decide +kernel
theorem dX3_takeOut_5 : decode cX3_takeOut 5 = .ok (.getfield 19, 3) := by decide +kernel
theorem dX3_takeOut_8 : decode cX3_takeOut 8 = .ok (.iload_n 1, 1) := by decide +kernel
theorem dX3_takeOut_9 : decode cX3_takeOut 9 = .ok (.invokevirtual 152, 3) := by decide +kernel
theorem dX3_takeOut_12 : decode cX3_takeOut 12 = .ok (.invokevirtual 174, 3) := by decide +kernel
theorem dX3_takeOut_15 : decode cX3_takeOut 15 = .ok (.aload_n 0, 1) := by decide +kernel
theorem dX3_takeOut_16 : decode cX3_takeOut 16 = .ok (.getfield 10, 3) := by decide +kernel
theorem dX3_takeOut_19 : decode cX3_takeOut 19 = .ok (.iload_n 1, 1) := by decide +kernel
theorem dX3_takeOut_20 : decode cX3_takeOut 20 = .ok (.invokevirtual 177, 3) := by decide +kernel
theorem dX3_takeOut_23 : decode cX3_takeOut 23 = .ok (.aload_n 0, 1) := by decide +kernel
theorem dX3_takeOut_24 : decode cX3_takeOut 24 = .ok (.getfield 27, 3) := by decide +kernel
theorem dX3_takeOut_27 : decode cX3_takeOut 27 = .ok (.aload_n 0, 1) := by decide +kernel
theorem dX3_takeOut_28 : decode cX3_takeOut 28 = .ok (.getfield 19, 3) := by decide +kernel
theorem dX3_takeOut_31 : decode cX3_takeOut 31 = .ok (.invokevirtual 87, 3) := by decide +kernel
theorem dX3_takeOut_34 : decode cX3_takeOut 34 = .ok (.if_icmp .lt 8, 3) := by decide +kernel
theorem dX3_takeOut_37 : decode cX3_takeOut 37 = .ok (.aload_n 0, 1) := by decide +kernel
theorem dX3_takeOut_38 : decode cX3_takeOut 38 = .ok (.iconst (-1), 1) := by decide +kernel
end
section
theorem dX3_takeOut_39 : decode cX3_takeOut 39 = .ok (.putfield 27, 3) := by decide +kernel
theorem dX3_takeOut_42 : decode cX3_takeOut 42 = .ok (.return_, 1) := by decide +kernel
set_option maxRecDepth 20000 in
theorem ggX3_keepOverdue_X1_count : GoodIn wsX3_keepOverdue wsX1_count := goodIn_r _ [9, 10, 85, 86] (by decide +kernel) (by decide +kernel)
set_option maxRecDepth 20000 in
theorem gX3_keepOverdue_X1_count : GoodIn wsX3_keepOverdue (wsV RX3 50 RX1 yX1_count wsX1_count) := goodIn_app (goodIn_of _ (by decide +kernel)) ggX3_keepOverdue_X1_count
set_option maxRecDepth 20000 in
theorem ggX3_keepOverdue_X1_bailAt : GoodIn wsX3_keepOverdue wsX1_bailAt := goodIn_r _ [14, 10, 15, 85, 86] (by decide +kernel) (by decide +kernel)
set_option maxRecDepth 20000 in
theorem gX3_keepOverdue_X1_bailAt : GoodIn wsX3_keepOverdue (wsV RX3 113 RX1 yX1_bailAt wsX1_bailAt) := goodIn_app (goodIn_of _ (by decide +kernel)) ggX3_keepOverdue_X1_bailAt
set_option maxRecDepth 20000 in
theorem ggX3_keepOverdue_X0_isOverdue : GoodIn wsX3_keepOverdue wsX0_isOverdue := goodIn_r _ [20, 21, 22, 23, 24, 19, 25, 80, 81, 82, 83, 84] (by decide +kernel) (by decide +kernel)
set_option maxRecDepth 20000 in
theorem gX3_keepOverdue_X0_isOverdue : GoodIn wsX3_keepOverdue (wsV RX3 180 RX0 yX0_isOverdue wsX0_isOverdue) := goodIn_app (goodIn_of _ (by decide +kernel)) ggX3_keepOverdue_X0_isOverdue
set_option maxRecDepth 20000 in
theorem ggX3_keepOverdue_X3_takeOut : GoodIn wsX3_keepOverdue wsX3_takeOut := goodIn_r _ [30, 31, 1, 32, 33, 34, 35, 36, 37, 38, 39, 40, 41, 42, 43, 44, 45, 46, 47, 48, 49, 50, 51, 52, 53, 54, 55, 56, 57, 58, 59, 60, 61, 62, 63, 64, 65, 66, 8, 67, 10, 15, 68, 12, 13, 14, 69, 70, 71, 72, 73, 74, 75, 76, 77, 78, 79, 87, 88, 85, 86] (by decide +kernel) (by decide +kernel)
set_option maxRecDepth 20000 in
theorem gX3_keepOverdue_X3_takeOut : GoodIn wsX3_keepOverdue (wsV RX3 103 RX3 yX3_takeOut wsX3_takeOut) := goodIn_app (goodIn_of _ (by decide +kernel)) ggX3_keepOverdue_X3_takeOut
theorem dX3_keepOverdue_0 : decode cX3_keepOverdue 0 = .ok (.iconst 0, 1) := by decide +kernel
theorem dX3_keepOverdue_1 : decode cX3_keepOverdue 1 = .ok (.istore_n 1, 1) := by decide +kernel
theorem dX3_keepOverdue_2 : decode cX3_keepOverdue 2 = .ok (.iconst 0, 1) := by decide +kernel
theorem dX3_keepOverdue_3 : decode cX3_keepOverdue 3 = .ok (.istore_n 2, 1) := by decide +kernel
theorem dX3_keepOverdue_4 : decode cX3_keepOverdue 4 = .ok (.aload_n 0, 1) := by decide +kernel
theorem dX3_keepOverdue_5 : decode cX3_keepOverdue 5 = .ok (.getfield 10, 3) := by decide +kernel
theorem dX3_keepOverdue_8 : decode cX3_keepOverdue 8 = .ok (.invokevirtual 50, 3) := by decide +kernel
theorem dX3_keepOverdue_11 : decode cX3_keepOverdue 11 = .ok (.istore_n 3, 1) := by decide +kernel
theorem dX3_keepOverdue_12 : decode cX3_keepOverdue 12 = .ok (.iload_n 3, 1) := by decide +kernel
theorem dX3_keepOverdue_13 : decode cX3_keepOverdue 13 = .ok (.ifCond .le 64, 3) := by decide +kernel
theorem dX3_keepOverdue_16 : decode cX3_keepOverdue 16 = .ok (.aload_n 0, 1) := by decide +kernel
theorem dX3_keepOverdue_17 : decode cX3_keepOverdue 17 = .ok (.getfield 10, 3) := by decide +kernel
theorem dX3_keepOverdue_20 : decode cX3_keepOverdue 20 = .ok (.iload_n 2, 1) := by decide +kernel
theorem dX3_keepOverdue_21 : decode cX3_keepOverdue 21 = .ok (.invokevirtual 113, 3) := by decide +kernel
theorem dX3_keepOverdue_24 : decode cX3_keepOverdue 24 = .ok (.astore 4, 2) := by decide +kernel
theorem dX3_keepOverdue_26 : decode cX3_keepOverdue 26 = .ok (.aload 4, 2) := by decide +kernel
theorem dX3_keepOverdue_28 : decode cX3_keepOverdue 28 = .ok (.ifnull 40, 3) := by decide +kernel
theorem dX3_keepOverdue_31 : decode cX3_keepOverdue 31 = .ok (.aload 4, 2) := by decide +kernel
theorem dX3_keepOverdue_33 : decode cX3_keepOverdue 33 = .ok (.aload_n 0, 1) := by decide +kernel
theorem dX3_keepOverdue_34 : decode cX3_keepOverdue 34 = .ok (.getfield 77, 3) := by decide +kernel
theorem dX3_keepOverdue_37 : decode cX3_keepOverdue 37 = .ok (.invokevirtual 180, 3) := by decide +kernel
theorem dX3_keepOverdue_40 : decode cX3_keepOverdue 40 = .ok (.ifCond .eq 28, 3) := by decide +kernel
theorem dX3_keepOverdue_43 : decode cX3_keepOverdue 43 = .ok (.aload_n 0, 1) := by decide +kernel
theorem dX3_keepOverdue_44 : decode cX3_keepOverdue 44 = .ok (.dup, 1) := by decide +kernel
theorem dX3_keepOverdue_45 : decode cX3_keepOverdue 45 = .ok (.getfield 125, 3) := by decide +kernel
theorem dX3_keepOverdue_48 : decode cX3_keepOverdue 48 = .ok (.aload 4, 2) := by decide +kernel
theorem dX3_keepOverdue_50 : decode cX3_keepOverdue 50 = .ok (.getfield 97, 3) := by decide +kernel
theorem dX3_keepOverdue_53 : decode cX3_keepOverdue 53 = .ok (.iadd, 1) := by decide +kernel
theorem dX3_keepOverdue_54 : decode cX3_keepOverdue 54 = .ok (.putfield 125, 3) := by decide +kernel
theorem dX3_keepOverdue_57 : decode cX3_keepOverdue 57 = .ok (.aload_n 0, 1) := by decide +kernel
theorem dX3_keepOverdue_58 : decode cX3_keepOverdue 58 = .ok (.iload_n 2, 1) := by decide +kernel
theorem dX3_keepOverdue_59 : decode cX3_keepOverdue 59 = .ok (.invokevirtual 103, 3) := by decide +kernel
theorem dX3_keepOverdue_62 : decode cX3_keepOverdue 62 = .ok (.iinc 1 1, 3) := by decide +kernel
theorem dX3_keepOverdue_65 : decode cX3_keepOverdue 65 = .ok (.goto 6, 3) := by decide +kernel
theorem dX3_keepOverdue_68 : decode cX3_keepOverdue 68 = .ok (.iinc 2 1, 3) := by decide +kernel
theorem dX3_keepOverdue_71 : decode cX3_keepOverdue 71 = .ok (.iinc 3 (-1), 3) := by decide +kernel
theorem dX3_keepOverdue_74 : decode cX3_keepOverdue 74 = .ok (.goto (-62), 3) := by decide +kernel
theorem dX3_keepOverdue_77 : decode cX3_keepOverdue 77 = .ok (.iload_n 1, 1) := by decide +kernel
theorem dX3_keepOverdue_78 : decode cX3_keepOverdue 78 = .ok (.ireturn, 1) := by decide +kernel
set_option maxRecDepth 20000 in
theorem ggX3_sweepOn_X2_has : GoodIn wsX3_sweepOn wsX2_has := goodIn_r _ [7, 8, 9, 30, 31] (by decide +kernel) (by decide +kernel)
set_option maxRecDepth 20000 in
theorem gX3_sweepOn_X2_has : GoodIn wsX3_sweepOn (wsV RX3 135 RX2 yX2_has wsX2_has) := goodIn_app (goodIn_of _ (by decide +kernel)) ggX3_sweepOn_X2_has
set_option maxRecDepth 20000 in
theorem ggX3_sweepOn_X2_sizeOf : GoodIn wsX3_sweepOn wsX2_sizeOf := goodIn_r _ [13, 9, 14, 4, 5, 6, 7, 8, 30, 31] (by decide +kernel) (by decide +kernel)
set_option maxRecDepth 20000 in
theorem gX3_sweepOn_X2_sizeOf : GoodIn wsX3_sweepOn (wsV RX3 66 RX2 yX2_sizeOf wsX2_sizeOf) := goodIn_app (goodIn_of _ (by decide +kernel)) ggX3_sweepOn_X2_sizeOf
set_option maxRecDepth 20000 in
theorem ggX3_sweepOn_X2_move : GoodIn wsX3_sweepOn wsX2_move := goodIn_r _ [18, 9, 14, 4, 5, 6, 7, 8, 19, 20, 21, 22, 30, 31] (by decide +kernel) (by decide +kernel)
set_option maxRecDepth 20000 in
theorem gX3_sweepOn_X2_move : GoodIn wsX3_sweepOn (wsV RX3 183 RX2 yX2_move wsX2_move) := goodIn_app (goodIn_of _ (by decide +kernel)) ggX3_sweepOn_X2_move
theorem dX3_sweepOn_0 : decode cX3_sweepOn 0 = .ok (.aload_n 0, 1) := by decide +kernel
theorem dX3_sweepOn_1 : decode cX3_sweepOn 1 = .ok (.getfield 19, 3) := by decide +kernel
theorem dX3_sweepOn_4 : decode cX3_sweepOn 4 = .ok (.aload_n 0, 1) := by decide +kernel
theorem dX3_sweepOn_5 : decode cX3_sweepOn 5 = .ok (.getfield 27, 3) := by decide +kernel
theorem dX3_sweepOn_8 : decode cX3_sweepOn 8 = .ok (.iconst 1, 1) := by decide +kernel
theorem dX3_sweepOn_9 : decode cX3_sweepOn 9 = .ok (.iadd, 1) := by decide +kernel
theorem dX3_sweepOn_10 : decode cX3_sweepOn 10 = .ok (.invokevirtual 135, 3) := by decide +kernel
theorem dX3_sweepOn_13 : decode cX3_sweepOn 13 = .ok (.ifCond .ne 10, 3) := by decide +kernel
theorem dX3_sweepOn_16 : decode cX3_sweepOn 16 = .ok (.aload_n 0, 1) := by decide +kernel
theorem dX3_sweepOn_17 : decode cX3_sweepOn 17 = .ok (.iconst (-1), 1) := by decide +kernel
theorem dX3_sweepOn_18 : decode cX3_sweepOn 18 = .ok (.putfield 27, 3) := by decide +kernel
theorem dX3_sweepOn_21 : decode cX3_sweepOn 21 = .ok (.iconst 0, 1) := by decide +kernel
theorem dX3_sweepOn_22 : decode cX3_sweepOn 22 = .ok (.ireturn, 1) := by decide +kernel
theorem dX3_sweepOn_23 : decode cX3_sweepOn 23 = .ok (.aload_n 0, 1) := by decide +kernel
theorem dX3_sweepOn_24 : decode cX3_sweepOn 24 = .ok (.getfield 19, 3) := by decide +kernel
theorem dX3_sweepOn_27 : decode cX3_sweepOn 27 = .ok (.aload_n 0, 1) := by decide +kernel
theorem dX3_sweepOn_28 : decode cX3_sweepOn 28 = .ok (.getfield 27, 3) := by decide +kernel
theorem dX3_sweepOn_31 : decode cX3_sweepOn 31 = .ok (.invokevirtual 66, 3) := by decide +kernel
theorem dX3_sweepOn_34 : decode cX3_sweepOn 34 = .ok (.iconst 4, 1) := by decide +kernel
theorem dX3_sweepOn_35 : decode cX3_sweepOn 35 = .ok (.if_icmp .lt 15, 3) := by decide +kernel
theorem dX3_sweepOn_38 : decode cX3_sweepOn 38 = .ok (.aload_n 0, 1) := by decide +kernel
theorem dX3_sweepOn_39 : decode cX3_sweepOn 39 = .ok (.dup, 1) := by decide +kernel
theorem dX3_sweepOn_40 : decode cX3_sweepOn 40 = .ok (.getfield 27, 3) := by decide +kernel
theorem dX3_sweepOn_43 : decode cX3_sweepOn 43 = .ok (.iconst 1, 1) := by decide +kernel
theorem dX3_sweepOn_44 : decode cX3_sweepOn 44 = .ok (.iadd, 1) := by decide +kernel
theorem dX3_sweepOn_45 : decode cX3_sweepOn 45 = .ok (.putfield 27, 3) := by decide +kernel
theorem dX3_sweepOn_48 : decode cX3_sweepOn 48 = .ok (.iconst 0, 1) := by decide +kernel
theorem dX3_sweepOn_49 : decode cX3_sweepOn 49 = .ok (.ireturn, 1) := by decide +kernel
theorem dX3_sweepOn_50 : decode cX3_sweepOn 50 = .ok (.aload_n 0, 1) := by decide +kernel
theorem dX3_sweepOn_51 : decode cX3_sweepOn 51 = .ok (.getfield 19, 3) := by decide +kernel
theorem dX3_sweepOn_54 : decode cX3_sweepOn 54 = .ok (.aload_n 0, 1) := by decide +kernel
theorem dX3_sweepOn_55 : decode cX3_sweepOn 55 = .ok (.getfield 27, 3) := by decide +kernel
theorem dX3_sweepOn_58 : decode cX3_sweepOn 58 = .ok (.iconst 1, 1) := by decide +kernel
theorem dX3_sweepOn_59 : decode cX3_sweepOn 59 = .ok (.iadd, 1) := by decide +kernel
theorem dX3_sweepOn_60 : decode cX3_sweepOn 60 = .ok (.aload_n 0, 1) := by decide +kernel
theorem dX3_sweepOn_61 : decode cX3_sweepOn 61 = .ok (.getfield 27, 3) := by decide +kernel
theorem dX3_sweepOn_64 : decode cX3_sweepOn 64 = .ok (.invokevirtual 183, 3) := by decide +kernel
theorem dX3_sweepOn_67 : decode cX3_sweepOn 67 = .ok (.iconst 1, 1) := by decide +kernel
theorem dX3_sweepOn_68 : decode cX3_sweepOn 68 = .ok (.ireturn, 1) := by decide +kernel
theorem dJ9_max_7cf53_0 : decode cJ9_max_7cf53 0 = .ok (.iload_n 0, 1) := by decide +kernel
theorem dJ9_max_7cf53_1 : decode cJ9_max_7cf53 1 = .ok (.iload_n 1, 1) := by decide +kernel
theorem dJ9_max_7cf53_2 : decode cJ9_max_7cf53 2 = .ok (.if_icmp .lt 7, 3) := by decide +kernel
theorem dJ9_max_7cf53_5 : decode cJ9_max_7cf53 5 = .ok (.iload_n 0, 1) := by decide +kernel
theorem dJ9_max_7cf53_6 : decode cJ9_max_7cf53 6 = .ok (.goto 4, 3) := by decide +kernel
theorem dJ9_max_7cf53_9 : decode cJ9_max_7cf53 9 = .ok (.iload_n 1, 1) := by decide +kernel
theorem dJ9_max_7cf53_10 : decode cJ9_max_7cf53 10 = .ok (.ireturn, 1) := by decide +kernel
theorem dL_cell_0 : decode cL_cell 0 = .ok (.iload_n 1, 1) := by decide +kernel
theorem dL_cell_1 : decode cL_cell 1 = .ok (.aload_n 0, 1) := by decide +kernel
theorem dL_cell_2 : decode cL_cell 2 = .ok (.arraylength, 1) := by decide +kernel
theorem dL_cell_3 : decode cL_cell 3 = .ok (.if_icmp .ge 9, 3) := by decide +kernel
theorem dL_cell_6 : decode cL_cell 6 = .ok (.aload_n 0, 1) := by decide +kernel
theorem dL_cell_7 : decode cL_cell 7 = .ok (.iload_n 1, 1) := by decide +kernel
theorem dL_cell_8 : decode cL_cell 8 = .ok (.iaload, 1) := by decide +kernel
theorem dL_cell_9 : decode cL_cell 9 = .ok (.goto 18, 3) := by decide +kernel
theorem dL_cell_12 : decode cL_cell 12 = .ok (.sipush 7919, 3) := by decide +kernel
theorem dL_cell_15 : decode cL_cell 15 = .ok (.iload_n 1, 1) := by decide +kernel
theorem dL_cell_16 : decode cL_cell 16 = .ok (.sipush 1061, 3) := by decide +kernel
theorem dL_cell_19 : decode cL_cell 19 = .ok (.iadd, 1) := by decide +kernel
theorem dL_cell_20 : decode cL_cell 20 = .ok (.imul, 1) := by decide +kernel
theorem dL_cell_21 : decode cL_cell 21 = .ok (.iload_n 1, 1) := by decide +kernel
theorem dL_cell_22 : decode cL_cell 22 = .ok (.sipush 809, 3) := by decide +kernel
theorem dL_cell_25 : decode cL_cell 25 = .ok (.iadd, 1) := by decide +kernel
theorem dL_cell_26 : decode cL_cell 26 = .ok (.imul, 1) := by decide +kernel
theorem dL_cell_27 : decode cL_cell 27 = .ok (.ireturn, 1) := by decide +kernel
theorem dL_low_0 : decode cL_low 0 = .ok (.iload_n 0, 1) := by decide +kernel
theorem dL_low_1 : decode cL_low 1 = .ok (.ldc 7, 2) := by decide +kernel
theorem dL_low_3 : decode cL_low 3 = .ok (.iand, 1) := by decide +kernel
theorem dL_low_4 : decode cL_low 4 = .ok (.iload_n 1, 1) := by decide +kernel
theorem dL_low_5 : decode cL_low 5 = .ok (.irem, 1) := by decide +kernel
theorem dL_low_6 : decode cL_low 6 = .ok (.ireturn, 1) := by decide +kernel
set_option maxRecDepth 20000 in
theorem ggL_put_X3_put : GoodIn wsL_put wsX3_put := goodIn_ca (goodIn_ca (goodIn_r _ [8, 9, 10, 11, 12, 13, 14, 15, 16, 17, 18, 19, 20, 7, 21, 22, 23, 24, 25, 26, 27, 28, 29, 30, 31, 32, 33, 34, 35, 36, 37, 38, 39, 40, 41, 42, 43, 44, 45, 46, 47, 48, 49, 50, 51, 52, 53, 54, 55, 56, 57, 58, 59, 60, 61, 62, 63, 64, 65, 66, 67, 68, 69, 70, 71, 72, 73, 74, 75, 76, 77, 78, 79, 80, 81, 82, 83, 84, 85, 86, 87, 88, 89, 90, 91, 92, 93, 94, 95, 96, 97, 98, 99, 100, 101, 102, 103, 104, 105, 106, 107, 108, 109, 110, 111, 112, 113, 114, 115, 116, 117, 118, 119, 120] (by decide +kernel) (by decide +kernel)) (goodIn_sub (fun _ h => List.mem_cons_of_mem _ (List.mem_append_left _ (List.mem_append_right _ h))) (by decide +kernel))) (goodIn_sub (fun _ h => List.mem_cons_of_mem _ (List.mem_append_right _ h)) (by decide +kernel))
set_option maxRecDepth 20000 in
theorem gL_put_X3_put : GoodIn wsL_put (wsV RL 8 RX3 yX3_put wsX3_put) := goodIn_app (goodIn_of _ (by decide +kernel)) ggL_put_X3_put
theorem dL_put_0 : decode cL_put 0 = .ok (.aload_n 0, 1) := by decide +kernel
theorem dL_put_1 : decode cL_put 1 = .ok (.iload_n 1, 1) := by decide +kernel
theorem dL_put_2 : decode cL_put 2 = .ok (.iload_n 2, 1) := by decide +kernel
theorem dL_put_3 : decode cL_put 3 = .ok (.iload_n 3, 1) := by decide +kernel
theorem dL_put_4 : decode cL_put 4 = .ok (.invokevirtual 8, 3) := by decide +kernel
theorem dL_put_7 : decode cL_put 7 = .ok (.ireturn, 1) := by decide +kernel
theorem dL_put_8 : decode cL_put 8 = .ok (.astore 4, 2) := by decide +kernel
theorem dL_put_10 : decode cL_put 10 = .ok (.ldc 16, 2) := by decide +kernel
theorem dL_put_12 : decode cL_put 12 = .ok (.ireturn, 1) := by decide +kernel
theorem dL_put_13 : decode cL_put 13 = .ok (.astore 4, 2) := by decide +kernel
theorem dL_put_15 : decode cL_put 15 = .ok (.ldc 16, 2) := by decide +kernel
theorem dL_put_17 : decode cL_put 17 = .ok (.ireturn, 1) := by decide +kernel
set_option maxRecDepth 20000 in
theorem ggL_payBack_X3_payBack : GoodIn wsL_payBack wsX3_payBack := goodIn_ca (goodIn_ca (goodIn_r _ [8, 9, 10, 11, 12, 13, 14, 15, 7, 16, 17, 18, 19, 20, 21, 22, 23, 24, 25, 26, 27, 28, 29, 30, 31, 32, 33, 34, 35, 36, 37, 38, 39, 40, 41, 42, 43, 44, 45, 46, 47, 48, 49, 50, 51, 52, 53, 54, 55, 56, 57, 58, 59, 60, 61, 62, 63, 64, 65, 66, 67, 68, 69, 70, 71, 72, 73, 74, 75, 76, 77, 78, 79, 80, 81, 82, 83, 84, 85, 86, 87, 88, 89, 90, 91, 92, 93, 94, 95, 96, 97, 98, 99, 100, 101, 102, 103, 104, 105, 106, 107, 108, 109, 110, 111, 112, 113] (by decide +kernel) (by decide +kernel)) (goodIn_sub (fun _ h => List.mem_cons_of_mem _ (List.mem_append_left _ (List.mem_append_right _ h))) (by decide +kernel))) (goodIn_sub (fun _ h => List.mem_cons_of_mem _ (List.mem_append_right _ h)) (by decide +kernel))
set_option maxRecDepth 20000 in
theorem gL_payBack_X3_payBack : GoodIn wsL_payBack (wsV RL 19 RX3 yX3_payBack wsX3_payBack) := goodIn_app (goodIn_of _ (by decide +kernel)) ggL_payBack_X3_payBack
theorem dL_payBack_0 : decode cL_payBack 0 = .ok (.aload_n 0, 1) := by decide +kernel
theorem dL_payBack_1 : decode cL_payBack 1 = .ok (.iload_n 1, 1) := by decide +kernel
theorem dL_payBack_2 : decode cL_payBack 2 = .ok (.invokevirtual 19, 3) := by decide +kernel
theorem dL_payBack_5 : decode cL_payBack 5 = .ok (.ireturn, 1) := by decide +kernel
theorem dL_payBack_6 : decode cL_payBack 6 = .ok (.astore_n 2, 1) := by decide +kernel
theorem dL_payBack_7 : decode cL_payBack 7 = .ok (.ldc 16, 2) := by decide +kernel
theorem dL_payBack_9 : decode cL_payBack 9 = .ok (.ireturn, 1) := by decide +kernel
theorem dL_payBack_10 : decode cL_payBack 10 = .ok (.astore_n 2, 1) := by decide +kernel
theorem dL_payBack_11 : decode cL_payBack 11 = .ok (.ldc 16, 2) := by decide +kernel
theorem dL_payBack_13 : decode cL_payBack 13 = .ok (.ireturn, 1) := by decide +kernel
set_option maxRecDepth 20000 in
theorem ggL_forfeit_X3_forfeit : GoodIn wsL_forfeit wsX3_forfeit := goodIn_ca (goodIn_ca (goodIn_r _ [8, 9, 10, 11, 12, 13, 14, 15, 7, 16, 17, 18, 19, 20, 21, 22, 23, 24, 25, 26, 27, 28, 29, 30, 31, 32, 33, 34, 35, 36, 37, 38, 39, 40, 41, 42, 43, 44, 45, 46, 47, 48, 49, 50, 51, 52, 53, 54, 55, 56, 57, 58, 59, 60, 61, 62, 63, 64, 65] (by decide +kernel) (by decide +kernel)) (goodIn_sub (fun _ h => List.mem_cons_of_mem _ (List.mem_append_left _ (List.mem_append_right _ h))) (by decide +kernel))) (goodIn_sub (fun _ h => List.mem_cons_of_mem _ (List.mem_append_right _ h)) (by decide +kernel))
set_option maxRecDepth 20000 in
theorem gL_forfeit_X3_forfeit : GoodIn wsL_forfeit (wsV RL 23 RX3 yX3_forfeit wsX3_forfeit) := goodIn_app (goodIn_of _ (by decide +kernel)) ggL_forfeit_X3_forfeit
theorem dL_forfeit_0 : decode cL_forfeit 0 = .ok (.aload_n 0, 1) := by decide +kernel
theorem dL_forfeit_1 : decode cL_forfeit 1 = .ok (.iload_n 1, 1) := by decide +kernel
theorem dL_forfeit_2 : decode cL_forfeit 2 = .ok (.invokevirtual 23, 3) := by decide +kernel
theorem dL_forfeit_5 : decode cL_forfeit 5 = .ok (.iconst 0, 1) := by decide +kernel
theorem dL_forfeit_6 : decode cL_forfeit 6 = .ok (.ireturn, 1) := by decide +kernel
theorem dL_forfeit_7 : decode cL_forfeit 7 = .ok (.astore_n 2, 1) := by decide +kernel
theorem dL_forfeit_8 : decode cL_forfeit 8 = .ok (.ldc 16, 2) := by decide +kernel
theorem dL_forfeit_10 : decode cL_forfeit 10 = .ok (.ireturn, 1) := by decide +kernel
theorem dL_forfeit_11 : decode cL_forfeit 11 = .ok (.astore_n 2, 1) := by decide +kernel
theorem dL_forfeit_12 : decode cL_forfeit 12 = .ok (.ldc 16, 2) := by decide +kernel
theorem dL_forfeit_14 : decode cL_forfeit 14 = .ok (.ireturn, 1) := by decide +kernel
set_option maxRecDepth 20000 in
theorem ggL_undo_X3_undo : GoodIn wsL_undo wsX3_undo := goodIn_ca (goodIn_ca (goodIn_r _ [8, 9, 10, 11, 12, 13, 14, 15, 7, 16, 17, 18, 19, 20, 21, 22, 23, 24, 25, 26, 27, 28, 29, 30, 31, 32, 33, 34, 35, 36, 37, 38, 39, 40, 41, 42, 43, 44, 45, 46, 47, 48, 49, 50, 51, 52, 53, 54, 55, 56, 57, 58, 59, 60, 61, 62, 63, 64, 65] (by decide +kernel) (by decide +kernel)) (goodIn_sub (fun _ h => List.mem_cons_of_mem _ (List.mem_append_left _ (List.mem_append_right _ h))) (by decide +kernel))) (goodIn_sub (fun _ h => List.mem_cons_of_mem _ (List.mem_append_right _ h)) (by decide +kernel))
set_option maxRecDepth 20000 in
theorem gL_undo_X3_undo : GoodIn wsL_undo (wsV RL 27 RX3 yX3_undo wsX3_undo) := goodIn_app (goodIn_of _ (by decide +kernel)) ggL_undo_X3_undo
theorem dL_undo_0 : decode cL_undo 0 = .ok (.aload_n 0, 1) := by decide +kernel
theorem dL_undo_1 : decode cL_undo 1 = .ok (.iload_n 1, 1) := by decide +kernel
theorem dL_undo_2 : decode cL_undo 2 = .ok (.invokevirtual 27, 3) := by decide +kernel
theorem dL_undo_5 : decode cL_undo 5 = .ok (.ireturn, 1) := by decide +kernel
theorem dL_undo_6 : decode cL_undo 6 = .ok (.astore_n 2, 1) := by decide +kernel
theorem dL_undo_7 : decode cL_undo 7 = .ok (.ldc 16, 2) := by decide +kernel
theorem dL_undo_9 : decode cL_undo 9 = .ok (.ireturn, 1) := by decide +kernel
theorem dL_undo_10 : decode cL_undo 10 = .ok (.astore_n 2, 1) := by decide +kernel
theorem dL_undo_11 : decode cL_undo 11 = .ok (.ldc 16, 2) := by decide +kernel
theorem dL_undo_13 : decode cL_undo 13 = .ok (.ireturn, 1) := by decide +kernel
set_option maxRecDepth 20000 in
theorem ggL_amnesty_X3_amnesty : GoodIn wsL_amnesty wsX3_amnesty := goodIn_ca (goodIn_r _ [7, 8, 9, 10, 11, 12, 13, 14, 15, 6, 16, 17, 18, 19, 20, 21, 22, 23, 24, 25, 26, 27, 28, 29, 30, 31, 32, 33, 34, 35, 36, 37, 38, 39, 40, 41, 42, 43, 44, 45, 46, 47, 48, 49, 50, 51, 52, 53, 54, 55, 56, 57, 58, 59, 60, 61, 62, 63, 64, 65, 66, 67, 68, 69, 70, 71, 72, 73, 74, 75, 76, 77, 78, 79, 80, 81, 82, 83, 84, 85, 86, 87, 88, 89, 90, 91, 92, 93, 94, 95, 96, 97, 98, 99, 100, 101] (by decide +kernel) (by decide +kernel)) (goodIn_sub (fun _ h => List.mem_cons_of_mem _ (List.mem_append_right _ h)) (by decide +kernel))
set_option maxRecDepth 20000 in
theorem gL_amnesty_X3_amnesty : GoodIn wsL_amnesty (wsV RL 30 RX3 yX3_amnesty wsX3_amnesty) := goodIn_app (goodIn_of _ (by decide +kernel)) ggL_amnesty_X3_amnesty
theorem dL_amnesty_0 : decode cL_amnesty 0 = .ok (.aload_n 0, 1) := by decide +kernel
theorem dL_amnesty_1 : decode cL_amnesty 1 = .ok (.iload_n 1, 1) := by decide +kernel
theorem dL_amnesty_2 : decode cL_amnesty 2 = .ok (.iload_n 2, 1) := by decide +kernel
theorem dL_amnesty_3 : decode cL_amnesty 3 = .ok (.invokevirtual 30, 3) := by decide +kernel
theorem dL_amnesty_6 : decode cL_amnesty 6 = .ok (.ireturn, 1) := by decide +kernel
theorem dL_amnesty_7 : decode cL_amnesty 7 = .ok (.astore_n 3, 1) := by decide +kernel
theorem dL_amnesty_8 : decode cL_amnesty 8 = .ok (.ldc 16, 2) := by decide +kernel
theorem dL_amnesty_10 : decode cL_amnesty 10 = .ok (.ireturn, 1) := by decide +kernel
set_option maxRecDepth 20000 in
theorem ggL_pass_X3_pass : GoodIn wsL_pass wsX3_pass := goodIn_ca (goodIn_ca (goodIn_r _ [8, 9, 10, 11, 12, 13, 14, 15, 7, 16, 17, 18, 19, 20, 21, 22, 23, 24, 25, 26, 27, 28, 29, 30, 31, 32, 33, 34, 35, 36, 37, 38, 39, 40, 41, 42, 43, 44, 45, 46, 47, 48, 49, 50, 51, 52, 53, 54, 55, 56, 57, 58, 59, 60, 61, 62, 63, 64, 65, 66, 67, 68, 69, 70, 71, 72, 73, 74, 75, 76, 77, 78, 79, 80, 81, 82, 83, 84, 85, 86, 87, 88, 89, 90, 91, 92, 93, 94, 95, 96, 97, 98, 99, 100, 101, 102, 103, 104, 105, 106] (by decide +kernel) (by decide +kernel)) (goodIn_sub (fun _ h => List.mem_cons_of_mem _ (List.mem_append_left _ (List.mem_append_right _ h))) (by decide +kernel))) (goodIn_sub (fun _ h => List.mem_cons_of_mem _ (List.mem_append_right _ h)) (by decide +kernel))
set_option maxRecDepth 20000 in
theorem gL_pass_X3_pass : GoodIn wsL_pass (wsV RL 34 RX3 yX3_pass wsX3_pass) := goodIn_app (goodIn_of _ (by decide +kernel)) ggL_pass_X3_pass
theorem dL_pass_0 : decode cL_pass 0 = .ok (.aload_n 0, 1) := by decide +kernel
theorem dL_pass_1 : decode cL_pass 1 = .ok (.iload_n 1, 1) := by decide +kernel
theorem dL_pass_2 : decode cL_pass 2 = .ok (.invokevirtual 34, 3) := by decide +kernel
theorem dL_pass_5 : decode cL_pass 5 = .ok (.ireturn, 1) := by decide +kernel
theorem dL_pass_6 : decode cL_pass 6 = .ok (.astore_n 2, 1) := by decide +kernel
theorem dL_pass_7 : decode cL_pass 7 = .ok (.ldc 16, 2) := by decide +kernel
theorem dL_pass_9 : decode cL_pass 9 = .ok (.ireturn, 1) := by decide +kernel
theorem dL_pass_10 : decode cL_pass 10 = .ok (.astore_n 2, 1) := by decide +kernel
theorem dL_pass_11 : decode cL_pass 11 = .ok (.ldc 16, 2) := by decide +kernel
theorem dL_pass_13 : decode cL_pass 13 = .ok (.ireturn, 1) := by decide +kernel
set_option maxRecDepth 20000 in
theorem ggL_sweep_X3_sweep : GoodIn wsL_sweep wsX3_sweep := goodIn_ca (goodIn_r _ [7, 8, 9, 10, 11, 12, 13, 14, 15, 16, 17] (by decide +kernel) (by decide +kernel)) (goodIn_sub (fun _ h => List.mem_cons_of_mem _ (List.mem_append_right _ h)) (by decide +kernel))
set_option maxRecDepth 20000 in
theorem gL_sweep_X3_sweep : GoodIn wsL_sweep (wsV RL 37 RX3 yX3_sweep wsX3_sweep) := goodIn_app (goodIn_of _ (by decide +kernel)) ggL_sweep_X3_sweep
theorem dL_sweep_0 : decode cL_sweep 0 = .ok (.aload_n 0, 1) := by decide +kernel
theorem dL_sweep_1 : decode cL_sweep 1 = .ok (.invokevirtual 37, 3) := by decide +kernel
theorem dL_sweep_4 : decode cL_sweep 4 = .ok (.iconst 0, 1) := by decide +kernel
theorem dL_sweep_5 : decode cL_sweep 5 = .ok (.ireturn, 1) := by decide +kernel
theorem dL_sweep_6 : decode cL_sweep 6 = .ok (.astore_n 1, 1) := by decide +kernel
theorem dL_sweep_7 : decode cL_sweep 7 = .ok (.ldc 16, 2) := by decide +kernel
theorem dL_sweep_9 : decode cL_sweep 9 = .ok (.ireturn, 1) := by decide +kernel
set_option maxRecDepth 20000 in
theorem ggL_step_X3_step : GoodIn wsL_step wsX3_step := goodIn_ca (goodIn_ca (goodIn_r _ [8, 9, 10, 11, 12, 13, 14, 15, 7, 16, 17, 18, 19, 20, 21, 22, 23, 24, 25, 26, 27, 28, 29, 30, 31, 32, 33, 34, 35, 36, 37, 38, 39, 40, 41, 42, 43, 44, 45, 46, 47, 48, 49, 50] (by decide +kernel) (by decide +kernel)) (goodIn_sub (fun _ h => List.mem_cons_of_mem _ (List.mem_append_left _ (List.mem_append_right _ h))) (by decide +kernel))) (goodIn_sub (fun _ h => List.mem_cons_of_mem _ (List.mem_append_right _ h)) (by decide +kernel))
set_option maxRecDepth 20000 in
theorem gL_step_X3_step : GoodIn wsL_step (wsV RL 40 RX3 yX3_step wsX3_step) := goodIn_app (goodIn_of _ (by decide +kernel)) ggL_step_X3_step
theorem dL_step_0 : decode cL_step 0 = .ok (.aload_n 0, 1) := by decide +kernel
theorem dL_step_1 : decode cL_step 1 = .ok (.iload_n 1, 1) := by decide +kernel
theorem dL_step_2 : decode cL_step 2 = .ok (.invokevirtual 40, 3) := by decide +kernel
theorem dL_step_5 : decode cL_step 5 = .ok (.ireturn, 1) := by decide +kernel
theorem dL_step_6 : decode cL_step 6 = .ok (.astore_n 2, 1) := by decide +kernel
theorem dL_step_7 : decode cL_step 7 = .ok (.ldc 16, 2) := by decide +kernel
theorem dL_step_9 : decode cL_step 9 = .ok (.ireturn, 1) := by decide +kernel
theorem dL_step_10 : decode cL_step 10 = .ok (.astore_n 2, 1) := by decide +kernel
theorem dL_step_11 : decode cL_step 11 = .ok (.ldc 16, 2) := by decide +kernel
theorem dL_step_13 : decode cL_step 13 = .ok (.ireturn, 1) := by decide +kernel
set_option maxRecDepth 20000 in
theorem ggL_walk_X3_walk : GoodIn wsL_walk wsX3_walk := goodIn_ca (goodIn_r _ [7, 8, 9, 10, 11, 12, 13, 6, 14, 15, 16, 17, 18, 19, 20, 21, 22, 23, 24, 25, 26, 27, 28, 29, 30, 31, 32, 33, 34, 35, 36, 37, 38, 39, 40, 41, 42, 43, 44, 45] (by decide +kernel) (by decide +kernel)) (goodIn_sub (fun _ h => List.mem_cons_of_mem _ (List.mem_append_right _ h)) (by decide +kernel))
set_option maxRecDepth 20000 in
theorem gL_walk_X3_walk : GoodIn wsL_walk (wsV RL 43 RX3 yX3_walk wsX3_walk) := goodIn_app (goodIn_of _ (by decide +kernel)) ggL_walk_X3_walk
theorem dL_walk_0 : decode cL_walk 0 = .ok (.aload_n 0, 1) := by decide +kernel
theorem dL_walk_1 : decode cL_walk 1 = .ok (.iload_n 1, 1) := by decide +kernel
theorem dL_walk_2 : decode cL_walk 2 = .ok (.invokevirtual 43, 3) := by decide +kernel
theorem dL_walk_5 : decode cL_walk 5 = .ok (.ireturn, 1) := by decide +kernel
theorem dL_walk_6 : decode cL_walk 6 = .ok (.astore_n 2, 1) := by decide +kernel
theorem dL_walk_7 : decode cL_walk 7 = .ok (.ldc 16, 2) := by decide +kernel
theorem dL_walk_9 : decode cL_walk 9 = .ok (.ireturn, 1) := by decide +kernel
set_option maxRecDepth 20000 in
theorem ggL_number_X3_pages : GoodIn wsL_number wsX3_pages := goodIn_r _ [5, 6, 7, 8, 9, 10, 11, 12, 59, 60, 61, 62, 63, 64, 65, 66, 67] (by decide +kernel) (by decide +kernel)
set_option maxRecDepth 20000 in
theorem gL_number_X3_pages : GoodIn wsL_number (wsV RL 46 RX3 yX3_pages wsX3_pages) := goodIn_app (goodIn_of _ (by decide +kernel)) ggL_number_X3_pages
set_option maxRecDepth 20000 in
theorem ggL_number_L_low : GoodIn wsL_number wsL_low := goodIn_r _ [16, 17] (by decide +kernel) (by decide +kernel)
set_option maxRecDepth 20000 in
theorem gL_number_L_low : GoodIn wsL_number (va_wsS RL 50 yL_low wsL_low) := goodIn_app (goodIn_of _ (by decide +kernel)) ggL_number_L_low
set_option maxRecDepth 20000 in
theorem ggL_number_X3_size : GoodIn wsL_number wsX3_size := goodIn_ca (goodIn_r _ [21, 22, 23, 6, 24, 25, 26, 10, 27, 12, 28, 29, 30, 31, 32, 33, 59, 60, 61, 62, 63, 64, 65, 66, 67] (by decide +kernel) (by decide +kernel)) (goodIn_sub (fun _ h => List.mem_cons_of_mem _ (List.mem_append_right _ h)) (by decide +kernel))
set_option maxRecDepth 20000 in
theorem gL_number_X3_size : GoodIn wsL_number (wsV RL 55 RX3 yX3_size wsX3_size) := goodIn_app (goodIn_of _ (by decide +kernel)) ggL_number_X3_size
set_option maxRecDepth 20000 in
theorem ggL_number_X3_at : GoodIn wsL_number wsX3_at := goodIn_ca (goodIn_r _ [37, 22, 23, 6, 38, 24, 25, 26, 10, 27, 12, 28, 29, 30, 31, 32, 33, 39, 40, 4, 41, 42, 43, 44, 45, 46, 47, 48, 49, 50, 51, 52, 53, 54, 55, 56, 57, 58, 59, 60, 61, 62, 63, 64, 65, 66, 67, 68, 69, 70, 71, 72, 73, 74] (by decide +kernel) (by decide +kernel)) (goodIn_sub (fun _ h => List.mem_cons_of_mem _ (List.mem_append_right _ h)) (by decide +kernel))
set_option maxRecDepth 20000 in
theorem gL_number_X3_at : GoodIn wsL_number (wsV RL 58 RX3 yX3_at wsX3_at) := goodIn_app (goodIn_of _ (by decide +kernel)) ggL_number_X3_at
theorem dL_number_0 : decode cL_number 0 = .ok (.iload_n 2, 1) := by decide +kernel
theorem dL_number_1 : decode cL_number 1 = .ok (.ifCond .ne 10, 3) := by decide +kernel
theorem dL_number_4 : decode cL_number 4 = .ok (.aload_n 0, 1) := by decide +kernel
theorem dL_number_5 : decode cL_number 5 = .ok (.invokevirtual 46, 3) := by decide +kernel
theorem dL_number_8 : decode cL_number 8 = .ok (.ifCond .ne 30, 3) := by decide +kernel
theorem dL_number_11 : decode cL_number 11 = .ok (.iload_n 1, 1) := by decide +kernel
theorem dL_number_12 : decode cL_number 12 = .ok (.iload_n 2, 1) := by decide +kernel
theorem dL_number_13 : decode cL_number 13 = .ok (.ifCond .eq 9, 3) := by decide +kernel
theorem dL_number_16 : decode cL_number 16 = .ok (.sipush 1004, 3) := by decide +kernel
theorem dL_number_19 : decode cL_number 19 = .ok (.goto 5, 3) := by decide +kernel
theorem dL_number_22 : decode cL_number 22 = .ok (.bipush 60, 2) := by decide +kernel
theorem dL_number_24 : decode cL_number 24 = .ok (.invokestatic 50, 3) := by decide +kernel
theorem dL_number_27 : decode cL_number 27 = .ok (.iload_n 2, 1) := by decide +kernel
theorem dL_number_28 : decode cL_number 28 = .ok (.ifCond .eq 7, 3) := by decide +kernel
theorem dL_number_31 : decode cL_number 31 = .ok (.iconst 2, 1) := by decide +kernel
theorem dL_number_32 : decode cL_number 32 = .ok (.goto 4, 3) := by decide +kernel
theorem dL_number_35 : decode cL_number 35 = .ok (.iconst 0, 1) := by decide +kernel
theorem dL_number_36 : decode cL_number 36 = .ok (.isub, 1) := by decide +kernel
theorem dL_number_37 : decode cL_number 37 = .ok (.ireturn, 1) := by decide +kernel
theorem dL_number_38 : decode cL_number 38 = .ok (.iload_n 1, 1) := by decide +kernel
theorem dL_number_39 : decode cL_number 39 = .ok (.aload_n 0, 1) := by decide +kernel
theorem dL_number_40 : decode cL_number 40 = .ok (.invokevirtual 46, 3) := by decide +kernel
theorem dL_number_43 : decode cL_number 43 = .ok (.invokestatic 50, 3) := by decide +kernel
theorem dL_number_46 : decode cL_number 46 = .ok (.istore_n 3, 1) := by decide +kernel
theorem dL_number_47 : decode cL_number 47 = .ok (.aload_n 0, 1) := by decide +kernel
theorem dL_number_48 : decode cL_number 48 = .ok (.iload_n 3, 1) := by decide +kernel
theorem dL_number_49 : decode cL_number 49 = .ok (.iload_n 1, 1) := by decide +kernel
theorem dL_number_50 : decode cL_number 50 = .ok (.bipush 6, 2) := by decide +kernel
theorem dL_number_52 : decode cL_number 52 = .ok (.ishr, 1) := by decide +kernel
theorem dL_number_53 : decode cL_number 53 = .ok (.aload_n 0, 1) := by decide +kernel
theorem dL_number_54 : decode cL_number 54 = .ok (.iload_n 3, 1) := by decide +kernel
theorem dL_number_55 : decode cL_number 55 = .ok (.invokevirtual 55, 3) := by decide +kernel
theorem dL_number_58 : decode cL_number 58 = .ok (.invokestatic 50, 3) := by decide +kernel
theorem dL_number_61 : decode cL_number 61 = .ok (.invokevirtual 58, 3) := by decide +kernel
theorem dL_number_64 : decode cL_number 64 = .ok (.ireturn, 1) := by decide +kernel
set_option maxRecDepth 20000 in
theorem ggL_act_L_low : GoodIn wsL_act wsL_low := goodIn_r _ [4, 5] (by decide +kernel) (by decide +kernel)
set_option maxRecDepth 20000 in
theorem gL_act_L_low : GoodIn wsL_act (va_wsS RL 50 yL_low wsL_low) := goodIn_app (goodIn_of _ (by decide +kernel)) ggL_act_L_low
set_option maxRecDepth 20000 in
theorem ggL_act_L_number : GoodIn wsL_act wsL_number := goodIn_ca (goodIn_r _ [8, 9, 10, 11, 12, 13, 14, 15, 16, 17, 18, 19, 20, 1, 2, 3, 4, 5, 21, 22, 23, 24, 25, 26, 27, 28, 29, 30, 31, 32, 33, 34, 35, 36, 37, 38, 39, 40, 41, 42, 43, 44, 45, 46, 47, 48, 49, 50, 51, 52, 53, 54, 55, 56, 57, 58, 59, 60, 61, 250, 251, 252, 253, 254, 255, 256, 257, 258, 259, 260, 261, 262, 263, 264, 265] (by decide +kernel) (by decide +kernel)) (goodIn_sub (fun _ h => List.mem_cons_of_mem _ (List.mem_append_left _ (List.mem_append_left _ (List.mem_append_right _ h)))) (by decide +kernel))
set_option maxRecDepth 20000 in
theorem gL_act_L_number : GoodIn wsL_act (va_wsS RL 61 yL_number wsL_number) := goodIn_app (goodIn_of _ (by decide +kernel)) ggL_act_L_number
set_option maxRecDepth 20000 in
theorem ggL_act_L_payBack : GoodIn wsL_act wsL_payBack := goodIn_ca (goodIn_ca (goodIn_r _ [64, 65, 66, 67, 68, 69, 70, 12, 71, 72, 73, 41, 74, 75, 76, 77, 78, 79, 80, 42, 43, 44, 81, 82, 83, 53, 84, 85, 86, 87, 88, 89, 90, 91, 92, 60, 93, 51, 52, 54, 55, 56, 57, 58, 59, 61, 94, 95, 96, 97, 98, 99, 100, 101, 102, 103, 104, 14, 105, 106, 107, 108, 18, 109, 20, 49, 33, 34, 35, 31, 36, 28, 29, 30, 110, 111, 112, 113, 114, 115, 116, 117, 118, 119, 120, 121, 122, 123, 124, 125, 126, 127, 128, 129, 15, 16, 17, 19, 250, 251, 252, 253, 254, 255, 256, 259, 260, 261, 262, 263, 264, 265, 257, 258] (by decide +kernel) (by decide +kernel)) (goodIn_sub (fun _ h => List.mem_cons_of_mem _ (List.mem_append_left _ (List.mem_append_right _ h))) (by decide +kernel))) (goodIn_sub (fun _ h => List.mem_cons_of_mem _ (List.mem_append_right _ h)) (by decide +kernel))
set_option maxRecDepth 20000 in
theorem gL_act_L_payBack : GoodIn wsL_act (va_wsS RL 65 yL_payBack wsL_payBack) := goodIn_app (goodIn_of _ (by decide +kernel)) ggL_act_L_payBack
set_option maxRecDepth 20000 in
theorem ggL_act_L_forfeit : GoodIn wsL_act wsL_forfeit := goodIn_ca (goodIn_ca (goodIn_r _ [132, 65, 66, 67, 133, 134, 135, 12, 136, 72, 73, 41, 137, 138, 76, 77, 78, 79, 80, 42, 43, 44, 81, 82, 83, 53, 84, 85, 86, 87, 88, 89, 90, 91, 92, 60, 93, 51, 52, 54, 55, 56, 57, 58, 59, 61, 94, 95, 96, 97, 98, 99, 250, 251, 252, 253, 254, 255, 256, 259, 260, 261, 262, 263, 264, 265] (by decide +kernel) (by decide +kernel)) (goodIn_sub (fun _ h => List.mem_cons_of_mem _ (List.mem_append_left _ (List.mem_append_right _ h))) (by decide +kernel))) (goodIn_sub (fun _ h => List.mem_cons_of_mem _ (List.mem_append_right _ h)) (by decide +kernel))
set_option maxRecDepth 20000 in
theorem gL_act_L_forfeit : GoodIn wsL_act (va_wsS RL 68 yL_forfeit wsL_forfeit) := goodIn_app (goodIn_of _ (by decide +kernel)) ggL_act_L_forfeit
set_option maxRecDepth 20000 in
theorem ggL_act_L_undo : GoodIn wsL_act wsL_undo := goodIn_ca (goodIn_ca (goodIn_r _ [141, 65, 66, 67, 142, 143, 144, 12, 145, 72, 73, 41, 137, 138, 76, 77, 78, 79, 80, 42, 43, 44, 81, 82, 83, 53, 84, 85, 86, 87, 88, 89, 90, 91, 92, 60, 93, 51, 52, 54, 55, 56, 57, 58, 59, 61, 94, 95, 96, 97, 98, 99, 250, 251, 252, 253, 254, 255, 256, 259, 260, 261, 262, 263, 264, 265] (by decide +kernel) (by decide +kernel)) (goodIn_sub (fun _ h => List.mem_cons_of_mem _ (List.mem_append_left _ (List.mem_append_right _ h))) (by decide +kernel))) (goodIn_sub (fun _ h => List.mem_cons_of_mem _ (List.mem_append_right _ h)) (by decide +kernel))
set_option maxRecDepth 20000 in
theorem gL_act_L_undo : GoodIn wsL_act (va_wsS RL 70 yL_undo wsL_undo) := goodIn_app (goodIn_of _ (by decide +kernel)) ggL_act_L_undo
set_option maxRecDepth 20000 in
theorem ggL_act_X3_today : GoodIn wsL_act wsX3_today := goodIn_r _ [149, 137, 250, 251, 252, 253, 254, 255, 256] (by decide +kernel) (by decide +kernel)
set_option maxRecDepth 20000 in
theorem gL_act_X3_today : GoodIn wsL_act (wsV RL 72 RX3 yX3_today wsX3_today) := goodIn_app (goodIn_of _ (by decide +kernel)) ggL_act_X3_today
set_option maxRecDepth 20000 in
theorem ggL_act_L_amnesty : GoodIn wsL_act wsL_amnesty := goodIn_ca (goodIn_r _ [152, 65, 67, 153, 154, 155, 12, 156, 79, 80, 137, 41, 74, 75, 42, 43, 44, 157, 158, 159, 53, 160, 60, 161, 57, 58, 59, 61, 162, 163, 164, 97, 165, 166, 167, 168, 95, 96, 98, 99, 101, 102, 103, 104, 14, 105, 106, 107, 108, 18, 109, 20, 49, 33, 34, 35, 31, 36, 28, 29, 30, 110, 111, 112, 113, 114, 115, 116, 117, 118, 119, 120, 121, 122, 123, 124, 125, 126, 127, 128, 129, 56, 15, 16, 17, 19, 250, 251, 252, 253, 254, 255, 256, 259, 260, 261, 262, 263, 264, 265, 257, 258] (by decide +kernel) (by decide +kernel)) (goodIn_sub (fun _ h => List.mem_cons_of_mem _ (List.mem_append_right _ h)) (by decide +kernel))
set_option maxRecDepth 20000 in
theorem gL_act_L_amnesty : GoodIn wsL_act (va_wsS RL 75 yL_amnesty wsL_amnesty) := goodIn_app (goodIn_of _ (by decide +kernel)) ggL_act_L_amnesty
set_option maxRecDepth 20000 in
theorem ggL_act_L_pass : GoodIn wsL_act wsL_pass := goodIn_ca (goodIn_ca (goodIn_r _ [171, 65, 66, 67, 172, 173, 174, 12, 175, 79, 80, 72, 73, 137, 42, 43, 44, 176, 177, 178, 179, 41, 180, 75, 157, 158, 159, 53, 160, 60, 161, 57, 58, 59, 61, 181, 182, 183, 97, 184, 99, 168, 95, 96, 98, 101, 102, 103, 104, 14, 105, 106, 107, 108, 18, 109, 20, 49, 33, 34, 35, 31, 36, 28, 29, 30, 110, 111, 112, 113, 114, 115, 116, 117, 118, 119, 120, 121, 122, 123, 124, 125, 126, 127, 128, 129, 56, 15, 16, 17, 19, 250, 251, 252, 253, 254, 255, 256, 259, 260, 261, 262, 263, 264, 265, 257, 258] (by decide +kernel) (by decide +kernel)) (goodIn_sub (fun _ h => List.mem_cons_of_mem _ (List.mem_append_right _ h)) (by decide +kernel))) (goodIn_sub (fun _ h => List.mem_cons_of_mem _ (List.mem_append_left _ (List.mem_append_right _ h))) (by decide +kernel))
set_option maxRecDepth 20000 in
theorem gL_act_L_pass : GoodIn wsL_act (va_wsS RL 78 yL_pass wsL_pass) := goodIn_app (goodIn_of _ (by decide +kernel)) ggL_act_L_pass
set_option maxRecDepth 20000 in
theorem ggL_act_L_sweep : GoodIn wsL_act wsL_sweep := goodIn_ca (goodIn_r _ [187, 66, 67, 188, 189, 190, 12, 191, 72, 73, 105, 250, 251, 252, 253, 254, 255, 256] (by decide +kernel) (by decide +kernel)) (goodIn_sub (fun _ h => List.mem_cons_of_mem _ (List.mem_append_left _ (List.mem_append_right _ h))) (by decide +kernel))
set_option maxRecDepth 20000 in
theorem gL_act_L_sweep : GoodIn wsL_act (va_wsS RL 80 yL_sweep wsL_sweep) := goodIn_app (goodIn_of _ (by decide +kernel)) ggL_act_L_sweep
set_option maxRecDepth 20000 in
theorem ggL_act_L_step : GoodIn wsL_act wsL_step := goodIn_ca (goodIn_ca (goodIn_r _ [194, 65, 66, 67, 195, 196, 197, 12, 198, 79, 80, 72, 73, 105, 42, 43, 44, 199, 200, 201, 202, 14, 27, 28, 29, 18, 30, 20, 31, 32, 33, 34, 35, 36, 203, 123, 124, 125, 114, 115, 116, 117, 250, 251, 252, 253, 254, 255, 256, 257, 258] (by decide +kernel) (by decide +kernel)) (goodIn_sub (fun _ h => List.mem_cons_of_mem _ (List.mem_append_right _ h)) (by decide +kernel))) (goodIn_sub (fun _ h => List.mem_cons_of_mem _ (List.mem_append_left _ (List.mem_append_right _ h))) (by decide +kernel))
set_option maxRecDepth 20000 in
theorem gL_act_L_step : GoodIn wsL_act (va_wsS RL 83 yL_step wsL_step) := goodIn_app (goodIn_of _ (by decide +kernel)) ggL_act_L_step
set_option maxRecDepth 20000 in
theorem ggL_act_L_walk : GoodIn wsL_act wsL_walk := goodIn_ca (goodIn_r _ [206, 65, 67, 207, 208, 209, 12, 210, 79, 80, 211, 41, 42, 43, 44, 212, 90, 91, 53, 92, 60, 93, 51, 52, 54, 55, 56, 57, 58, 59, 61, 50, 250, 251, 252, 253, 254, 255, 256, 264, 265, 259, 260, 261, 262, 263] (by decide +kernel) (by decide +kernel)) (goodIn_sub (fun _ h => List.mem_cons_of_mem _ (List.mem_append_right _ h)) (by decide +kernel))
set_option maxRecDepth 20000 in
theorem gL_act_L_walk : GoodIn wsL_act (va_wsS RL 85 yL_walk wsL_walk) := goodIn_app (goodIn_of _ (by decide +kernel)) ggL_act_L_walk
set_option maxRecDepth 20000 in
theorem ggL_act_L_put : GoodIn wsL_act wsL_put := goodIn_ca (goodIn_ca (goodIn_r _ [215, 65, 66, 67, 216, 217, 218, 12, 219, 79, 80, 72, 73, 41, 14, 220, 221, 97, 137, 76, 77, 78, 42, 43, 44, 81, 82, 83, 53, 84, 85, 86, 87, 88, 89, 90, 91, 92, 60, 93, 51, 52, 54, 55, 56, 57, 58, 59, 61, 157, 158, 159, 160, 212, 222, 223, 224, 225, 226, 227, 228, 229, 106, 107, 108, 18, 109, 20, 49, 33, 34, 35, 31, 36, 28, 29, 30, 32, 230, 231, 232, 233, 234, 235, 236, 237, 238, 239, 240, 241, 242, 243, 244, 166, 245, 167, 99, 246, 247, 248, 249, 15, 16, 17, 19, 250, 251, 252, 253, 254, 255, 256, 259, 260, 261, 262, 263, 264, 265, 257, 258] (by decide +kernel) (by decide +kernel)) (goodIn_sub (fun _ h => List.mem_cons_of_mem _ (List.mem_append_right _ h)) (by decide +kernel))) (goodIn_sub (fun _ h => List.mem_cons_of_mem _ (List.mem_append_left _ (List.mem_append_right _ h))) (by decide +kernel))
set_option maxRecDepth 20000 in
theorem gL_act_L_put : GoodIn wsL_act (va_wsS RL 87 yL_put wsL_put) := goodIn_app (goodIn_of _ (by decide +kernel)) ggL_act_L_put
theorem dL_act_0 : decode cL_act 0 = .ok (.iload_n 1, 1) := by decide +kernel
theorem dL_act_1 : decode cL_act 1 = .ok (.bipush 24, 2) := by decide +kernel
theorem dL_act_3 : decode cL_act 3 = .ok (.ishr, 1) := by decide +kernel
theorem dL_act_4 : decode cL_act 4 = .ok (.bipush 9, 2) := by decide +kernel
theorem dL_act_6 : decode cL_act 6 = .ok (.invokestatic 50, 3) := by decide +kernel
theorem dL_act_9 : decode cL_act 9 = .ok (.ifCond .ne 7, 3) := by decide +kernel
theorem dL_act_12 : decode cL_act 12 = .ok (.iconst 1, 1) := by decide +kernel
theorem dL_act_13 : decode cL_act 13 = .ok (.goto 4, 3) := by decide +kernel
theorem dL_act_16 : decode cL_act 16 = .ok (.iconst 0, 1) := by decide +kernel
theorem dL_act_17 : decode cL_act 17 = .ok (.istore_n 2, 1) := by decide +kernel
theorem dL_act_18 : decode cL_act 18 = .ok (.iload_n 1, 1) := by decide +kernel
theorem dL_act_19 : decode cL_act 19 = .ok (.bipush 22, 2) := by decide +kernel
theorem dL_act_21 : decode cL_act 21 = .ok (.invokestatic 50, 3) := by decide +kernel
theorem dL_act_24 : decode cL_act 24 = .ok (.tableswitch 287 0 13 #[72, 72, 72, 72, 72, 85, 85, 98, 111, 194, 224, 229, 229, 258], 72) := by decide +kernel
theorem dL_act_96 : decode cL_act 96 = .ok (.aload_n 0, 1) := by decide +kernel
theorem dL_act_97 : decode cL_act 97 = .ok (.aload_n 0, 1) := by decide +kernel
theorem dL_act_98 : decode cL_act 98 = .ok (.iload_n 1, 1) := by decide +kernel
theorem dL_act_99 : decode cL_act 99 = .ok (.iconst 4, 1) := by decide +kernel
theorem dL_act_100 : decode cL_act 100 = .ok (.ishr, 1) := by decide +kernel
theorem dL_act_101 : decode cL_act 101 = .ok (.iload_n 2, 1) := by decide +kernel
theorem dL_act_102 : decode cL_act 102 = .ok (.invokestatic 61, 3) := by decide +kernel
theorem dL_act_105 : decode cL_act 105 = .ok (.invokestatic 65, 3) := by decide +kernel
theorem dL_act_108 : decode cL_act 108 = .ok (.ireturn, 1) := by decide +kernel
theorem dL_act_109 : decode cL_act 109 = .ok (.aload_n 0, 1) := by decide +kernel
theorem dL_act_110 : decode cL_act 110 = .ok (.aload_n 0, 1) := by decide +kernel
theorem dL_act_111 : decode cL_act 111 = .ok (.iload_n 1, 1) := by decide +kernel
theorem dL_act_112 : decode cL_act 112 = .ok (.iconst 4, 1) := by decide +kernel
theorem dL_act_113 : decode cL_act 113 = .ok (.ishr, 1) := by decide +kernel
theorem dL_act_114 : decode cL_act 114 = .ok (.iload_n 2, 1) := by decide +kernel
theorem dL_act_115 : decode cL_act 115 = .ok (.invokestatic 61, 3) := by decide +kernel
theorem dL_act_118 : decode cL_act 118 = .ok (.invokestatic 68, 3) := by decide +kernel
theorem dL_act_121 : decode cL_act 121 = .ok (.ireturn, 1) := by decide +kernel
theorem dL_act_122 : decode cL_act 122 = .ok (.aload_n 0, 1) := by decide +kernel
theorem dL_act_123 : decode cL_act 123 = .ok (.aload_n 0, 1) := by decide +kernel
theorem dL_act_124 : decode cL_act 124 = .ok (.iload_n 1, 1) := by decide +kernel
theorem dL_act_125 : decode cL_act 125 = .ok (.iconst 4, 1) := by decide +kernel
theorem dL_act_126 : decode cL_act 126 = .ok (.ishr, 1) := by decide +kernel
theorem dL_act_127 : decode cL_act 127 = .ok (.iload_n 2, 1) := by decide +kernel
theorem dL_act_128 : decode cL_act 128 = .ok (.invokestatic 61, 3) := by decide +kernel
theorem dL_act_131 : decode cL_act 131 = .ok (.invokestatic 70, 3) := by decide +kernel
theorem dL_act_134 : decode cL_act 134 = .ok (.ireturn, 1) := by decide +kernel
theorem dL_act_135 : decode cL_act 135 = .ok (.iload_n 1, 1) := by decide +kernel
theorem dL_act_136 : decode cL_act 136 = .ok (.bipush 12, 2) := by decide +kernel
theorem dL_act_138 : decode cL_act 138 = .ok (.ishr, 1) := by decide +kernel
theorem dL_act_139 : decode cL_act 139 = .ok (.iconst 3, 1) := by decide +kernel
theorem dL_act_140 : decode cL_act 140 = .ok (.invokestatic 50, 3) := by decide +kernel
theorem dL_act_143 : decode cL_act 143 = .ok (.ifCond .le 18, 3) := by decide +kernel
theorem dL_act_146 : decode cL_act 146 = .ok (.aload_n 0, 1) := by decide +kernel
theorem dL_act_147 : decode cL_act 147 = .ok (.aload_n 0, 1) := by decide +kernel
theorem dL_act_148 : decode cL_act 148 = .ok (.iload_n 1, 1) := by decide +kernel
theorem dL_act_149 : decode cL_act 149 = .ok (.iconst 4, 1) := by decide +kernel
theorem dL_act_150 : decode cL_act 150 = .ok (.ishr, 1) := by decide +kernel
theorem dL_act_151 : decode cL_act 151 = .ok (.iconst 0, 1) := by decide +kernel
theorem dL_act_152 : decode cL_act 152 = .ok (.invokestatic 61, 3) := by decide +kernel
theorem dL_act_155 : decode cL_act 155 = .ok (.invokestatic 70, 3) := by decide +kernel
theorem dL_act_158 : decode cL_act 158 = .ok (.goto 59, 3) := by decide +kernel
theorem dL_act_161 : decode cL_act 161 = .ok (.aload_n 0, 1) := by decide +kernel
theorem dL_act_162 : decode cL_act 162 = .ok (.iload_n 2, 1) := by decide +kernel
theorem dL_act_163 : decode cL_act 163 = .ok (.ifCond .eq 17, 3) := by decide +kernel
theorem dL_act_166 : decode cL_act 166 = .ok (.iload_n 1, 1) := by decide +kernel
theorem dL_act_167 : decode cL_act 167 = .ok (.iconst 4, 1) := by decide +kernel
theorem dL_act_168 : decode cL_act 168 = .ok (.ishr, 1) := by decide +kernel
theorem dL_act_169 : decode cL_act 169 = .ok (.sipush 10003, 3) := by decide +kernel
theorem dL_act_172 : decode cL_act 172 = .ok (.invokestatic 50, 3) := by decide +kernel
theorem dL_act_175 : decode cL_act 175 = .ok (.iconst 1, 1) := by decide +kernel
theorem dL_act_176 : decode cL_act 176 = .ok (.isub, 1) := by decide +kernel
theorem dL_act_177 : decode cL_act 177 = .ok (.goto 13, 3) := by decide +kernel
theorem dL_act_180 : decode cL_act 180 = .ok (.iconst 1, 1) := by decide +kernel
theorem dL_act_181 : decode cL_act 181 = .ok (.iload_n 1, 1) := by decide +kernel
theorem dL_act_182 : decode cL_act 182 = .ok (.iconst 4, 1) := by decide +kernel
theorem dL_act_183 : decode cL_act 183 = .ok (.ishr, 1) := by decide +kernel
theorem dL_act_184 : decode cL_act 184 = .ok (.bipush 60, 2) := by decide +kernel
theorem dL_act_186 : decode cL_act 186 = .ok (.invokestatic 50, 3) := by decide +kernel
theorem dL_act_189 : decode cL_act 189 = .ok (.iadd, 1) := by decide +kernel
theorem dL_act_190 : decode cL_act 190 = .ok (.aload_n 0, 1) := by decide +kernel
theorem dL_act_191 : decode cL_act 191 = .ok (.invokevirtual 72, 3) := by decide +kernel
theorem dL_act_194 : decode cL_act 194 = .ok (.iload_n 1, 1) := by decide +kernel
theorem dL_act_195 : decode cL_act 195 = .ok (.bipush 10, 2) := by decide +kernel
theorem dL_act_197 : decode cL_act 197 = .ok (.ishr, 1) := by decide +kernel
theorem dL_act_198 : decode cL_act 198 = .ok (.bipush 9, 2) := by decide +kernel
theorem dL_act_200 : decode cL_act 200 = .ok (.invokestatic 50, 3) := by decide +kernel
theorem dL_act_203 : decode cL_act 203 = .ok (.isub, 1) := by decide +kernel
theorem dL_act_204 : decode cL_act 204 = .ok (.iload_n 2, 1) := by decide +kernel
theorem dL_act_205 : decode cL_act 205 = .ok (.ifCond .eq 7, 3) := by decide +kernel
theorem dL_act_208 : decode cL_act 208 = .ok (.iconst 2, 1) := by decide +kernel
theorem dL_act_209 : decode cL_act 209 = .ok (.goto 4, 3) := by decide +kernel
theorem dL_act_212 : decode cL_act 212 = .ok (.iconst 0, 1) := by decide +kernel
theorem dL_act_213 : decode cL_act 213 = .ok (.iadd, 1) := by decide +kernel
theorem dL_act_214 : decode cL_act 214 = .ok (.invokestatic 75, 3) := by decide +kernel
theorem dL_act_217 : decode cL_act 217 = .ok (.ireturn, 1) := by decide +kernel
theorem dL_act_218 : decode cL_act 218 = .ok (.aload_n 0, 1) := by decide +kernel
theorem dL_act_219 : decode cL_act 219 = .ok (.iload_n 2, 1) := by decide +kernel
theorem dL_act_220 : decode cL_act 220 = .ok (.ifCond .eq 14, 3) := by decide +kernel
theorem dL_act_223 : decode cL_act 223 = .ok (.iload_n 1, 1) := by decide +kernel
theorem dL_act_224 : decode cL_act 224 = .ok (.iconst 4, 1) := by decide +kernel
theorem dL_act_225 : decode cL_act 225 = .ok (.ishr, 1) := by decide +kernel
theorem dL_act_226 : decode cL_act 226 = .ok (.bipush 103, 2) := by decide +kernel
theorem dL_act_228 : decode cL_act 228 = .ok (.invokestatic 50, 3) := by decide +kernel
theorem dL_act_231 : decode cL_act 231 = .ok (.goto 13, 3) := by decide +kernel
theorem dL_act_234 : decode cL_act 234 = .ok (.iconst 1, 1) := by decide +kernel
theorem dL_act_235 : decode cL_act 235 = .ok (.iload_n 1, 1) := by decide +kernel
theorem dL_act_236 : decode cL_act 236 = .ok (.iconst 4, 1) := by decide +kernel
theorem dL_act_237 : decode cL_act 237 = .ok (.ishr, 1) := by decide +kernel
theorem dL_act_238 : decode cL_act 238 = .ok (.bipush 6, 2) := by decide +kernel
theorem dL_act_240 : decode cL_act 240 = .ok (.invokestatic 50, 3) := by decide +kernel
theorem dL_act_243 : decode cL_act 243 = .ok (.iadd, 1) := by decide +kernel
theorem dL_act_244 : decode cL_act 244 = .ok (.invokestatic 78, 3) := by decide +kernel
theorem dL_act_247 : decode cL_act 247 = .ok (.ireturn, 1) := by decide +kernel
theorem dL_act_248 : decode cL_act 248 = .ok (.aload_n 0, 1) := by decide +kernel
theorem dL_act_249 : decode cL_act 249 = .ok (.invokestatic 80, 3) := by decide +kernel
theorem dL_act_252 : decode cL_act 252 = .ok (.ireturn, 1) := by decide +kernel
theorem dL_act_253 : decode cL_act 253 = .ok (.aload_n 0, 1) := by decide +kernel
theorem dL_act_254 : decode cL_act 254 = .ok (.iload_n 2, 1) := by decide +kernel
theorem dL_act_255 : decode cL_act 255 = .ok (.ifCond .eq 14, 3) := by decide +kernel
theorem dL_act_258 : decode cL_act 258 = .ok (.iload_n 1, 1) := by decide +kernel
theorem dL_act_259 : decode cL_act 259 = .ok (.iconst 4, 1) := by decide +kernel
theorem dL_act_260 : decode cL_act 260 = .ok (.ishr, 1) := by decide +kernel
theorem dL_act_261 : decode cL_act 261 = .ok (.bipush 103, 2) := by decide +kernel
theorem dL_act_263 : decode cL_act 263 = .ok (.invokestatic 50, 3) := by decide +kernel
theorem dL_act_266 : decode cL_act 266 = .ok (.goto 12, 3) := by decide +kernel
theorem dL_act_269 : decode cL_act 269 = .ok (.iconst 1, 1) := by decide +kernel
theorem dL_act_270 : decode cL_act 270 = .ok (.iload_n 1, 1) := by decide +kernel
theorem dL_act_271 : decode cL_act 271 = .ok (.iconst 4, 1) := by decide +kernel
theorem dL_act_272 : decode cL_act 272 = .ok (.ishr, 1) := by decide +kernel
theorem dL_act_273 : decode cL_act 273 = .ok (.iconst 4, 1) := by decide +kernel
theorem dL_act_274 : decode cL_act 274 = .ok (.invokestatic 50, 3) := by decide +kernel
theorem dL_act_277 : decode cL_act 277 = .ok (.iadd, 1) := by decide +kernel
theorem dL_act_278 : decode cL_act 278 = .ok (.invokestatic 83, 3) := by decide +kernel
theorem dL_act_281 : decode cL_act 281 = .ok (.ireturn, 1) := by decide +kernel
theorem dL_act_282 : decode cL_act 282 = .ok (.aload_n 0, 1) := by decide +kernel
theorem dL_act_283 : decode cL_act 283 = .ok (.iload_n 2, 1) := by decide +kernel
theorem dL_act_284 : decode cL_act 284 = .ok (.ifCond .eq 16, 3) := by decide +kernel
theorem dL_act_287 : decode cL_act 287 = .ok (.iload_n 1, 1) := by decide +kernel
theorem dL_act_288 : decode cL_act 288 = .ok (.iconst 4, 1) := by decide +kernel
theorem dL_act_289 : decode cL_act 289 = .ok (.ishr, 1) := by decide +kernel
theorem dL_act_290 : decode cL_act 290 = .ok (.bipush 6, 2) := by decide +kernel
theorem dL_act_292 : decode cL_act 292 = .ok (.invokestatic 50, 3) := by decide +kernel
theorem dL_act_295 : decode cL_act 295 = .ok (.iconst 1, 1) := by decide +kernel
theorem dL_act_296 : decode cL_act 296 = .ok (.isub, 1) := by decide +kernel
theorem dL_act_297 : decode cL_act 297 = .ok (.goto 10, 3) := by decide +kernel
theorem dL_act_300 : decode cL_act 300 = .ok (.iload_n 1, 1) := by decide +kernel
theorem dL_act_301 : decode cL_act 301 = .ok (.iconst 4, 1) := by decide +kernel
theorem dL_act_302 : decode cL_act 302 = .ok (.ishr, 1) := by decide +kernel
theorem dL_act_303 : decode cL_act 303 = .ok (.iconst 4, 1) := by decide +kernel
theorem dL_act_304 : decode cL_act 304 = .ok (.invokestatic 50, 3) := by decide +kernel
theorem dL_act_307 : decode cL_act 307 = .ok (.invokestatic 85, 3) := by decide +kernel
theorem dL_act_310 : decode cL_act 310 = .ok (.ireturn, 1) := by decide +kernel
theorem dL_act_311 : decode cL_act 311 = .ok (.aload_n 0, 1) := by decide +kernel
theorem dL_act_312 : decode cL_act 312 = .ok (.iload_n 2, 1) := by decide +kernel
theorem dL_act_313 : decode cL_act 313 = .ok (.ifCond .eq 17, 3) := by decide +kernel
theorem dL_act_316 : decode cL_act 316 = .ok (.iload_n 1, 1) := by decide +kernel
theorem dL_act_317 : decode cL_act 317 = .ok (.iconst 4, 1) := by decide +kernel
theorem dL_act_318 : decode cL_act 318 = .ok (.ishr, 1) := by decide +kernel
theorem dL_act_319 : decode cL_act 319 = .ok (.sipush 1004, 3) := by decide +kernel
theorem dL_act_322 : decode cL_act 322 = .ok (.invokestatic 50, 3) := by decide +kernel
theorem dL_act_325 : decode cL_act 325 = .ok (.iconst 2, 1) := by decide +kernel
theorem dL_act_326 : decode cL_act 326 = .ok (.isub, 1) := by decide +kernel
theorem dL_act_327 : decode cL_act 327 = .ok (.goto 11, 3) := by decide +kernel
theorem dL_act_330 : decode cL_act 330 = .ok (.iload_n 1, 1) := by decide +kernel
theorem dL_act_331 : decode cL_act 331 = .ok (.iconst 4, 1) := by decide +kernel
theorem dL_act_332 : decode cL_act 332 = .ok (.ishr, 1) := by decide +kernel
theorem dL_act_333 : decode cL_act 333 = .ok (.bipush 60, 2) := by decide +kernel
theorem dL_act_335 : decode cL_act 335 = .ok (.invokestatic 50, 3) := by decide +kernel
theorem dL_act_338 : decode cL_act 338 = .ok (.iload_n 2, 1) := by decide +kernel
theorem dL_act_339 : decode cL_act 339 = .ok (.ifCond .eq 18, 3) := by decide +kernel
theorem dL_act_342 : decode cL_act 342 = .ok (.iload_n 1, 1) := by decide +kernel
theorem dL_act_343 : decode cL_act 343 = .ok (.bipush 7, 2) := by decide +kernel
theorem dL_act_345 : decode cL_act 345 = .ok (.ishr, 1) := by decide +kernel
theorem dL_act_346 : decode cL_act 346 = .ok (.sipush 10004, 3) := by decide +kernel
theorem dL_act_349 : decode cL_act 349 = .ok (.invokestatic 50, 3) := by decide +kernel
theorem dL_act_352 : decode cL_act 352 = .ok (.iconst 1, 1) := by decide +kernel
theorem dL_act_353 : decode cL_act 353 = .ok (.isub, 1) := by decide +kernel
theorem dL_act_354 : decode cL_act 354 = .ok (.goto 14, 3) := by decide +kernel
theorem dL_act_357 : decode cL_act 357 = .ok (.iconst 1, 1) := by decide +kernel
theorem dL_act_358 : decode cL_act 358 = .ok (.iload_n 1, 1) := by decide +kernel
theorem dL_act_359 : decode cL_act 359 = .ok (.bipush 9, 2) := by decide +kernel
theorem dL_act_361 : decode cL_act 361 = .ok (.ishr, 1) := by decide +kernel
theorem dL_act_362 : decode cL_act 362 = .ok (.bipush 90, 2) := by decide +kernel
theorem dL_act_364 : decode cL_act 364 = .ok (.invokestatic 50, 3) := by decide +kernel
theorem dL_act_367 : decode cL_act 367 = .ok (.iadd, 1) := by decide +kernel
theorem dL_act_368 : decode cL_act 368 = .ok (.iload_n 2, 1) := by decide +kernel
theorem dL_act_369 : decode cL_act 369 = .ok (.ifCond .eq 16, 3) := by decide +kernel
theorem dL_act_372 : decode cL_act 372 = .ok (.iload_n 1, 1) := by decide +kernel
theorem dL_act_373 : decode cL_act 373 = .ok (.iconst 4, 1) := by decide +kernel
theorem dL_act_374 : decode cL_act 374 = .ok (.ishr, 1) := by decide +kernel
theorem dL_act_375 : decode cL_act 375 = .ok (.bipush 12, 2) := by decide +kernel
theorem dL_act_377 : decode cL_act 377 = .ok (.invokestatic 50, 3) := by decide +kernel
theorem dL_act_380 : decode cL_act 380 = .ok (.iconst 1, 1) := by decide +kernel
theorem dL_act_381 : decode cL_act 381 = .ok (.isub, 1) := by decide +kernel
theorem dL_act_382 : decode cL_act 382 = .ok (.goto 12, 3) := by decide +kernel
theorem dL_act_385 : decode cL_act 385 = .ok (.iload_n 1, 1) := by decide +kernel
theorem dL_act_386 : decode cL_act 386 = .ok (.bipush 11, 2) := by decide +kernel
theorem dL_act_388 : decode cL_act 388 = .ok (.ishr, 1) := by decide +kernel
theorem dL_act_389 : decode cL_act 389 = .ok (.bipush 10, 2) := by decide +kernel
theorem dL_act_391 : decode cL_act 391 = .ok (.invokestatic 50, 3) := by decide +kernel
theorem dL_act_394 : decode cL_act 394 = .ok (.invokestatic 87, 3) := by decide +kernel
theorem dL_act_397 : decode cL_act 397 = .ok (.ireturn, 1) := by decide +kernel
set_option maxRecDepth 20000 in
theorem ggL_areAlike_X3_records : GoodIn wsL_areAlike wsX3_records := goodIn_r _ [5, 6, 7, 8, 9, 10, 11, 12, 82, 83, 84, 85, 86, 87, 88, 89, 90] (by decide +kernel) (by decide +kernel)
set_option maxRecDepth 20000 in
theorem gL_areAlike_X3_records : GoodIn wsL_areAlike (wsV RL 90 RX3 yX3_records wsX3_records) := goodIn_app (goodIn_of _ (by decide +kernel)) ggL_areAlike_X3_records
set_option maxRecDepth 20000 in
theorem ggL_areAlike_X3_pages : GoodIn wsL_areAlike wsX3_pages := goodIn_r _ [16, 17, 18, 19, 20, 21, 22, 23, 82, 83, 84, 85, 86, 87, 88, 91, 92] (by decide +kernel) (by decide +kernel)
set_option maxRecDepth 20000 in
theorem gL_areAlike_X3_pages : GoodIn wsL_areAlike (wsV RL 46 RX3 yX3_pages wsX3_pages) := goodIn_app (goodIn_of _ (by decide +kernel)) ggL_areAlike_X3_pages
set_option maxRecDepth 20000 in
theorem ggL_areAlike_X3_kept : GoodIn wsL_areAlike wsX3_kept := goodIn_r _ [27, 28, 82, 83, 84, 85, 86, 87, 88] (by decide +kernel) (by decide +kernel)
set_option maxRecDepth 20000 in
theorem gL_areAlike_X3_kept : GoodIn wsL_areAlike (wsV RL 93 RX3 yX3_kept wsX3_kept) := goodIn_app (goodIn_of _ (by decide +kernel)) ggL_areAlike_X3_kept
set_option maxRecDepth 20000 in
theorem ggL_areAlike_X3_paidBack : GoodIn wsL_areAlike wsX3_paidBack := goodIn_r _ [32, 33, 82, 83, 84, 85, 86, 87, 88] (by decide +kernel) (by decide +kernel)
set_option maxRecDepth 20000 in
theorem gL_areAlike_X3_paidBack : GoodIn wsL_areAlike (wsV RL 96 RX3 yX3_paidBack wsX3_paidBack) := goodIn_app (goodIn_of _ (by decide +kernel)) ggL_areAlike_X3_paidBack
set_option maxRecDepth 20000 in
theorem ggL_areAlike_X3_today : GoodIn wsL_areAlike wsX3_today := goodIn_r _ [37, 38, 82, 83, 84, 85, 86, 87, 88] (by decide +kernel) (by decide +kernel)
set_option maxRecDepth 20000 in
theorem gL_areAlike_X3_today : GoodIn wsL_areAlike (wsV RL 72 RX3 yX3_today wsX3_today) := goodIn_app (goodIn_of _ (by decide +kernel)) ggL_areAlike_X3_today
set_option maxRecDepth 20000 in
theorem ggL_areAlike_X3_sweeping : GoodIn wsL_areAlike wsX3_sweeping := goodIn_r _ [42, 43, 82, 83, 84, 85, 86, 87, 88] (by decide +kernel) (by decide +kernel)
set_option maxRecDepth 20000 in
theorem gL_areAlike_X3_sweeping : GoodIn wsL_areAlike (wsV RL 99 RX3 yX3_sweeping wsX3_sweeping) := goodIn_app (goodIn_of _ (by decide +kernel)) ggL_areAlike_X3_sweeping
set_option maxRecDepth 20000 in
theorem ggL_areAlike_X3_size : GoodIn wsL_areAlike wsX3_size := goodIn_ca (goodIn_r _ [47, 48, 49, 17, 50, 51, 52, 21, 53, 23, 54, 55, 56, 57, 58, 59, 82, 83, 84, 85, 86, 87, 88, 91, 92] (by decide +kernel) (by decide +kernel)) (goodIn_sub (fun _ h => List.mem_cons_of_mem _ (List.mem_append_right _ h)) (by decide +kernel))
set_option maxRecDepth 20000 in
theorem gL_areAlike_X3_size : GoodIn wsL_areAlike (wsV RL 55 RX3 yX3_size wsX3_size) := goodIn_app (goodIn_of _ (by decide +kernel)) ggL_areAlike_X3_size
set_option maxRecDepth 20000 in
theorem ggL_areAlike_X3_at : GoodIn wsL_areAlike wsX3_at := goodIn_ca (goodIn_r _ [63, 48, 49, 17, 6, 50, 51, 52, 21, 53, 23, 54, 55, 56, 57, 58, 59, 64, 65, 4, 66, 67, 68, 69, 70, 71, 72, 73, 74, 10, 75, 76, 77, 78, 79, 80, 12, 81, 82, 83, 84, 85, 86, 87, 88, 91, 92, 93, 94, 95, 96, 97, 89, 90] (by decide +kernel) (by decide +kernel)) (goodIn_sub (fun _ h => List.mem_cons_of_mem _ (List.mem_append_right _ h)) (by decide +kernel))
set_option maxRecDepth 20000 in
theorem gL_areAlike_X3_at : GoodIn wsL_areAlike (wsV RL 58 RX3 yX3_at wsX3_at) := goodIn_app (goodIn_of _ (by decide +kernel)) ggL_areAlike_X3_at
theorem dL_areAlike_0 : decode cL_areAlike 0 = .ok (.aload_n 0, 1) := by decide +kernel
theorem dL_areAlike_1 : decode cL_areAlike 1 = .ok (.invokevirtual 90, 3) := by decide +kernel
theorem dL_areAlike_4 : decode cL_areAlike 4 = .ok (.aload_n 1, 1) := by decide +kernel
theorem dL_areAlike_5 : decode cL_areAlike 5 = .ok (.invokevirtual 90, 3) := by decide +kernel
theorem dL_areAlike_8 : decode cL_areAlike 8 = .ok (.if_icmp .ne 62, 3) := by decide +kernel
theorem dL_areAlike_11 : decode cL_areAlike 11 = .ok (.aload_n 0, 1) := by decide +kernel
theorem dL_areAlike_12 : decode cL_areAlike 12 = .ok (.invokevirtual 46, 3) := by decide +kernel
theorem dL_areAlike_15 : decode cL_areAlike 15 = .ok (.aload_n 1, 1) := by decide +kernel
theorem dL_areAlike_16 : decode cL_areAlike 16 = .ok (.invokevirtual 46, 3) := by decide +kernel
theorem dL_areAlike_19 : decode cL_areAlike 19 = .ok (.if_icmp .ne 51, 3) := by decide +kernel
theorem dL_areAlike_22 : decode cL_areAlike 22 = .ok (.aload_n 0, 1) := by decide +kernel
theorem dL_areAlike_23 : decode cL_areAlike 23 = .ok (.invokevirtual 93, 3) := by decide +kernel
theorem dL_areAlike_26 : decode cL_areAlike 26 = .ok (.aload_n 1, 1) := by decide +kernel
theorem dL_areAlike_27 : decode cL_areAlike 27 = .ok (.invokevirtual 93, 3) := by decide +kernel
theorem dL_areAlike_30 : decode cL_areAlike 30 = .ok (.if_icmp .ne 40, 3) := by decide +kernel
theorem dL_areAlike_33 : decode cL_areAlike 33 = .ok (.aload_n 0, 1) := by decide +kernel
theorem dL_areAlike_34 : decode cL_areAlike 34 = .ok (.invokevirtual 96, 3) := by decide +kernel
theorem dL_areAlike_37 : decode cL_areAlike 37 = .ok (.aload_n 1, 1) := by decide +kernel
theorem dL_areAlike_38 : decode cL_areAlike 38 = .ok (.invokevirtual 96, 3) := by decide +kernel
theorem dL_areAlike_41 : decode cL_areAlike 41 = .ok (.if_icmp .ne 29, 3) := by decide +kernel
theorem dL_areAlike_44 : decode cL_areAlike 44 = .ok (.aload_n 0, 1) := by decide +kernel
theorem dL_areAlike_45 : decode cL_areAlike 45 = .ok (.invokevirtual 72, 3) := by decide +kernel
theorem dL_areAlike_48 : decode cL_areAlike 48 = .ok (.aload_n 1, 1) := by decide +kernel
theorem dL_areAlike_49 : decode cL_areAlike 49 = .ok (.invokevirtual 72, 3) := by decide +kernel
theorem dL_areAlike_52 : decode cL_areAlike 52 = .ok (.if_icmp .ne 18, 3) := by decide +kernel
theorem dL_areAlike_55 : decode cL_areAlike 55 = .ok (.aload_n 0, 1) := by decide +kernel
theorem dL_areAlike_56 : decode cL_areAlike 56 = .ok (.invokevirtual 99, 3) := by decide +kernel
theorem dL_areAlike_59 : decode cL_areAlike 59 = .ok (.aload_n 1, 1) := by decide +kernel
theorem dL_areAlike_60 : decode cL_areAlike 60 = .ok (.invokevirtual 99, 3) := by decide +kernel
theorem dL_areAlike_63 : decode cL_areAlike 63 = .ok (.if_icmp .ne 7, 3) := by decide +kernel
theorem dL_areAlike_66 : decode cL_areAlike 66 = .ok (.iconst 1, 1) := by decide +kernel
theorem dL_areAlike_67 : decode cL_areAlike 67 = .ok (.goto 4, 3) := by decide +kernel
theorem dL_areAlike_70 : decode cL_areAlike 70 = .ok (.iconst 0, 1) := by decide +kernel
theorem dL_areAlike_71 : decode cL_areAlike 71 = .ok (.istore_n 2, 1) := by decide +kernel
theorem dL_areAlike_72 : decode cL_areAlike 72 = .ok (.iconst 0, 1) := by decide +kernel
theorem dL_areAlike_73 : decode cL_areAlike 73 = .ok (.istore_n 3, 1) := by decide +kernel
theorem dL_areAlike_74 : decode cL_areAlike 74 = .ok (.iload_n 3, 1) := by decide +kernel
theorem dL_areAlike_75 : decode cL_areAlike 75 = .ok (.aload_n 0, 1) := by decide +kernel
theorem dL_areAlike_76 : decode cL_areAlike 76 = .ok (.invokevirtual 46, 3) := by decide +kernel
theorem dL_areAlike_79 : decode cL_areAlike 79 = .ok (.if_icmp .ge 47, 3) := by decide +kernel
theorem dL_areAlike_82 : decode cL_areAlike 82 = .ok (.iload_n 2, 1) := by decide +kernel
theorem dL_areAlike_83 : decode cL_areAlike 83 = .ok (.ifCond .eq 43, 3) := by decide +kernel
theorem dL_areAlike_86 : decode cL_areAlike 86 = .ok (.aload_n 0, 1) := by decide +kernel
theorem dL_areAlike_87 : decode cL_areAlike 87 = .ok (.iload_n 3, 1) := by decide +kernel
theorem dL_areAlike_88 : decode cL_areAlike 88 = .ok (.invokevirtual 55, 3) := by decide +kernel
theorem dL_areAlike_91 : decode cL_areAlike 91 = .ok (.aload_n 1, 1) := by decide +kernel
theorem dL_areAlike_92 : decode cL_areAlike 92 = .ok (.iload_n 3, 1) := by decide +kernel
theorem dL_areAlike_93 : decode cL_areAlike 93 = .ok (.invokevirtual 55, 3) := by decide +kernel
theorem dL_areAlike_96 : decode cL_areAlike 96 = .ok (.if_icmp .ne 22, 3) := by decide +kernel
theorem dL_areAlike_99 : decode cL_areAlike 99 = .ok (.aload_n 0, 1) := by decide +kernel
theorem dL_areAlike_100 : decode cL_areAlike 100 = .ok (.iload_n 3, 1) := by decide +kernel
theorem dL_areAlike_101 : decode cL_areAlike 101 = .ok (.iconst 0, 1) := by decide +kernel
theorem dL_areAlike_102 : decode cL_areAlike 102 = .ok (.invokevirtual 58, 3) := by decide +kernel
theorem dL_areAlike_105 : decode cL_areAlike 105 = .ok (.aload_n 1, 1) := by decide +kernel
theorem dL_areAlike_106 : decode cL_areAlike 106 = .ok (.iload_n 3, 1) := by decide +kernel
theorem dL_areAlike_107 : decode cL_areAlike 107 = .ok (.iconst 0, 1) := by decide +kernel
theorem dL_areAlike_108 : decode cL_areAlike 108 = .ok (.invokevirtual 58, 3) := by decide +kernel
theorem dL_areAlike_111 : decode cL_areAlike 111 = .ok (.if_icmp .ne 7, 3) := by decide +kernel
theorem dL_areAlike_114 : decode cL_areAlike 114 = .ok (.iconst 1, 1) := by decide +kernel
theorem dL_areAlike_115 : decode cL_areAlike 115 = .ok (.goto 4, 3) := by decide +kernel
theorem dL_areAlike_118 : decode cL_areAlike 118 = .ok (.iconst 0, 1) := by decide +kernel
theorem dL_areAlike_119 : decode cL_areAlike 119 = .ok (.istore_n 2, 1) := by decide +kernel
theorem dL_areAlike_120 : decode cL_areAlike 120 = .ok (.iinc 3 1, 3) := by decide +kernel
theorem dL_areAlike_123 : decode cL_areAlike 123 = .ok (.goto (-49), 3) := by decide +kernel
theorem dL_areAlike_126 : decode cL_areAlike 126 = .ok (.iload_n 2, 1) := by decide +kernel
theorem dL_areAlike_127 : decode cL_areAlike 127 = .ok (.ireturn, 1) := by decide +kernel
set_option maxRecDepth 20000 in
theorem ggL_arePagesSo_X3_pages : GoodIn wsL_arePagesSo wsX3_pages := goodIn_r _ [5, 6, 7, 8, 9, 10, 11, 12, 104, 105, 106, 107, 108, 109, 110, 111, 112] (by decide +kernel) (by decide +kernel)
set_option maxRecDepth 20000 in
theorem gL_arePagesSo_X3_pages : GoodIn wsL_arePagesSo (wsV RL 46 RX3 yX3_pages wsX3_pages) := goodIn_app (goodIn_of _ (by decide +kernel)) ggL_arePagesSo_X3_pages
set_option maxRecDepth 20000 in
theorem ggL_arePagesSo_X3_size : GoodIn wsL_arePagesSo wsX3_size := goodIn_ca (goodIn_r _ [16, 17, 18, 6, 19, 20, 21, 10, 22, 12, 23, 24, 25, 26, 27, 28, 104, 105, 106, 107, 108, 109, 110, 111, 112] (by decide +kernel) (by decide +kernel)) (goodIn_sub (fun _ h => List.mem_cons_of_mem _ (List.mem_append_left _ (List.mem_append_right _ h))) (by decide +kernel))
set_option maxRecDepth 20000 in
theorem gL_arePagesSo_X3_size : GoodIn wsL_arePagesSo (wsV RL 55 RX3 yX3_size wsX3_size) := goodIn_app (goodIn_of _ (by decide +kernel)) ggL_arePagesSo_X3_size
set_option maxRecDepth 20000 in
theorem ggL_arePagesSo_X3_at : GoodIn wsL_arePagesSo wsX3_at := goodIn_ca (goodIn_r _ [32, 17, 18, 6, 33, 19, 20, 21, 10, 22, 12, 23, 24, 25, 26, 27, 28, 34, 35, 4, 36, 37, 38, 39, 40, 41, 42, 43, 44, 45, 46, 47, 48, 49, 50, 51, 52, 53, 104, 105, 106, 107, 108, 109, 110, 111, 112, 113, 114, 115, 116, 117, 118, 119] (by decide +kernel) (by decide +kernel)) (goodIn_sub (fun _ h => List.mem_cons_of_mem _ (List.mem_append_left _ (List.mem_append_right _ h))) (by decide +kernel))
set_option maxRecDepth 20000 in
theorem gL_arePagesSo_X3_at : GoodIn wsL_arePagesSo (wsV RL 58 RX3 yX3_at wsX3_at) := goodIn_app (goodIn_of _ (by decide +kernel)) ggL_arePagesSo_X3_at
set_option maxRecDepth 20000 in
theorem ggL_arePagesSo_X3_pageOf : GoodIn wsL_arePagesSo wsX3_pageOf := goodIn_ca (goodIn_r _ [57, 6, 33, 58, 59, 4, 60, 61, 62, 34, 35, 36, 63, 64, 65, 45, 66, 67, 68, 69, 70, 52, 71, 43, 44, 46, 47, 48, 49, 50, 51, 53, 72, 73, 74, 10, 75, 12, 41, 25, 26, 27, 23, 28, 20, 21, 22, 104, 105, 106, 107, 108, 109, 110, 118, 119, 113, 114, 115, 116, 117, 111, 112] (by decide +kernel) (by decide +kernel)) (goodIn_sub (fun _ h => List.mem_cons_of_mem _ (List.mem_append_right _ h)) (by decide +kernel))
set_option maxRecDepth 20000 in
theorem gL_arePagesSo_X3_pageOf : GoodIn wsL_arePagesSo (wsV RL 102 RX3 yX3_pageOf wsX3_pageOf) := goodIn_app (goodIn_of _ (by decide +kernel)) ggL_arePagesSo_X3_pageOf
set_option maxRecDepth 20000 in
theorem ggL_arePagesSo_X3_sum : GoodIn wsL_arePagesSo wsX3_sum := goodIn_ca (goodIn_r _ [79, 33, 80, 58, 59, 4, 60, 61, 62, 34, 35, 36, 81, 82, 83, 45, 84, 85, 64, 65, 66, 67, 68, 69, 70, 52, 71, 43, 44, 46, 47, 48, 49, 50, 51, 53, 104, 105, 106, 107, 108, 109, 110, 113, 114, 115, 116, 117, 118, 119] (by decide +kernel) (by decide +kernel)) (goodIn_sub (fun _ h => List.mem_cons_of_mem _ (List.mem_append_right _ h)) (by decide +kernel))
set_option maxRecDepth 20000 in
theorem gL_arePagesSo_X3_sum : GoodIn wsL_arePagesSo (wsV RL 105 RX3 yX3_sum wsX3_sum) := goodIn_app (goodIn_of _ (by decide +kernel)) ggL_arePagesSo_X3_sum
set_option maxRecDepth 20000 in
theorem ggL_arePagesSo_X3_heldBy : GoodIn wsL_arePagesSo wsX3_heldBy := goodIn_ca (goodIn_r _ [89, 61, 62, 33, 34, 35, 4, 36, 90, 91, 92, 45, 93, 52, 94, 95, 48, 49, 50, 51, 53, 104, 105, 106, 107, 108, 109, 110, 118, 119, 113, 114, 115, 116, 117] (by decide +kernel) (by decide +kernel)) (goodIn_sub (fun _ h => List.mem_cons_of_mem _ (List.mem_append_right _ h)) (by decide +kernel))
set_option maxRecDepth 20000 in
theorem gL_arePagesSo_X3_heldBy : GoodIn wsL_arePagesSo (wsV RL 108 RX3 yX3_heldBy wsX3_heldBy) := goodIn_app (goodIn_of _ (by decide +kernel)) ggL_arePagesSo_X3_heldBy
set_option maxRecDepth 20000 in
theorem ggL_arePagesSo_X3_records : GoodIn wsL_arePagesSo wsX3_records := goodIn_r _ [99, 33, 100, 101, 102, 45, 103, 52, 104, 105, 106, 107, 108, 109, 110, 118, 119] (by decide +kernel) (by decide +kernel)
set_option maxRecDepth 20000 in
theorem gL_arePagesSo_X3_records : GoodIn wsL_arePagesSo (wsV RL 90 RX3 yX3_records wsX3_records) := goodIn_app (goodIn_of _ (by decide +kernel)) ggL_arePagesSo_X3_records
theorem dL_arePagesSo_0 : decode cL_arePagesSo 0 = .ok (.iconst (-1), 1) := by decide +kernel
theorem dL_arePagesSo_1 : decode cL_arePagesSo 1 = .ok (.istore_n 1, 1) := by decide +kernel
theorem dL_arePagesSo_2 : decode cL_arePagesSo 2 = .ok (.iconst 0, 1) := by decide +kernel
theorem dL_arePagesSo_3 : decode cL_arePagesSo 3 = .ok (.istore_n 2, 1) := by decide +kernel
theorem dL_arePagesSo_4 : decode cL_arePagesSo 4 = .ok (.iconst 0, 1) := by decide +kernel
theorem dL_arePagesSo_5 : decode cL_arePagesSo 5 = .ok (.istore_n 3, 1) := by decide +kernel
theorem dL_arePagesSo_6 : decode cL_arePagesSo 6 = .ok (.iconst 0, 1) := by decide +kernel
theorem dL_arePagesSo_7 : decode cL_arePagesSo 7 = .ok (.istore 4, 2) := by decide +kernel
theorem dL_arePagesSo_9 : decode cL_arePagesSo 9 = .ok (.iconst 0, 1) := by decide +kernel
theorem dL_arePagesSo_10 : decode cL_arePagesSo 10 = .ok (.istore 5, 2) := by decide +kernel
theorem dL_arePagesSo_12 : decode cL_arePagesSo 12 = .ok (.iload 5, 2) := by decide +kernel
theorem dL_arePagesSo_14 : decode cL_arePagesSo 14 = .ok (.aload_n 0, 1) := by decide +kernel
theorem dL_arePagesSo_15 : decode cL_arePagesSo 15 = .ok (.invokevirtual 46, 3) := by decide +kernel
theorem dL_arePagesSo_18 : decode cL_arePagesSo 18 = .ok (.if_icmp .ge 103, 3) := by decide +kernel
theorem dL_arePagesSo_21 : decode cL_arePagesSo 21 = .ok (.aload_n 0, 1) := by decide +kernel
theorem dL_arePagesSo_22 : decode cL_arePagesSo 22 = .ok (.iload 5, 2) := by decide +kernel
theorem dL_arePagesSo_24 : decode cL_arePagesSo 24 = .ok (.invokevirtual 55, 3) := by decide +kernel
theorem dL_arePagesSo_27 : decode cL_arePagesSo 27 = .ok (.istore 6, 2) := by decide +kernel
end
section
theorem dL_arePagesSo_29 : decode cL_arePagesSo 29 = .ok (.iload 6, 2) := by decide +kernel
theorem dL_arePagesSo_31 : decode cL_arePagesSo 31 = .ok (.iconst 1, 1) := by decide +kernel
theorem dL_arePagesSo_32 : decode cL_arePagesSo 32 = .ok (.if_icmp .lt 9, 3) := by decide +kernel
theorem dL_arePagesSo_35 : decode cL_arePagesSo 35 = .ok (.iload 6, 2) := by decide +kernel
theorem dL_arePagesSo_37 : decode cL_arePagesSo 37 = .ok (.iconst 4, 1) := by decide +kernel
theorem dL_arePagesSo_38 : decode cL_arePagesSo 38 = .ok (.if_icmp .le 5, 3) := by decide +kernel
theorem dL_arePagesSo_41 : decode cL_arePagesSo 41 = .ok (.iconst 0, 1) := by decide +kernel
theorem dL_arePagesSo_42 : decode cL_arePagesSo 42 = .ok (.ireturn, 1) := by decide +kernel
theorem dL_arePagesSo_43 : decode cL_arePagesSo 43 = .ok (.iconst 0, 1) := by decide +kernel
theorem dL_arePagesSo_44 : decode cL_arePagesSo 44 = .ok (.istore 7, 2) := by decide +kernel
theorem dL_arePagesSo_46 : decode cL_arePagesSo 46 = .ok (.iload 7, 2) := by decide +kernel
theorem dL_arePagesSo_48 : decode cL_arePagesSo 48 = .ok (.iload 6, 2) := by decide +kernel
theorem dL_arePagesSo_50 : decode cL_arePagesSo 50 = .ok (.if_icmp .ge 60, 3) := by decide +kernel
theorem dL_arePagesSo_53 : decode cL_arePagesSo 53 = .ok (.aload_n 0, 1) := by decide +kernel
theorem dL_arePagesSo_54 : decode cL_arePagesSo 54 = .ok (.iload 5, 2) := by decide +kernel
theorem dL_arePagesSo_56 : decode cL_arePagesSo 56 = .ok (.iload 7, 2) := by decide +kernel
theorem dL_arePagesSo_58 : decode cL_arePagesSo 58 = .ok (.invokevirtual 58, 3) := by decide +kernel
theorem dL_arePagesSo_61 : decode cL_arePagesSo 61 = .ok (.istore 8, 2) := by decide +kernel
theorem dL_arePagesSo_63 : decode cL_arePagesSo 63 = .ok (.iload 8, 2) := by decide +kernel
theorem dL_arePagesSo_65 : decode cL_arePagesSo 65 = .ok (.iload_n 1, 1) := by decide +kernel
theorem dL_arePagesSo_66 : decode cL_arePagesSo 66 = .ok (.if_icmp .le 24, 3) := by decide +kernel
theorem dL_arePagesSo_69 : decode cL_arePagesSo 69 = .ok (.aload_n 0, 1) := by decide +kernel
theorem dL_arePagesSo_70 : decode cL_arePagesSo 70 = .ok (.iload 8, 2) := by decide +kernel
theorem dL_arePagesSo_72 : decode cL_arePagesSo 72 = .ok (.invokevirtual 102, 3) := by decide +kernel
theorem dL_arePagesSo_75 : decode cL_arePagesSo 75 = .ok (.iload 5, 2) := by decide +kernel
theorem dL_arePagesSo_77 : decode cL_arePagesSo 77 = .ok (.if_icmp .ne 13, 3) := by decide +kernel
theorem dL_arePagesSo_80 : decode cL_arePagesSo 80 = .ok (.aload_n 0, 1) := by decide +kernel
theorem dL_arePagesSo_81 : decode cL_arePagesSo 81 = .ok (.iload 8, 2) := by decide +kernel
theorem dL_arePagesSo_83 : decode cL_arePagesSo 83 = .ok (.invokevirtual 105, 3) := by decide +kernel
theorem dL_arePagesSo_86 : decode cL_arePagesSo 86 = .ok (.iconst 1, 1) := by decide +kernel
theorem dL_arePagesSo_87 : decode cL_arePagesSo 87 = .ok (.if_icmp .ge 5, 3) := by decide +kernel
theorem dL_arePagesSo_90 : decode cL_arePagesSo 90 = .ok (.iconst 0, 1) := by decide +kernel
theorem dL_arePagesSo_91 : decode cL_arePagesSo 91 = .ok (.ireturn, 1) := by decide +kernel
theorem dL_arePagesSo_92 : decode cL_arePagesSo 92 = .ok (.iload 8, 2) := by decide +kernel
theorem dL_arePagesSo_94 : decode cL_arePagesSo 94 = .ok (.istore_n 1, 1) := by decide +kernel
theorem dL_arePagesSo_95 : decode cL_arePagesSo 95 = .ok (.iload_n 3, 1) := by decide +kernel
theorem dL_arePagesSo_96 : decode cL_arePagesSo 96 = .ok (.aload_n 0, 1) := by decide +kernel
theorem dL_arePagesSo_97 : decode cL_arePagesSo 97 = .ok (.iload 8, 2) := by decide +kernel
theorem dL_arePagesSo_99 : decode cL_arePagesSo 99 = .ok (.invokevirtual 105, 3) := by decide +kernel
theorem dL_arePagesSo_102 : decode cL_arePagesSo 102 = .ok (.iadd, 1) := by decide +kernel
theorem dL_arePagesSo_103 : decode cL_arePagesSo 103 = .ok (.istore_n 3, 1) := by decide +kernel
theorem dL_arePagesSo_104 : decode cL_arePagesSo 104 = .ok (.iinc 7 1, 3) := by decide +kernel
theorem dL_arePagesSo_107 : decode cL_arePagesSo 107 = .ok (.goto (-61), 3) := by decide +kernel
theorem dL_arePagesSo_110 : decode cL_arePagesSo 110 = .ok (.iload_n 2, 1) := by decide +kernel
theorem dL_arePagesSo_111 : decode cL_arePagesSo 111 = .ok (.iload 6, 2) := by decide +kernel
theorem dL_arePagesSo_113 : decode cL_arePagesSo 113 = .ok (.iadd, 1) := by decide +kernel
theorem dL_arePagesSo_114 : decode cL_arePagesSo 114 = .ok (.istore_n 2, 1) := by decide +kernel
theorem dL_arePagesSo_115 : decode cL_arePagesSo 115 = .ok (.iinc 5 1, 3) := by decide +kernel
theorem dL_arePagesSo_118 : decode cL_arePagesSo 118 = .ok (.goto (-106), 3) := by decide +kernel
theorem dL_arePagesSo_121 : decode cL_arePagesSo 121 = .ok (.iconst 0, 1) := by decide +kernel
theorem dL_arePagesSo_122 : decode cL_arePagesSo 122 = .ok (.istore 5, 2) := by decide +kernel
theorem dL_arePagesSo_124 : decode cL_arePagesSo 124 = .ok (.iload 5, 2) := by decide +kernel
theorem dL_arePagesSo_126 : decode cL_arePagesSo 126 = .ok (.bipush 10, 2) := by decide +kernel
theorem dL_arePagesSo_128 : decode cL_arePagesSo 128 = .ok (.if_icmp .ge 20, 3) := by decide +kernel
theorem dL_arePagesSo_131 : decode cL_arePagesSo 131 = .ok (.iload 4, 2) := by decide +kernel
theorem dL_arePagesSo_133 : decode cL_arePagesSo 133 = .ok (.aload_n 0, 1) := by decide +kernel
theorem dL_arePagesSo_134 : decode cL_arePagesSo 134 = .ok (.iload 5, 2) := by decide +kernel
theorem dL_arePagesSo_136 : decode cL_arePagesSo 136 = .ok (.invokevirtual 108, 3) := by decide +kernel
theorem dL_arePagesSo_139 : decode cL_arePagesSo 139 = .ok (.iadd, 1) := by decide +kernel
theorem dL_arePagesSo_140 : decode cL_arePagesSo 140 = .ok (.istore 4, 2) := by decide +kernel
theorem dL_arePagesSo_142 : decode cL_arePagesSo 142 = .ok (.iinc 5 1, 3) := by decide +kernel
theorem dL_arePagesSo_145 : decode cL_arePagesSo 145 = .ok (.goto (-21), 3) := by decide +kernel
theorem dL_arePagesSo_148 : decode cL_arePagesSo 148 = .ok (.iload_n 2, 1) := by decide +kernel
theorem dL_arePagesSo_149 : decode cL_arePagesSo 149 = .ok (.aload_n 0, 1) := by decide +kernel
theorem dL_arePagesSo_150 : decode cL_arePagesSo 150 = .ok (.invokevirtual 90, 3) := by decide +kernel
theorem dL_arePagesSo_153 : decode cL_arePagesSo 153 = .ok (.if_icmp .ne 37, 3) := by decide +kernel
theorem dL_arePagesSo_156 : decode cL_arePagesSo 156 = .ok (.iload_n 3, 1) := by decide +kernel
theorem dL_arePagesSo_157 : decode cL_arePagesSo 157 = .ok (.iload 4, 2) := by decide +kernel
theorem dL_arePagesSo_159 : decode cL_arePagesSo 159 = .ok (.if_icmp .ne 31, 3) := by decide +kernel
theorem dL_arePagesSo_162 : decode cL_arePagesSo 162 = .ok (.aload_n 0, 1) := by decide +kernel
theorem dL_arePagesSo_163 : decode cL_arePagesSo 163 = .ok (.invokevirtual 46, 3) := by decide +kernel
theorem dL_arePagesSo_166 : decode cL_arePagesSo 166 = .ok (.ifCond .ne 7, 3) := by decide +kernel
theorem dL_arePagesSo_169 : decode cL_arePagesSo 169 = .ok (.iconst 1, 1) := by decide +kernel
theorem dL_arePagesSo_170 : decode cL_arePagesSo 170 = .ok (.goto 4, 3) := by decide +kernel
theorem dL_arePagesSo_173 : decode cL_arePagesSo 173 = .ok (.iconst 0, 1) := by decide +kernel
theorem dL_arePagesSo_174 : decode cL_arePagesSo 174 = .ok (.iload_n 2, 1) := by decide +kernel
theorem dL_arePagesSo_175 : decode cL_arePagesSo 175 = .ok (.ifCond .ne 7, 3) := by decide +kernel
theorem dL_arePagesSo_178 : decode cL_arePagesSo 178 = .ok (.iconst 1, 1) := by decide +kernel
theorem dL_arePagesSo_179 : decode cL_arePagesSo 179 = .ok (.goto 4, 3) := by decide +kernel
theorem dL_arePagesSo_182 : decode cL_arePagesSo 182 = .ok (.iconst 0, 1) := by decide +kernel
theorem dL_arePagesSo_183 : decode cL_arePagesSo 183 = .ok (.if_icmp .ne 7, 3) := by decide +kernel
theorem dL_arePagesSo_186 : decode cL_arePagesSo 186 = .ok (.iconst 1, 1) := by decide +kernel
theorem dL_arePagesSo_187 : decode cL_arePagesSo 187 = .ok (.goto 4, 3) := by decide +kernel
theorem dL_arePagesSo_190 : decode cL_arePagesSo 190 = .ok (.iconst 0, 1) := by decide +kernel
theorem dL_arePagesSo_191 : decode cL_arePagesSo 191 = .ok (.ireturn, 1) := by decide +kernel
set_option maxRecDepth 20000 in
theorem ggL_isWalked_X3_walk : GoodIn wsL_isWalked wsX3_walk := goodIn_ca (goodIn_r _ [5, 6, 7, 8, 9, 10, 11, 4, 12, 13, 14, 15, 16, 17, 18, 19, 20, 21, 22, 23, 24, 25, 26, 27, 28, 29, 66, 67, 68, 69, 70, 71, 72, 73, 74, 75, 76, 77, 78, 79] (by decide +kernel) (by decide +kernel)) (goodIn_sub (fun _ h => List.mem_cons_of_mem _ (List.mem_append_right _ h)) (by decide +kernel))
set_option maxRecDepth 20000 in
theorem gL_isWalked_X3_walk : GoodIn wsL_isWalked (wsV RL 43 RX3 yX3_walk wsX3_walk) := goodIn_app (goodIn_of _ (by decide +kernel)) ggL_isWalked_X3_walk
set_option maxRecDepth 20000 in
theorem ggL_isWalked_X3_records : GoodIn wsL_isWalked wsX3_records := goodIn_r _ [33, 9, 34, 35, 36, 16, 37, 18, 66, 67, 68, 69, 70, 71, 72, 73, 74] (by decide +kernel) (by decide +kernel)
set_option maxRecDepth 20000 in
theorem gL_isWalked_X3_records : GoodIn wsL_isWalked (wsV RL 90 RX3 yX3_records wsX3_records) := goodIn_app (goodIn_of _ (by decide +kernel)) ggL_isWalked_X3_records
set_option maxRecDepth 20000 in
theorem ggL_isWalked_X3_pageOf : GoodIn wsL_isWalked wsX3_pageOf := goodIn_ca (goodIn_r _ [41, 42, 9, 43, 44, 4, 45, 6, 7, 10, 11, 12, 46, 47, 48, 16, 49, 50, 14, 15, 17, 18, 19, 20, 21, 22, 23, 24, 25, 26, 27, 28, 51, 52, 53, 54, 55, 56, 57, 58, 59, 60, 61, 62, 63, 64, 65, 66, 67, 68, 69, 70, 71, 72, 73, 74, 75, 76, 77, 78, 79, 80, 81] (by decide +kernel) (by decide +kernel)) (goodIn_sub (fun _ h => List.mem_cons_of_mem _ (List.mem_append_right _ h)) (by decide +kernel))
set_option maxRecDepth 20000 in
theorem gL_isWalked_X3_pageOf : GoodIn wsL_isWalked (wsV RL 102 RX3 yX3_pageOf wsX3_pageOf) := goodIn_app (goodIn_of _ (by decide +kernel)) ggL_isWalked_X3_pageOf
theorem dL_isWalked_0 : decode cL_isWalked 0 = .ok (.iconst 0, 1) := by decide +kernel
theorem dL_isWalked_1 : decode cL_isWalked 1 = .ok (.istore_n 3, 1) := by decide +kernel
theorem dL_isWalked_2 : decode cL_isWalked 2 = .ok (.iload_n 3, 1) := by decide +kernel
theorem dL_isWalked_3 : decode cL_isWalked 3 = .ok (.bipush 100, 2) := by decide +kernel
theorem dL_isWalked_5 : decode cL_isWalked 5 = .ok (.if_icmp .ge 17, 3) := by decide +kernel
theorem dL_isWalked_8 : decode cL_isWalked 8 = .ok (.aload_n 0, 1) := by decide +kernel
theorem dL_isWalked_9 : decode cL_isWalked 9 = .ok (.iload_n 2, 1) := by decide +kernel
theorem dL_isWalked_10 : decode cL_isWalked 10 = .ok (.invokevirtual 43, 3) := by decide +kernel
theorem dL_isWalked_13 : decode cL_isWalked 13 = .ok (.ifCond .lt 9, 3) := by decide +kernel
theorem dL_isWalked_16 : decode cL_isWalked 16 = .ok (.iinc 3 1, 3) := by decide +kernel
theorem dL_isWalked_19 : decode cL_isWalked 19 = .ok (.goto (-17), 3) := by decide +kernel
theorem dL_isWalked_22 : decode cL_isWalked 22 = .ok (.iconst 0, 1) := by decide +kernel
theorem dL_isWalked_23 : decode cL_isWalked 23 = .ok (.istore 4, 2) := by decide +kernel
theorem dL_isWalked_25 : decode cL_isWalked 25 = .ok (.iload 4, 2) := by decide +kernel
theorem dL_isWalked_27 : decode cL_isWalked 27 = .ok (.iload_n 3, 1) := by decide +kernel
theorem dL_isWalked_28 : decode cL_isWalked 28 = .ok (.if_icmp .gt 16, 3) := by decide +kernel
theorem dL_isWalked_31 : decode cL_isWalked 31 = .ok (.aload_n 1, 1) := by decide +kernel
theorem dL_isWalked_32 : decode cL_isWalked 32 = .ok (.iload_n 2, 1) := by decide +kernel
theorem dL_isWalked_33 : decode cL_isWalked 33 = .ok (.invokevirtual 43, 3) := by decide +kernel
theorem dL_isWalked_36 : decode cL_isWalked 36 = .ok (.istore 5, 2) := by decide +kernel
theorem dL_isWalked_38 : decode cL_isWalked 38 = .ok (.iinc 4 1, 3) := by decide +kernel
theorem dL_isWalked_41 : decode cL_isWalked 41 = .ok (.goto (-16), 3) := by decide +kernel
theorem dL_isWalked_44 : decode cL_isWalked 44 = .ok (.iconst (-1), 1) := by decide +kernel
theorem dL_isWalked_45 : decode cL_isWalked 45 = .ok (.istore 4, 2) := by decide +kernel
theorem dL_isWalked_47 : decode cL_isWalked 47 = .ok (.iconst 0, 1) := by decide +kernel
theorem dL_isWalked_48 : decode cL_isWalked 48 = .ok (.istore 5, 2) := by decide +kernel
theorem dL_isWalked_50 : decode cL_isWalked 50 = .ok (.iload 5, 2) := by decide +kernel
theorem dL_isWalked_52 : decode cL_isWalked 52 = .ok (.aload_n 0, 1) := by decide +kernel
theorem dL_isWalked_53 : decode cL_isWalked 53 = .ok (.invokevirtual 90, 3) := by decide +kernel
theorem dL_isWalked_56 : decode cL_isWalked 56 = .ok (.if_icmp .ge 48, 3) := by decide +kernel
theorem dL_isWalked_59 : decode cL_isWalked 59 = .ok (.aload_n 0, 1) := by decide +kernel
theorem dL_isWalked_60 : decode cL_isWalked 60 = .ok (.iload_n 2, 1) := by decide +kernel
theorem dL_isWalked_61 : decode cL_isWalked 61 = .ok (.invokevirtual 43, 3) := by decide +kernel
theorem dL_isWalked_64 : decode cL_isWalked 64 = .ok (.istore 6, 2) := by decide +kernel
theorem dL_isWalked_66 : decode cL_isWalked 66 = .ok (.iload 6, 2) := by decide +kernel
theorem dL_isWalked_68 : decode cL_isWalked 68 = .ok (.iload 4, 2) := by decide +kernel
theorem dL_isWalked_70 : decode cL_isWalked 70 = .ok (.if_icmp .le 22, 3) := by decide +kernel
theorem dL_isWalked_73 : decode cL_isWalked 73 = .ok (.aload_n 0, 1) := by decide +kernel
theorem dL_isWalked_74 : decode cL_isWalked 74 = .ok (.iload 6, 2) := by decide +kernel
theorem dL_isWalked_76 : decode cL_isWalked 76 = .ok (.invokevirtual 102, 3) := by decide +kernel
theorem dL_isWalked_79 : decode cL_isWalked 79 = .ok (.ifCond .lt 13, 3) := by decide +kernel
theorem dL_isWalked_82 : decode cL_isWalked 82 = .ok (.aload_n 1, 1) := by decide +kernel
theorem dL_isWalked_83 : decode cL_isWalked 83 = .ok (.iload_n 2, 1) := by decide +kernel
theorem dL_isWalked_84 : decode cL_isWalked 84 = .ok (.invokevirtual 43, 3) := by decide +kernel
theorem dL_isWalked_87 : decode cL_isWalked 87 = .ok (.iload 6, 2) := by decide +kernel
theorem dL_isWalked_89 : decode cL_isWalked 89 = .ok (.if_icmp .eq 5, 3) := by decide +kernel
theorem dL_isWalked_92 : decode cL_isWalked 92 = .ok (.iconst 0, 1) := by decide +kernel
theorem dL_isWalked_93 : decode cL_isWalked 93 = .ok (.ireturn, 1) := by decide +kernel
theorem dL_isWalked_94 : decode cL_isWalked 94 = .ok (.iload 6, 2) := by decide +kernel
theorem dL_isWalked_96 : decode cL_isWalked 96 = .ok (.istore 4, 2) := by decide +kernel
theorem dL_isWalked_98 : decode cL_isWalked 98 = .ok (.iinc 5 1, 3) := by decide +kernel
theorem dL_isWalked_101 : decode cL_isWalked 101 = .ok (.goto (-51), 3) := by decide +kernel
theorem dL_isWalked_104 : decode cL_isWalked 104 = .ok (.aload_n 0, 1) := by decide +kernel
theorem dL_isWalked_105 : decode cL_isWalked 105 = .ok (.iload_n 2, 1) := by decide +kernel
theorem dL_isWalked_106 : decode cL_isWalked 106 = .ok (.invokevirtual 43, 3) := by decide +kernel
theorem dL_isWalked_109 : decode cL_isWalked 109 = .ok (.iconst (-1), 1) := by decide +kernel
theorem dL_isWalked_110 : decode cL_isWalked 110 = .ok (.if_icmp .ne 16, 3) := by decide +kernel
theorem dL_isWalked_113 : decode cL_isWalked 113 = .ok (.aload_n 1, 1) := by decide +kernel
theorem dL_isWalked_114 : decode cL_isWalked 114 = .ok (.iload_n 2, 1) := by decide +kernel
theorem dL_isWalked_115 : decode cL_isWalked 115 = .ok (.invokevirtual 43, 3) := by decide +kernel
theorem dL_isWalked_118 : decode cL_isWalked 118 = .ok (.iconst (-1), 1) := by decide +kernel
theorem dL_isWalked_119 : decode cL_isWalked 119 = .ok (.if_icmp .ne 7, 3) := by decide +kernel
theorem dL_isWalked_122 : decode cL_isWalked 122 = .ok (.iconst 1, 1) := by decide +kernel
theorem dL_isWalked_123 : decode cL_isWalked 123 = .ok (.goto 4, 3) := by decide +kernel
theorem dL_isWalked_126 : decode cL_isWalked 126 = .ok (.iconst 0, 1) := by decide +kernel
theorem dL_isWalked_127 : decode cL_isWalked 127 = .ok (.ireturn, 1) := by decide +kernel
set_option maxRecDepth 20000 in
theorem ggL_law_X3_init : GoodIn wsL_law wsX3_init := goodIn_r _ [6, 7, 8, 9, 10, 11, 12, 13, 14, 15, 16, 17, 18, 19, 20, 21, 22, 23, 24, 25, 26, 27, 28, 29, 323, 324, 316, 317, 318, 319, 320, 321, 322, 325, 326] (by decide +kernel) (by decide +kernel)
set_option maxRecDepth 20000 in
theorem gL_law_X3_init : GoodIn wsL_law (wsX3_init) := ggL_law_X3_init
set_option maxRecDepth 20000 in
theorem ggL_law_L_cell : GoodIn wsL_law wsL_cell := goodIn_r _ [33] (by decide +kernel) (by decide +kernel)
set_option maxRecDepth 20000 in
theorem gL_law_L_cell : GoodIn wsL_law (va_wsS RL 112 yL_cell wsL_cell) := goodIn_app (goodIn_of _ (by decide +kernel)) ggL_law_L_cell
set_option maxRecDepth 20000 in
theorem ggL_law_X3_records : GoodIn wsL_law wsX3_records := goodIn_r _ [37, 13, 38, 39, 40, 12, 41, 42, 316, 317, 318, 319, 320, 321, 322, 323, 324] (by decide +kernel) (by decide +kernel)
set_option maxRecDepth 20000 in
theorem gL_law_X3_records : GoodIn wsL_law (wsV RL 90 RX3 yX3_records wsX3_records) := goodIn_app (goodIn_of _ (by decide +kernel)) ggL_law_X3_records
set_option maxRecDepth 20000 in
theorem ggL_law_L_act : GoodIn wsL_law wsL_act := goodIn_ca (goodIn_ca (goodIn_ca (goodIn_r _ [45, 46, 47, 32, 48, 49, 50, 51, 52, 53, 54, 55, 2, 56, 17, 57, 58, 59, 16, 60, 61, 62, 63, 64, 65, 66, 67, 68, 69, 70, 71, 29, 72, 73, 74, 75, 76, 77, 78, 79, 80, 13, 81, 82, 83, 84, 85, 86, 87, 88, 89, 90, 91, 12, 92, 93, 94, 95, 96, 97, 42, 25, 98, 99, 100, 101, 102, 3, 103, 104, 105, 106, 107, 108, 109, 110, 111, 112, 113, 114, 115, 116, 117, 118, 119, 120, 121, 122, 123, 124, 125, 126, 127, 128, 129, 130, 131, 132, 133, 134, 135, 136, 137, 138, 139, 20, 140, 141, 142, 143, 144, 145, 146, 147, 148, 149, 150, 151, 152, 153, 154, 155, 156, 157, 158, 159, 160, 161, 162, 163, 164, 165, 166, 167, 168, 169, 170, 171, 172, 173, 174, 175, 176, 177, 178, 179, 180, 181, 182, 183, 184, 185, 186, 187, 188, 189, 190, 38, 39, 40, 41, 191, 192, 193, 194, 195, 196, 197, 198, 199, 200, 201, 202, 203, 204, 205, 206, 207, 208, 209, 210, 211, 212, 213, 214, 215, 216, 217, 218, 219, 220, 221, 222, 223, 224, 225, 226, 227, 228, 229, 230, 231, 232, 233, 234, 235, 236, 237, 238, 239, 240, 19, 241, 242, 243, 244, 245, 246, 247, 248, 249, 250, 251, 252, 253, 254, 255, 256, 257, 258, 259, 260, 261, 262, 263, 264, 265, 266, 267, 268, 269, 270, 8, 9, 271, 272, 273, 274, 275, 276, 316, 317, 318, 319, 320, 321, 322, 325, 326, 327, 328, 329, 330, 331, 323, 324] (by decide +kernel) (by decide +kernel)) (goodIn_sub (fun _ h => List.mem_append_left _ (List.mem_append_left _ (List.mem_append_right _ h))) (by decide +kernel))) (goodIn_sub (fun _ h => List.mem_append_left _ (List.mem_append_right _ h)) (by decide +kernel))) (goodIn_sub (fun _ h => List.mem_append_right _ h) (by decide +kernel))
set_option maxRecDepth 20000 in
theorem gL_law_L_act : GoodIn wsL_law (va_wsS RL 116 yL_act wsL_act) := goodIn_app (goodIn_of _ (by decide +kernel)) ggL_law_L_act
set_option maxRecDepth 20000 in
theorem ggL_law_L_areAlike : GoodIn wsL_law wsL_areAlike := goodIn_ca (goodIn_r _ [279, 34, 35, 36, 2, 37, 13, 38, 39, 40, 12, 41, 42, 53, 54, 55, 56, 17, 57, 58, 59, 16, 60, 61, 280, 281, 282, 283, 210, 284, 285, 286, 287, 109, 180, 181, 182, 183, 171, 288, 289, 290, 291, 20, 62, 63, 64, 65, 66, 67, 68, 69, 70, 71, 29, 72, 73, 74, 75, 76, 77, 78, 79, 80, 81, 82, 83, 84, 85, 86, 87, 88, 89, 90, 91, 92, 93, 94, 95, 96, 97, 25, 316, 317, 318, 319, 320, 321, 322, 323, 324, 325, 326, 327, 328, 329, 330, 331] (by decide +kernel) (by decide +kernel)) (goodIn_sub (fun _ h => List.mem_append_left _ (List.mem_append_left _ (List.mem_append_right _ h))) (by decide +kernel))
set_option maxRecDepth 20000 in
theorem gL_law_L_areAlike : GoodIn wsL_law (va_wsS RL 119 yL_areAlike wsL_areAlike) := goodIn_app (goodIn_of _ (by decide +kernel)) ggL_law_L_areAlike
set_option maxRecDepth 20000 in
theorem ggL_law_L_arePagesSo : GoodIn wsL_law wsL_arePagesSo := goodIn_ca (goodIn_ca (goodIn_r _ [294, 53, 54, 55, 2, 56, 17, 57, 58, 59, 16, 60, 61, 62, 63, 64, 65, 66, 67, 68, 69, 70, 71, 29, 72, 73, 74, 75, 76, 77, 78, 79, 80, 13, 81, 82, 83, 84, 85, 86, 87, 88, 89, 90, 91, 12, 92, 93, 94, 95, 96, 97, 42, 25, 295, 296, 297, 298, 111, 112, 113, 114, 115, 135, 121, 122, 123, 124, 125, 126, 127, 128, 140, 141, 142, 143, 299, 300, 301, 302, 110, 116, 117, 118, 119, 120, 303, 304, 305, 306, 307, 308, 309, 310, 311, 312, 34, 35, 36, 37, 38, 39, 40, 41, 316, 317, 318, 319, 320, 321, 322, 325, 326, 327, 328, 329, 330, 331, 323, 324] (by decide +kernel) (by decide +kernel)) (goodIn_sub (fun _ h => List.mem_append_left _ (List.mem_append_left _ (List.mem_append_right _ h))) (by decide +kernel))) (goodIn_sub (fun _ h => List.mem_append_right _ h) (by decide +kernel))
set_option maxRecDepth 20000 in
theorem gL_law_L_arePagesSo : GoodIn wsL_law (va_wsS RL 123 yL_arePagesSo wsL_arePagesSo) := goodIn_app (goodIn_of _ (by decide +kernel)) ggL_law_L_arePagesSo
set_option maxRecDepth 20000 in
theorem ggL_law_L_low : GoodIn wsL_law wsL_low := goodIn_r _ [48, 49] (by decide +kernel) (by decide +kernel)
set_option maxRecDepth 20000 in
theorem gL_law_L_low : GoodIn wsL_law (va_wsS RL 50 yL_low wsL_low) := goodIn_app (goodIn_of _ (by decide +kernel)) ggL_law_L_low
set_option maxRecDepth 20000 in
theorem ggL_law_L_isWalked : GoodIn wsL_law wsL_isWalked := goodIn_ca (goodIn_r _ [315, 237, 238, 239, 2, 240, 114, 115, 19, 13, 81, 82, 83, 241, 125, 126, 12, 127, 42, 128, 90, 91, 92, 93, 94, 95, 96, 97, 25, 89, 34, 35, 36, 37, 38, 39, 40, 41, 295, 296, 297, 298, 17, 111, 112, 113, 135, 121, 122, 123, 124, 140, 141, 142, 16, 143, 61, 88, 73, 74, 75, 29, 76, 69, 70, 71, 316, 317, 318, 319, 320, 321, 322, 323, 324, 327, 328, 329, 330, 331, 325, 326] (by decide +kernel) (by decide +kernel)) (goodIn_sub (fun _ h => List.mem_append_right _ h) (by decide +kernel))
set_option maxRecDepth 20000 in
theorem gL_law_L_isWalked : GoodIn wsL_law (va_wsS RL 127 yL_isWalked wsL_isWalked) := goodIn_app (goodIn_of _ (by decide +kernel)) ggL_law_L_isWalked
set_option maxRecDepth 20000 in
theorem ggL_law_X3_sweeping : GoodIn wsL_law wsX3_sweeping := goodIn_r _ [291, 20, 316, 317, 318, 319, 320, 321, 322] (by decide +kernel) (by decide +kernel)
set_option maxRecDepth 20000 in
theorem gL_law_X3_sweeping : GoodIn wsL_law (wsV RL 99 RX3 yX3_sweeping wsX3_sweeping) := goodIn_app (goodIn_of _ (by decide +kernel)) ggL_law_X3_sweeping
set_option maxRecDepth 20000 in
theorem ggL_law_L_sweep : GoodIn wsL_law wsL_sweep := goodIn_ca (goodIn_r _ [217, 102, 3, 218, 219, 220, 2, 221, 107, 108, 20, 316, 317, 318, 319, 320, 321, 322] (by decide +kernel) (by decide +kernel)) (goodIn_sub (fun _ h => List.mem_append_left _ (List.mem_append_right _ h)) (by decide +kernel))
set_option maxRecDepth 20000 in
theorem gL_law_L_sweep : GoodIn wsL_law (va_wsS RL 80 yL_sweep wsL_sweep) := goodIn_app (goodIn_of _ (by decide +kernel)) ggL_law_L_sweep
set_option maxRecDepth 20000 in
theorem ggL_law_X3_step : GoodIn wsL_law wsX3_step := goodIn_ca (goodIn_ca (goodIn_r _ [228, 114, 115, 107, 108, 20, 81, 82, 2, 83, 229, 230, 231, 232, 17, 68, 69, 70, 16, 71, 61, 29, 72, 73, 74, 75, 76, 233, 157, 158, 159, 148, 149, 150, 151, 316, 317, 318, 319, 320, 321, 322, 325, 326] (by decide +kernel) (by decide +kernel)) (goodIn_sub (fun _ h => List.mem_append_right _ h) (by decide +kernel))) (goodIn_sub (fun _ h => List.mem_append_left _ (List.mem_append_right _ h)) (by decide +kernel))
set_option maxRecDepth 20000 in
theorem gL_law_X3_step : GoodIn wsL_law (wsV RL 40 RX3 yX3_step wsX3_step) := goodIn_app (goodIn_of _ (by decide +kernel)) ggL_law_X3_step
set_option maxRecDepth 20000 in
theorem ggL_law_X3_pages : GoodIn wsL_law wsX3_pages := goodIn_r _ [56, 17, 57, 58, 59, 16, 60, 61, 316, 317, 318, 319, 320, 321, 322, 325, 326] (by decide +kernel) (by decide +kernel)
set_option maxRecDepth 20000 in
theorem gL_law_X3_pages : GoodIn wsL_law (wsV RL 46 RX3 yX3_pages wsX3_pages) := goodIn_app (goodIn_of _ (by decide +kernel)) ggL_law_X3_pages
set_option maxRecDepth 20000 in
theorem ggL_law_X3_size : GoodIn wsL_law wsX3_size := goodIn_ca (goodIn_r _ [65, 66, 67, 17, 68, 69, 70, 16, 71, 61, 29, 72, 73, 74, 75, 76, 316, 317, 318, 319, 320, 321, 322, 325, 326] (by decide +kernel) (by decide +kernel)) (goodIn_sub (fun _ h => List.mem_append_left _ (List.mem_append_left _ (List.mem_append_right _ h))) (by decide +kernel))
set_option maxRecDepth 20000 in
theorem gL_law_X3_size : GoodIn wsL_law (wsV RL 55 RX3 yX3_size wsX3_size) := goodIn_app (goodIn_of _ (by decide +kernel)) ggL_law_X3_size
theorem dL_law_0 : decode cL_law 0 = .ok (.new 9, 3) := by decide +kernel
theorem dL_law_3 : decode cL_law 3 = .ok (.dup, 1) := by decide +kernel
theorem dL_law_4 : decode cL_law 4 = .ok (.invokespecial 111, 3) := by decide +kernel
theorem dL_law_7 : decode cL_law 7 = .ok (.astore_n 1, 1) := by decide +kernel
theorem dL_law_8 : decode cL_law 8 = .ok (.new 9, 3) := by decide +kernel
theorem dL_law_11 : decode cL_law 11 = .ok (.dup, 1) := by decide +kernel
theorem dL_law_12 : decode cL_law 12 = .ok (.invokespecial 111, 3) := by decide +kernel
theorem dL_law_15 : decode cL_law 15 = .ok (.astore_n 2, 1) := by decide +kernel
theorem dL_law_16 : decode cL_law 16 = .ok (.iconst 0, 1) := by decide +kernel
theorem dL_law_17 : decode cL_law 17 = .ok (.istore_n 3, 1) := by decide +kernel
theorem dL_law_18 : decode cL_law 18 = .ok (.iconst 0, 1) := by decide +kernel
theorem dL_law_19 : decode cL_law 19 = .ok (.istore 4, 2) := by decide +kernel
theorem dL_law_21 : decode cL_law 21 = .ok (.iload 4, 2) := by decide +kernel
theorem dL_law_23 : decode cL_law 23 = .ok (.bipush 110, 2) := by decide +kernel
theorem dL_law_25 : decode cL_law 25 = .ok (.if_icmp .ge 131, 3) := by decide +kernel
theorem dL_law_28 : decode cL_law 28 = .ok (.aload_n 0, 1) := by decide +kernel
theorem dL_law_29 : decode cL_law 29 = .ok (.iload 4, 2) := by decide +kernel
theorem dL_law_31 : decode cL_law 31 = .ok (.invokestatic 112, 3) := by decide +kernel
theorem dL_law_34 : decode cL_law 34 = .ok (.istore 5, 2) := by decide +kernel
theorem dL_law_36 : decode cL_law 36 = .ok (.aload_n 1, 1) := by decide +kernel
theorem dL_law_37 : decode cL_law 37 = .ok (.invokevirtual 90, 3) := by decide +kernel
theorem dL_law_40 : decode cL_law 40 = .ok (.istore 6, 2) := by decide +kernel
theorem dL_law_42 : decode cL_law 42 = .ok (.aload_n 1, 1) := by decide +kernel
theorem dL_law_43 : decode cL_law 43 = .ok (.iload 5, 2) := by decide +kernel
theorem dL_law_45 : decode cL_law 45 = .ok (.invokestatic 116, 3) := by decide +kernel
theorem dL_law_48 : decode cL_law 48 = .ok (.istore 7, 2) := by decide +kernel
theorem dL_law_50 : decode cL_law 50 = .ok (.iload 7, 2) := by decide +kernel
theorem dL_law_52 : decode cL_law 52 = .ok (.ldc 16, 2) := by decide +kernel
theorem dL_law_54 : decode cL_law 54 = .ok (.if_icmp .eq 14, 3) := by decide +kernel
theorem dL_law_57 : decode cL_law 57 = .ok (.aload_n 2, 1) := by decide +kernel
theorem dL_law_58 : decode cL_law 58 = .ok (.iload 5, 2) := by decide +kernel
theorem dL_law_60 : decode cL_law 60 = .ok (.invokestatic 116, 3) := by decide +kernel
theorem dL_law_63 : decode cL_law 63 = .ok (.iload 7, 2) := by decide +kernel
theorem dL_law_65 : decode cL_law 65 = .ok (.if_icmp .ne 22, 3) := by decide +kernel
theorem dL_law_68 : decode cL_law 68 = .ok (.aload_n 1, 1) := by decide +kernel
theorem dL_law_69 : decode cL_law 69 = .ok (.aload_n 2, 1) := by decide +kernel
theorem dL_law_70 : decode cL_law 70 = .ok (.invokestatic 119, 3) := by decide +kernel
theorem dL_law_73 : decode cL_law 73 = .ok (.ifCond .eq 14, 3) := by decide +kernel
theorem dL_law_76 : decode cL_law 76 = .ok (.aload_n 1, 1) := by decide +kernel
theorem dL_law_77 : decode cL_law 77 = .ok (.invokevirtual 90, 3) := by decide +kernel
theorem dL_law_80 : decode cL_law 80 = .ok (.iload 6, 2) := by decide +kernel
theorem dL_law_82 : decode cL_law 82 = .ok (.iconst 1, 1) := by decide +kernel
theorem dL_law_83 : decode cL_law 83 = .ok (.iadd, 1) := by decide +kernel
theorem dL_law_84 : decode cL_law 84 = .ok (.if_icmp .le 5, 3) := by decide +kernel
theorem dL_law_87 : decode cL_law 87 = .ok (.iconst 0, 1) := by decide +kernel
theorem dL_law_88 : decode cL_law 88 = .ok (.ireturn, 1) := by decide +kernel
theorem dL_law_89 : decode cL_law 89 = .ok (.iload_n 3, 1) := by decide +kernel
theorem dL_law_90 : decode cL_law 90 = .ok (.aload_n 1, 1) := by decide +kernel
theorem dL_law_91 : decode cL_law 91 = .ok (.invokevirtual 90, 3) := by decide +kernel
theorem dL_law_94 : decode cL_law 94 = .ok (.iload 6, 2) := by decide +kernel
theorem dL_law_96 : decode cL_law 96 = .ok (.if_icmp .le 7, 3) := by decide +kernel
theorem dL_law_99 : decode cL_law 99 = .ok (.iconst 1, 1) := by decide +kernel
theorem dL_law_100 : decode cL_law 100 = .ok (.goto 4, 3) := by decide +kernel
theorem dL_law_103 : decode cL_law 103 = .ok (.iconst 0, 1) := by decide +kernel
theorem dL_law_104 : decode cL_law 104 = .ok (.iadd, 1) := by decide +kernel
theorem dL_law_105 : decode cL_law 105 = .ok (.istore_n 3, 1) := by decide +kernel
theorem dL_law_106 : decode cL_law 106 = .ok (.iload 4, 2) := by decide +kernel
theorem dL_law_108 : decode cL_law 108 = .ok (.bipush 6, 2) := by decide +kernel
theorem dL_law_110 : decode cL_law 110 = .ok (.irem, 1) := by decide +kernel
theorem dL_law_111 : decode cL_law 111 = .ok (.iconst 5, 1) := by decide +kernel
theorem dL_law_112 : decode cL_law 112 = .ok (.if_icmp .ne 10, 3) := by decide +kernel
theorem dL_law_115 : decode cL_law 115 = .ok (.aload_n 1, 1) := by decide +kernel
theorem dL_law_116 : decode cL_law 116 = .ok (.invokestatic 123, 3) := by decide +kernel
theorem dL_law_119 : decode cL_law 119 = .ok (.ifCond .eq 29, 3) := by decide +kernel
theorem dL_law_122 : decode cL_law 122 = .ok (.iload 4, 2) := by decide +kernel
theorem dL_law_124 : decode cL_law 124 = .ok (.bipush 30, 2) := by decide +kernel
theorem dL_law_126 : decode cL_law 126 = .ok (.irem, 1) := by decide +kernel
theorem dL_law_127 : decode cL_law 127 = .ok (.bipush 29, 2) := by decide +kernel
theorem dL_law_129 : decode cL_law 129 = .ok (.if_icmp .ne 21, 3) := by decide +kernel
theorem dL_law_132 : decode cL_law 132 = .ok (.aload_n 1, 1) := by decide +kernel
theorem dL_law_133 : decode cL_law 133 = .ok (.aload_n 2, 1) := by decide +kernel
theorem dL_law_134 : decode cL_law 134 = .ok (.iload 5, 2) := by decide +kernel
theorem dL_law_136 : decode cL_law 136 = .ok (.iconst 5, 1) := by decide +kernel
theorem dL_law_137 : decode cL_law 137 = .ok (.ishr, 1) := by decide +kernel
theorem dL_law_138 : decode cL_law 138 = .ok (.iconst 4, 1) := by decide +kernel
theorem dL_law_139 : decode cL_law 139 = .ok (.invokestatic 50, 3) := by decide +kernel
theorem dL_law_142 : decode cL_law 142 = .ok (.invokestatic 127, 3) := by decide +kernel
theorem dL_law_145 : decode cL_law 145 = .ok (.ifCond .ne 5, 3) := by decide +kernel
theorem dL_law_148 : decode cL_law 148 = .ok (.iconst 0, 1) := by decide +kernel
theorem dL_law_149 : decode cL_law 149 = .ok (.ireturn, 1) := by decide +kernel
theorem dL_law_150 : decode cL_law 150 = .ok (.iinc 4 1, 3) := by decide +kernel
theorem dL_law_153 : decode cL_law 153 = .ok (.goto (-132), 3) := by decide +kernel
theorem dL_law_156 : decode cL_law 156 = .ok (.aload_n 1, 1) := by decide +kernel
theorem dL_law_157 : decode cL_law 157 = .ok (.invokevirtual 99, 3) := by decide +kernel
theorem dL_law_160 : decode cL_law 160 = .ok (.istore 4, 2) := by decide +kernel
theorem dL_law_162 : decode cL_law 162 = .ok (.iload 4, 2) := by decide +kernel
theorem dL_law_164 : decode cL_law 164 = .ok (.ifCond .ge 10, 3) := by decide +kernel
theorem dL_law_167 : decode cL_law 167 = .ok (.aload_n 1, 1) := by decide +kernel
theorem dL_law_168 : decode cL_law 168 = .ok (.invokestatic 80, 3) := by decide +kernel
theorem dL_law_171 : decode cL_law 171 = .ok (.goto 4, 3) := by decide +kernel
theorem dL_law_174 : decode cL_law 174 = .ok (.iconst 0, 1) := by decide +kernel
theorem dL_law_175 : decode cL_law 175 = .ok (.istore 5, 2) := by decide +kernel
theorem dL_law_177 : decode cL_law 177 = .ok (.aload_n 1, 1) := by decide +kernel
theorem dL_law_178 : decode cL_law 178 = .ok (.invokevirtual 99, 3) := by decide +kernel
theorem dL_law_181 : decode cL_law 181 = .ok (.istore 6, 2) := by decide +kernel
theorem dL_law_183 : decode cL_law 183 = .ok (.aload_n 1, 1) := by decide +kernel
theorem dL_law_184 : decode cL_law 184 = .ok (.invokevirtual 99, 3) := by decide +kernel
theorem dL_law_187 : decode cL_law 187 = .ok (.ifCond .lt 14, 3) := by decide +kernel
theorem dL_law_190 : decode cL_law 190 = .ok (.aload_n 1, 1) := by decide +kernel
theorem dL_law_191 : decode cL_law 191 = .ok (.bipush 10, 2) := by decide +kernel
theorem dL_law_193 : decode cL_law 193 = .ok (.invokevirtual 40, 3) := by decide +kernel
theorem dL_law_196 : decode cL_law 196 = .ok (.istore 7, 2) := by decide +kernel
theorem dL_law_198 : decode cL_law 198 = .ok (.goto (-15), 3) := by decide +kernel
theorem dL_law_201 : decode cL_law 201 = .ok (.iload 6, 2) := by decide +kernel
theorem dL_law_203 : decode cL_law 203 = .ok (.istore 7, 2) := by decide +kernel
theorem dL_law_205 : decode cL_law 205 = .ok (.iload 7, 2) := by decide +kernel
theorem dL_law_207 : decode cL_law 207 = .ok (.iconst 1, 1) := by decide +kernel
theorem dL_law_208 : decode cL_law 208 = .ok (.iadd, 1) := by decide +kernel
theorem dL_law_209 : decode cL_law 209 = .ok (.aload_n 1, 1) := by decide +kernel
theorem dL_law_210 : decode cL_law 210 = .ok (.invokevirtual 46, 3) := by decide +kernel
theorem dL_law_213 : decode cL_law 213 = .ok (.if_icmp .ge 21, 3) := by decide +kernel
theorem dL_law_216 : decode cL_law 216 = .ok (.aload_n 1, 1) := by decide +kernel
theorem dL_law_217 : decode cL_law 217 = .ok (.iload 7, 2) := by decide +kernel
theorem dL_law_219 : decode cL_law 219 = .ok (.invokevirtual 55, 3) := by decide +kernel
theorem dL_law_222 : decode cL_law 222 = .ok (.iconst 4, 1) := by decide +kernel
theorem dL_law_223 : decode cL_law 223 = .ok (.if_icmp .eq 5, 3) := by decide +kernel
theorem dL_law_226 : decode cL_law 226 = .ok (.iconst 0, 1) := by decide +kernel
theorem dL_law_227 : decode cL_law 227 = .ok (.ireturn, 1) := by decide +kernel
theorem dL_law_228 : decode cL_law 228 = .ok (.iinc 7 1, 3) := by decide +kernel
theorem dL_law_231 : decode cL_law 231 = .ok (.goto (-26), 3) := by decide +kernel
theorem dL_law_234 : decode cL_law 234 = .ok (.iload_n 3, 1) := by decide +kernel
theorem dL_law_235 : decode cL_law 235 = .ok (.aload_n 1, 1) := by decide +kernel
theorem dL_law_236 : decode cL_law 236 = .ok (.invokevirtual 90, 3) := by decide +kernel
theorem dL_law_239 : decode cL_law 239 = .ok (.if_icmp .lt 14, 3) := by decide +kernel
theorem dL_law_242 : decode cL_law 242 = .ok (.aload_n 1, 1) := by decide +kernel
theorem dL_law_243 : decode cL_law 243 = .ok (.invokestatic 123, 3) := by decide +kernel
theorem dL_law_246 : decode cL_law 246 = .ok (.ifCond .eq 7, 3) := by decide +kernel
theorem dL_law_249 : decode cL_law 249 = .ok (.iconst 1, 1) := by decide +kernel
theorem dL_law_250 : decode cL_law 250 = .ok (.goto 4, 3) := by decide +kernel
theorem dL_law_253 : decode cL_law 253 = .ok (.iconst 0, 1) := by decide +kernel
theorem dL_law_254 : decode cL_law 254 = .ok (.ireturn, 1) := by decide +kernel
end
section
/-! ints by their numbers; worlds that are pools; contracts of one shape -/
def iI (z : Int) : Int32 := Int32.ofInt z
theorem iI_toInt {z : Int} (h : -2147483648 ≤ z ∧ z < 2147483648) : (iI z).toInt = z := Int32.toInt_ofInt_of_le (by omega) (by omega)
theorem iI_self (x : Int32) : iI x.toInt = x := Int32.ofInt_toInt x
theorem iI_rg (x : Int32) : -2147483648 ≤ x.toInt ∧ x.toInt < 2147483648 := ⟨by have := Int32.le_toInt x; omega, by have := Int32.toInt_lt x; omega⟩
theorem iI_ex (x : Int32) : ∃ z : Int, x = iI z ∧ -2147483648 ≤ z ∧ z < 2147483648 := ⟨x.toInt, (iI_self x).symm, iI_rg x⟩
theorem iI_add (a b : Int) : iI a + iI b = iI (a + b) := (Int32.ofInt_add a b).symm
theorem iI_sub (a b : Int) : iI a - iI b = iI (a - b) := (Int32.ofInt_sub a b).symm
theorem iI_0 : (0 : Int32) = iI 0 := by decide
theorem iI_lt {a b : Int} (ha : -2147483648 ≤ a ∧ a < 2147483648) (hb : -2147483648 ≤ b ∧ b < 2147483648) : iI a < iI b ↔ a < b := by rw [Int32.lt_iff_toInt_lt, iI_toInt ha, iI_toInt hb]
theorem iI_le {a b : Int} (ha : -2147483648 ≤ a ∧ a < 2147483648) (hb : -2147483648 ≤ b ∧ b < 2147483648) : iI a ≤ iI b ↔ a ≤ b := by rw [Int32.le_iff_toInt_le, iI_toInt ha, iI_toInt hb]
theorem iI_eq {a b : Int} (ha : -2147483648 ≤ a ∧ a < 2147483648) (hb : -2147483648 ≤ b ∧ b < 2147483648) : iI a = iI b ↔ a = b := ⟨fun h => by rw [← iI_toInt ha, ← iI_toInt hb, h], fun h => by rw [h]⟩
theorem iI_in {i : Int} {n : Nat} (h : 0 ≤ i ∧ i < (n : Int)) (hn : n ≤ 1000000) : vp_in (iI i) n := by
  rw [vp_in_iff, iI_toInt (by omega)]; exact h
theorem iI_nat {i : Int} (h : 0 ≤ i ∧ i < 1000000) : ((iI i).toNatClampNeg : Int) = i := by
  show (((iI i).toInt.toNat : Nat) : Int) = i
  rw [iI_toInt (by omega)]; omega
def aI (g : Int → Int) : Nat → Int32 := fun j => iI (g (j : Int))
def aR (g : Int → Option Nat) : Nat → Option Nat := fun j => g (j : Int)
def uI {α : Type} (g : Int → α) (i : Int) (v : α) : Int → α := fun j => if j = i then v else g j
theorem uI_s {α : Type} (g : Int → α) (i : Int) (v : α) : uI g i v i = v := by simp [uI]
theorem uI_n {α : Type} (g : Int → α) {i j : Int} (v : α) (h : j ≠ i) : uI g i v j = g j := by simp [uI, h]
theorem aI_u {g : Int → Int} {i v : Int} (h : 0 ≤ i ∧ i < 1000000) : upd (aI g) (iI i).toNatClampNeg (iI v) = aI (uI g i v) := by
  have e := iI_nat h
  funext j
  by_cases hj : j = (iI i).toNatClampNeg
  · subst hj
    rw [pk_us]; show _ = iI (uI g i v _); rw [e, uI_s]
  · rw [pk_un hj]; show _ = iI (uI g i v _); rw [uI_n _ _ (by omega)]; rfl
theorem aR_u {g : Int → Option Nat} {i : Int} {v : Option Nat} (h : 0 ≤ i ∧ i < 1000000) : va_up (aR g) (iI i).toNatClampNeg v = aR (uI g i v) := by
  have e := iI_nat h
  funext j
  by_cases hj : j = (iI i).toNatClampNeg
  · subst hj
    rw [va_up_self]; show _ = uI g i v _; rw [e, uI_s]
  · rw [va_up_ne _ _ hj]; show _ = uI g i v _; rw [uI_n _ _ (by omega)]; rfl
abbrev ty3 (cs : ClassId × ClassId × ClassId) : List (ClassId × FieldType) := [(cs.1, .int), (cs.2.1, .object RX0)]
def XW (D : va_G) (A : Nat → Prop) (H0 : Heap) (L : List Nat) (f : Nat → va_E) (H : Heap) (locs : List Loc) : Prop := va_P D vwCl (va_pl L f) H ∧ va_D A (va_pl L f) ∧ va_S A H0 H locs
def XX (p : Program) (m : MethodId) (c : Code) (cc : ByteArray) (nL : Nat) (s : State) (args : Array Value) (Ts : List Cond) (own : String) (D : va_G) (cs : ClassId × ClassId × ClassId) : Prop := CallFix p m c cc nL s args Ts own ∧ va_K D vwCl (ty3 cs) s
/-- a field that a method reads: its class's words are among the method's, its link too -/
def XF (Ts : List Cond) (own : String) (index ci k : Nat) : Prop := ∃ (C : String) (T : u_T) (N : Nat), (∀ w ∈ u_ws C T N, w ∈ Ts) ∧ vwCl[ci]? = some (C, T, N) ∧ k < N ∧ Cond.fieldLink own index (T k).1 (T k).2.1 (T k).2.2.1 ∈ Ts
/-- .. and may write -/
def XG (Ts : List Cond) (own : String) (index ci k : Nat) (fin : Bool) (ty : FieldType) : Prop := ∃ (C : String) (T : u_T) (N : Nat) (t0 : Nat → FieldType), (∀ w ∈ u_ws C T N, w ∈ Ts) ∧ vwCl[ci]? = some (C, T, N) ∧ k < N ∧ Cond.fieldLink own index (T k).1 (T k).2.1 (T k).2.2.1 ∈ Ts ∧
  (∀ k, k < N → parseFieldDescriptor (T k).2.2.1 = some (t0 k)) ∧ (∀ a, a < N → ∀ b, b < N → a ≠ b → (T a).2.1 ≠ (T b).2.1) ∧ (T k).2.2.2 = fin ∧ (T k).1 = own ∧ parseFieldDescriptor (T k).2.2.1 = some ty
def XGn (Ts : List Cond) (own : String) (index ci k : Nat) (ty : FieldType) : Prop := ∃ (C : String) (T : u_T) (N : Nat) (t0 : Nat → FieldType), (∀ w ∈ u_ws C T N, w ∈ Ts) ∧ vwCl[ci]? = some (C, T, N) ∧ k < N ∧ Cond.fieldLink own index (T k).1 (T k).2.1 (T k).2.2.1 ∈ Ts ∧
  (∀ k, k < N → parseFieldDescriptor (T k).2.2.1 = some (t0 k)) ∧ (∀ a, a < N → ∀ b, b < N → a ≠ b → (T a).2.1 ≠ (T b).2.1) ∧ (T k).2.2.2 = false ∧ parseFieldDescriptor (T k).2.2.1 = some ty
/-- a callee by name: what its caller has of it -/
def XV (Ts : List Cond) (own : String) (index : Nat) (C : String) (y : MethodName) (bytes : ByteArray) (maxL : Nat) (ret : Option FieldType) (ws : List Cond) (n : Nat) : Prop := GoodIn Ts (wsV own index C y ws) ∧ (∃ ws', ws = Cond.code y bytes maxL ret :: ws') ∧ (y.cls = C ∧ y.cls ≠ "java/lang/invoke/MethodHandle" ∧ y.cls ≠ "java/lang/invoke/VarHandle" ∧ (parseMethodDescriptor y.desc).map (fun d => d.parameters.length) = some n)
def XS (Ts : List Cond) (own : String) (index : Nat) (y : MethodName) (bytes : ByteArray) (maxL : Nat) (ret : Option FieldType) (ws : List Cond) (n : Nat) : Prop := GoodIn Ts (va_wsS own index y ws) ∧ (∃ ws', ws = Cond.code y bytes maxL ret :: ws') ∧ (y.cls ≠ "java/lang/invoke/MethodHandle" ∧ y.cls ≠ "java/lang/invoke/VarHandle" ∧ (parseMethodDescriptor y.desc).map (fun d => d.parameters.length) = some n)
/-! contracts -/
def va_QG {S : Type} (post : Option Value → S → Prop) (B : S → State → Prop) (A : Nat → Prop) : Array Value → State → Outcome → State → Prop := fun _ st oc t => (∃ (v : Option Value) (u : S), oc = .returned v ∧ post v u ∧ B u t) ∧ va_F A st t
def CB (D : va_G) (cs : ClassId × ClassId × ClassId) (A : Nat → Prop) (u : List Nat × (Nat → va_E)) (t : State) : Prop := va_P D vwCl (va_pl u.1 u.2) t.heap ∧ va_K D vwCl (ty3 cs) t ∧ va_D A (va_pl u.1 u.2)
def CQ (D : va_G) (cs : ClassId × ClassId × ClassId) (A : Nat → Prop) (post : Option Value → List Nat → (Nat → va_E) → Prop) : Array Value → State → Outcome → State → Prop := va_QG (fun v (u : List Nat × (Nat → va_E)) => post v u.1 u.2) (CB D cs A) A
def CP (D : va_G) (cs : ClassId × ClassId × ClassId) (args : List Value) (sz : Nat) (L : List Nat) (f : Nat → va_E) : Array Value → State → Prop := va_Pc args (fun U => U.heap.size = sz ∧ va_P D vwCl (va_pl L f) U.heap ∧ va_K D vwCl (ty3 cs) U ∧ va_D (fun _ => True) (va_pl L f))
/-- A CONTRACT: from the pool (L, f), with these arguments, the method answers v and leaves a pool (L', f') with 'post v L' f'' -/
def C0 (l : Launch) (y : MethodName) (ws : List Cond) (rm : Room) (D : va_G) (cs : ClassId × ClassId × ClassId) (args : List Value) (L : List Nat) (f : Nat → va_E) (post : Option Value → List Nat → (Nat → va_E) → Prop) : Prop :=
  ∀ sz : Nat, Met l y ws rm (CP D cs args sz L f) (CQ D cs (va_A (va_pl L f) sz) post) rm.cells rm.slots (va_A (va_pl L f) sz)

section XROWS
variable {p : Program} {l : Launch} {e : Env} {R : Room} {s : State} {m : MethodId} {args : Array Value} {below : List Frame} {meth : Method} {c : Code} {H : Heap} {locs : List Loc} {cells slots : Nat} {Q : State → Prop}
variable {cc : ByteArray} {nL pc : Nat} {ls : Array Slot} {rest : List Value} {Ts : List Cond} {own : String} {D : va_G} {cs : ClassId × ClassId × ClassId} {A : Nat → Prop} {H0 : Heap} {L : List Nat} {f : Nat → va_E} {lv lv' : List (Nat × Value)}

theorem x_iconst (X : XX p m c cc nL s args Ts own D cs) {n : Int} (hdg : decode cc pc = .ok (.iconst n, 1)) (k : W p l e R s m args below meth c H locs cells slots Q (F0 m (pc + 1) ls (.int (iI n) :: rest))) : W p l e R s m args below meth c H locs cells slots Q (F0 m (pc) ls (rest)) := lv_iconst X.1.1 X.1.2.1 hdg rfl k
theorem x_bipush (X : XX p m c cc nL s args Ts own D cs) {n : Int} (hn : (Int8.ofInt n).toInt32 = iI n) (hdg : decode cc pc = .ok (.bipush n, 2)) (k : W p l e R s m args below meth c H locs cells slots Q (F0 m (pc + 2) ls (.int (iI n) :: rest))) : W p l e R s m args below meth c H locs cells slots Q (F0 m (pc) ls (rest)) := lv_bipush X.1.1 X.1.2.1 hdg hn k
theorem x_sipush (X : XX p m c cc nL s args Ts own D cs) {n : Int} (hn : (Int16.ofInt n).toInt32 = iI n) (hdg : decode cc pc = .ok (.sipush n, 3)) (k : W p l e R s m args below meth c H locs cells slots Q (F0 m (pc + 3) ls (.int (iI n) :: rest))) : W p l e R s m args below meth c H locs cells slots Q (F0 m (pc) ls (rest)) := lv_sipush X.1.1 X.1.2.1 hdg hn k
theorem x_null (X : XX p m c cc nL s args Ts own D cs) (hdg : decode cc pc = .ok (.aconst_null, 1)) (k : W p l e R s m args below meth c H locs cells slots Q (F0 m (pc + 1) ls (.null :: rest))) : W p l e R s m args below meth c H locs cells slots Q (F0 m (pc) ls (rest)) := lv_null X.1.1 X.1.2.1 hdg k
theorem x_il_n (X : XX p m c cc nL s args Ts own D cs) {q : Fin 4} {i : Nat} {v : Int32} (hl : lv_has ls nL lv) (j : Nat) (hk : lv[j]? = some (i, .int v)) (hi : (q : Nat) = i) (hdg : decode cc pc = .ok (.iload_n q, 1)) (k : W p l e R s m args below meth c H locs cells slots Q (F0 m (pc + 1) ls (.int v :: rest))) : W p l e R s m args below meth c H locs cells slots Q (F0 m (pc) ls (rest)) := lv_iload_n X.1.1 X.1.2.1 hdg hi (lv_at hl j hk) k
theorem x_il (X : XX p m c cc nL s args Ts own D cs) {i : Nat} {v : Int32} (hl : lv_has ls nL lv) (j : Nat) (hk : lv[j]? = some (i, .int v)) (hdg : decode cc pc = .ok (.iload i, 2)) (k : W p l e R s m args below meth c H locs cells slots Q (F0 m (pc + 2) ls (.int v :: rest))) : W p l e R s m args below meth c H locs cells slots Q (F0 m (pc) ls (rest)) := lv_iload X.1.1 X.1.2.1 hdg (lv_at hl j hk) k
theorem x_al_n (X : XX p m c cc nL s args Ts own D cs) {q : Fin 4} {i : Nat} {v : Nat} (hl : lv_has ls nL lv) (j : Nat) (hk : lv[j]? = some (i, .ref v)) (hi : (q : Nat) = i) (hdg : decode cc pc = .ok (.aload_n q, 1)) (k : W p l e R s m args below meth c H locs cells slots Q (F0 m (pc + 1) ls (.ref v :: rest))) : W p l e R s m args below meth c H locs cells slots Q (F0 m (pc) ls (rest)) := lv_aload_n X.1.1 X.1.2.1 hdg hi (lv_at hl j hk) k
theorem x_al (X : XX p m c cc nL s args Ts own D cs) {i : Nat} {v : Nat} (hl : lv_has ls nL lv) (j : Nat) (hk : lv[j]? = some (i, .ref v)) (hdg : decode cc pc = .ok (.aload i, 2)) (k : W p l e R s m args below meth c H locs cells slots Q (F0 m (pc + 2) ls (.ref v :: rest))) : W p l e R s m args below meth c H locs cells slots Q (F0 m (pc) ls (rest)) := lv_aload X.1.1 X.1.2.1 hdg (lv_at hl j hk) k
theorem x_alN_n (X : XX p m c cc nL s args Ts own D cs) {q : Fin 4} {i : Nat} (hl : lv_has ls nL lv) (j : Nat) (hk : lv[j]? = some (i, .null)) (hi : (q : Nat) = i) (hdg : decode cc pc = .ok (.aload_n q, 1)) (k : W p l e R s m args below meth c H locs cells slots Q (F0 m (pc + 1) ls (.null :: rest))) : W p l e R s m args below meth c H locs cells slots Q (F0 m (pc) ls (rest)) := lv_aload_nN X.1.1 X.1.2.1 hdg hi (lv_at hl j hk) k
theorem x_alN (X : XX p m c cc nL s args Ts own D cs) {i : Nat} (hl : lv_has ls nL lv) (j : Nat) (hk : lv[j]? = some (i, .null)) (hdg : decode cc pc = .ok (.aload i, 2)) (k : W p l e R s m args below meth c H locs cells slots Q (F0 m (pc + 2) ls (.null :: rest))) : W p l e R s m args below meth c H locs cells slots Q (F0 m (pc) ls (rest)) := lv_aloadN X.1.1 X.1.2.1 hdg (lv_at hl j hk) k
theorem x_is_n (X : XX p m c cc nL s args Ts own D cs) {q : Fin 4} {i : Nat} {v : Int32} (hl : lv_has ls nL lv) (hi : (q : Nat) = i) (hn : i < nL) (hf : (i, Value.int v) :: lv.filter (fun q => !(q.1 == i) && !(q.1 + 1 == i && q.2.category == 2)) = lv') (hdg : decode cc pc = .ok (.istore_n q, 1)) (k : ∀ ls : Array Slot, lv_has ls nL lv' → W p l e R s m args below meth c H locs cells slots Q (F0 m (pc + 1) ls (rest))) : W p l e R s m args below meth c H locs cells slots Q (F0 m (pc) ls (.int v :: rest)) := lv_istore_n X.1.1 X.1.2.1 hdg hi hl hn hf k
theorem x_is (X : XX p m c cc nL s args Ts own D cs) {i : Nat} {v : Int32} (hl : lv_has ls nL lv) (hn : i < nL) (hf : (i, Value.int v) :: lv.filter (fun q => !(q.1 == i) && !(q.1 + 1 == i && q.2.category == 2)) = lv') (hdg : decode cc pc = .ok (.istore i, 2)) (k : ∀ ls : Array Slot, lv_has ls nL lv' → W p l e R s m args below meth c H locs cells slots Q (F0 m (pc + 2) ls (rest))) : W p l e R s m args below meth c H locs cells slots Q (F0 m (pc) ls (.int v :: rest)) := lv_istore X.1.1 X.1.2.1 hdg hl hn hf k
theorem x_as_n (X : XX p m c cc nL s args Ts own D cs) {q : Fin 4} {i : Nat} {v : Nat} (hl : lv_has ls nL lv) (hi : (q : Nat) = i) (hn : i < nL) (hf : (i, Value.ref v) :: lv.filter (fun q => !(q.1 == i) && !(q.1 + 1 == i && q.2.category == 2)) = lv') (hdg : decode cc pc = .ok (.astore_n q, 1)) (k : ∀ ls : Array Slot, lv_has ls nL lv' → W p l e R s m args below meth c H locs cells slots Q (F0 m (pc + 1) ls (rest))) : W p l e R s m args below meth c H locs cells slots Q (F0 m (pc) ls (.ref v :: rest)) := lv_astore_n X.1.1 X.1.2.1 hdg hi hl hn hf k
theorem x_as (X : XX p m c cc nL s args Ts own D cs) {i : Nat} {v : Nat} (hl : lv_has ls nL lv) (hn : i < nL) (hf : (i, Value.ref v) :: lv.filter (fun q => !(q.1 == i) && !(q.1 + 1 == i && q.2.category == 2)) = lv') (hdg : decode cc pc = .ok (.astore i, 2)) (k : ∀ ls : Array Slot, lv_has ls nL lv' → W p l e R s m args below meth c H locs cells slots Q (F0 m (pc + 2) ls (rest))) : W p l e R s m args below meth c H locs cells slots Q (F0 m (pc) ls (.ref v :: rest)) := lv_astore X.1.1 X.1.2.1 hdg hl hn hf k
theorem x_asN_n (X : XX p m c cc nL s args Ts own D cs) {q : Fin 4} {i : Nat}  (hl : lv_has ls nL lv) (hi : (q : Nat) = i) (hn : i < nL) (hf : (i, Value.null) :: lv.filter (fun q => !(q.1 == i) && !(q.1 + 1 == i && q.2.category == 2)) = lv') (hdg : decode cc pc = .ok (.astore_n q, 1)) (k : ∀ ls : Array Slot, lv_has ls nL lv' → W p l e R s m args below meth c H locs cells slots Q (F0 m (pc + 1) ls (rest))) : W p l e R s m args below meth c H locs cells slots Q (F0 m (pc) ls (.null :: rest)) := lv_astore_nN X.1.1 X.1.2.1 hdg hi hl hn hf k
theorem x_asN (X : XX p m c cc nL s args Ts own D cs) {i : Nat}  (hl : lv_has ls nL lv) (hn : i < nL) (hf : (i, Value.null) :: lv.filter (fun q => !(q.1 == i) && !(q.1 + 1 == i && q.2.category == 2)) = lv') (hdg : decode cc pc = .ok (.astore i, 2)) (k : ∀ ls : Array Slot, lv_has ls nL lv' → W p l e R s m args below meth c H locs cells slots Q (F0 m (pc + 2) ls (rest))) : W p l e R s m args below meth c H locs cells slots Q (F0 m (pc) ls (.null :: rest)) := lv_astoreN X.1.1 X.1.2.1 hdg hl hn hf k
theorem x_iinc (X : XX p m c cc nL s args Ts own D cs) {i : Nat} {n z : Int} (hl : lv_has ls nL lv) (j : Nat) (hk : lv[j]? = some (i, .int (iI z))) (hn : i < nL) (hf : (i, Value.int (iI (z + n))) :: lv.filter (fun q => !(q.1 == i) && !(q.1 + 1 == i && q.2.category == 2)) = lv') (hdg : decode cc pc = .ok (.iinc i n, 3)) (k : ∀ ls : Array Slot, lv_has ls nL lv' → W p l e R s m args below meth c H locs cells slots Q (F0 m (pc + 3) ls (rest))) : W p l e R s m args below meth c H locs cells slots Q (F0 m (pc) ls (rest)) := lv_iinc X.1.1 X.1.2.1 hdg hl hk (iI_add z n) hn hf k
theorem x_iadd (X : XX p m c cc nL s args Ts own D cs) {a b : Int} (hdg : decode cc pc = .ok (.iadd, 1)) (k : W p l e R s m args below meth c H locs cells slots Q (F0 m (pc + 1) ls (.int (iI (a + b)) :: rest))) : W p l e R s m args below meth c H locs cells slots Q (F0 m (pc) ls (.int (iI b) :: .int (iI a) :: rest)) := lv_iadd X.1.1 X.1.2.1 hdg (by rw [iI_add]; exact k)
theorem x_isub (X : XX p m c cc nL s args Ts own D cs) {a b : Int} (hdg : decode cc pc = .ok (.isub, 1)) (k : W p l e R s m args below meth c H locs cells slots Q (F0 m (pc + 1) ls (.int (iI (a - b)) :: rest))) : W p l e R s m args below meth c H locs cells slots Q (F0 m (pc) ls (.int (iI b) :: .int (iI a) :: rest)) := lv_isub X.1.1 X.1.2.1 hdg (by rw [iI_sub]; exact k)
theorem x_dup (X : XX p m c cc nL s args Ts own D cs) {v : Value} (hv : v.category = 1) (hdg : decode cc pc = .ok (.dup, 1)) (k : W p l e R s m args below meth c H locs cells slots Q (F0 m (pc + 1) ls (v :: v :: rest))) : W p l e R s m args below meth c H locs cells slots Q (F0 m (pc) ls (v :: rest)) := lv_dup X.1.1 X.1.2.1 hdg hv k
theorem x_dup_x1 (X : XX p m c cc nL s args Ts own D cs) {v w : Value} (hv : v.category = 1) (hw : w.category = 1) (hdg : decode cc pc = .ok (.dup_x1, 1)) (k : W p l e R s m args below meth c H locs cells slots Q (F0 m (pc + 1) ls (v :: w :: v :: rest))) : W p l e R s m args below meth c H locs cells slots Q (F0 m (pc) ls (v :: w :: rest)) := lv_dup_x1 X.1.1 X.1.2.1 hdg hv hw k
theorem x_dup_x2 (X : XX p m c cc nL s args Ts own D cs) {v w u : Value} (hv : v.category = 1) (hw : w.category = 1) (hu : u.category = 1) (hdg : decode cc pc = .ok (.dup_x2, 1)) (k : W p l e R s m args below meth c H locs cells slots Q (F0 m (pc + 1) ls (v :: w :: u :: v :: rest))) : W p l e R s m args below meth c H locs cells slots Q (F0 m (pc) ls (v :: w :: u :: rest)) := lv_dup_x2 X.1.1 X.1.2.1 hdg hv hw hu k
theorem x_dup2 (X : XX p m c cc nL s args Ts own D cs) {v w : Value} (hv : v.category = 1) (hw : w.category = 1) (hdg : decode cc pc = .ok (.dup2, 1)) (k : W p l e R s m args below meth c H locs cells slots Q (F0 m (pc + 1) ls (v :: w :: v :: w :: rest))) : W p l e R s m args below meth c H locs cells slots Q (F0 m (pc) ls (v :: w :: rest)) := lv_dup2_11 X.1.1 X.1.2.1 hdg hv hw k
theorem x_pop (X : XX p m c cc nL s args Ts own D cs) {v : Value} (hv : v.category = 1) (hdg : decode cc pc = .ok (.pop, 1)) (k : W p l e R s m args below meth c H locs cells slots Q (F0 m (pc + 1) ls (rest))) : W p l e R s m args below meth c H locs cells slots Q (F0 m (pc) ls (v :: rest)) := lv_pop X.1.1 X.1.2.1 hdg hv k
theorem x_goto (X : XX p m c cc nL s args Ts own D cs) {off : Int} {tgt : Nat} (ht : (pc : Int) + off = (tgt : Int)) (hdg : decode cc pc = .ok (.goto off, 3)) (k : W p l e R s m args below meth c H locs cells slots Q (F0 m (tgt) ls (rest))) : W p l e R s m args below meth c H locs cells slots Q (F0 m (pc) ls (rest)) := lv_goto X.1.1 X.1.2.1 hdg ht k
theorem x_icmp_lt (X : XX p m c cc nL s args Ts own D cs) {a b off : Int} {tgt : Nat} (hr : -2147483648 ≤ a ∧ a < 2147483648 ∧ -2147483648 ≤ b ∧ b < 2147483648) (ht : (pc : Int) + off = (tgt : Int)) (hdg : decode cc pc = .ok (.if_icmp .lt off, 3)) (kt : a < b → W p l e R s m args below meth c H locs cells slots Q (F0 m (tgt) ls (rest))) (kf : b ≤ a → W p l e R s m args below meth c H locs cells slots Q (F0 m (pc + 3) ls (rest))) : W p l e R s m args below meth c H locs cells slots Q (F0 m (pc) ls (.int (iI b) :: .int (iI a) :: rest)) := by
  have ha := And.intro hr.1 hr.2.1
  have hb := hr.2.2
  exact lv_icmp_lt X.1.1 X.1.2.1 hdg ht (fun h => kt ((iI_lt ha hb).mp h)) (fun h => kf (Int.not_lt.mp fun q => h ((iI_lt ha hb).mpr q)))
theorem x_if_lt (X : XX p m c cc nL s args Ts own D cs) {a off : Int} {tgt : Nat} (ha : -2147483648 ≤ a ∧ a < 2147483648) (ht : (pc : Int) + off = (tgt : Int)) (hdg : decode cc pc = .ok (.ifCond .lt off, 3)) (kt : a < 0 → W p l e R s m args below meth c H locs cells slots Q (F0 m (tgt) ls (rest))) (kf : 0 ≤ a → W p l e R s m args below meth c H locs cells slots Q (F0 m (pc + 3) ls (rest))) : W p l e R s m args below meth c H locs cells slots Q (F0 m (pc) ls (.int (iI a) :: rest)) := by
  have hb : -2147483648 ≤ (0 : Int) ∧ (0 : Int) < 2147483648 := by decide
  refine lv_if_lt X.1.1 X.1.2.1 hdg ht ?_ ?_
  · rw [iI_0]; exact fun h => kt ((iI_lt ha hb).mp h)
  · rw [iI_0]; exact fun h => kf (Int.not_lt.mp fun q => h ((iI_lt ha hb).mpr q))
theorem x_ifT_lt (X : XX p m c cc nL s args Ts own D cs) {a off : Int} {tgt : Nat} (ha : -2147483648 ≤ a ∧ a < 2147483648) (h : a < 0) (ht : (pc : Int) + off = (tgt : Int)) (hdg : decode cc pc = .ok (.ifCond .lt off, 3)) (k : W p l e R s m args below meth c H locs cells slots Q (F0 m (tgt) ls (rest))) : W p l e R s m args below meth c H locs cells slots Q (F0 m (pc) ls (.int (iI a) :: rest)) := x_if_lt X ha ht hdg (fun _ => k) (fun q => absurd h (by omega))
theorem x_ifF_lt (X : XX p m c cc nL s args Ts own D cs) {a off : Int} {tgt : Nat} (ha : -2147483648 ≤ a ∧ a < 2147483648) (h : 0 ≤ a) (ht : (pc : Int) + off = (tgt : Int)) (hdg : decode cc pc = .ok (.ifCond .lt off, 3)) (k : W p l e R s m args below meth c H locs cells slots Q (F0 m (pc + 3) ls (rest))) : W p l e R s m args below meth c H locs cells slots Q (F0 m (pc) ls (.int (iI a) :: rest)) := x_if_lt X ha ht hdg (fun q => absurd h (by omega)) (fun _ => k)
theorem x_icmpT_lt (X : XX p m c cc nL s args Ts own D cs) {a b off : Int} {tgt : Nat} (hr : -2147483648 ≤ a ∧ a < 2147483648 ∧ -2147483648 ≤ b ∧ b < 2147483648) (h : a < b) (ht : (pc : Int) + off = (tgt : Int)) (hdg : decode cc pc = .ok (.if_icmp .lt off, 3)) (k : W p l e R s m args below meth c H locs cells slots Q (F0 m (tgt) ls (rest))) : W p l e R s m args below meth c H locs cells slots Q (F0 m (pc) ls (.int (iI b) :: .int (iI a) :: rest)) := x_icmp_lt X hr ht hdg (fun _ => k) (fun q => absurd h (by omega))
theorem x_icmpF_lt (X : XX p m c cc nL s args Ts own D cs) {a b off : Int} {tgt : Nat} (hr : -2147483648 ≤ a ∧ a < 2147483648 ∧ -2147483648 ≤ b ∧ b < 2147483648) (h : b ≤ a) (ht : (pc : Int) + off = (tgt : Int)) (hdg : decode cc pc = .ok (.if_icmp .lt off, 3)) (k : W p l e R s m args below meth c H locs cells slots Q (F0 m (pc + 3) ls (rest))) : W p l e R s m args below meth c H locs cells slots Q (F0 m (pc) ls (.int (iI b) :: .int (iI a) :: rest)) := x_icmp_lt X hr ht hdg (fun q => absurd h (by omega)) (fun _ => k)
theorem x_icmp_ge (X : XX p m c cc nL s args Ts own D cs) {a b off : Int} {tgt : Nat} (hr : -2147483648 ≤ a ∧ a < 2147483648 ∧ -2147483648 ≤ b ∧ b < 2147483648) (ht : (pc : Int) + off = (tgt : Int)) (hdg : decode cc pc = .ok (.if_icmp .ge off, 3)) (kt : b ≤ a → W p l e R s m args below meth c H locs cells slots Q (F0 m (tgt) ls (rest))) (kf : a < b → W p l e R s m args below meth c H locs cells slots Q (F0 m (pc + 3) ls (rest))) : W p l e R s m args below meth c H locs cells slots Q (F0 m (pc) ls (.int (iI b) :: .int (iI a) :: rest)) := by
  have ha := And.intro hr.1 hr.2.1
  have hb := hr.2.2
  exact lv_icmp_ge X.1.1 X.1.2.1 hdg ht (fun h => kt ((iI_le hb ha).mp h)) (fun h => kf (Int.not_le.mp fun q => h ((iI_le hb ha).mpr q)))
theorem x_if_ge (X : XX p m c cc nL s args Ts own D cs) {a off : Int} {tgt : Nat} (ha : -2147483648 ≤ a ∧ a < 2147483648) (ht : (pc : Int) + off = (tgt : Int)) (hdg : decode cc pc = .ok (.ifCond .ge off, 3)) (kt : 0 ≤ a → W p l e R s m args below meth c H locs cells slots Q (F0 m (tgt) ls (rest))) (kf : a < 0 → W p l e R s m args below meth c H locs cells slots Q (F0 m (pc + 3) ls (rest))) : W p l e R s m args below meth c H locs cells slots Q (F0 m (pc) ls (.int (iI a) :: rest)) := by
  have hb : -2147483648 ≤ (0 : Int) ∧ (0 : Int) < 2147483648 := by decide
  refine lv_if_ge X.1.1 X.1.2.1 hdg ht ?_ ?_
  · rw [iI_0]; exact fun h => kt ((iI_le hb ha).mp h)
  · rw [iI_0]; exact fun h => kf (Int.not_le.mp fun q => h ((iI_le hb ha).mpr q))
theorem x_ifT_ge (X : XX p m c cc nL s args Ts own D cs) {a off : Int} {tgt : Nat} (ha : -2147483648 ≤ a ∧ a < 2147483648) (h : 0 ≤ a) (ht : (pc : Int) + off = (tgt : Int)) (hdg : decode cc pc = .ok (.ifCond .ge off, 3)) (k : W p l e R s m args below meth c H locs cells slots Q (F0 m (tgt) ls (rest))) : W p l e R s m args below meth c H locs cells slots Q (F0 m (pc) ls (.int (iI a) :: rest)) := x_if_ge X ha ht hdg (fun _ => k) (fun q => absurd h (by omega))
theorem x_ifF_ge (X : XX p m c cc nL s args Ts own D cs) {a off : Int} {tgt : Nat} (ha : -2147483648 ≤ a ∧ a < 2147483648) (h : a < 0) (ht : (pc : Int) + off = (tgt : Int)) (hdg : decode cc pc = .ok (.ifCond .ge off, 3)) (k : W p l e R s m args below meth c H locs cells slots Q (F0 m (pc + 3) ls (rest))) : W p l e R s m args below meth c H locs cells slots Q (F0 m (pc) ls (.int (iI a) :: rest)) := x_if_ge X ha ht hdg (fun q => absurd h (by omega)) (fun _ => k)
theorem x_icmpT_ge (X : XX p m c cc nL s args Ts own D cs) {a b off : Int} {tgt : Nat} (hr : -2147483648 ≤ a ∧ a < 2147483648 ∧ -2147483648 ≤ b ∧ b < 2147483648) (h : b ≤ a) (ht : (pc : Int) + off = (tgt : Int)) (hdg : decode cc pc = .ok (.if_icmp .ge off, 3)) (k : W p l e R s m args below meth c H locs cells slots Q (F0 m (tgt) ls (rest))) : W p l e R s m args below meth c H locs cells slots Q (F0 m (pc) ls (.int (iI b) :: .int (iI a) :: rest)) := x_icmp_ge X hr ht hdg (fun _ => k) (fun q => absurd h (by omega))
theorem x_icmpF_ge (X : XX p m c cc nL s args Ts own D cs) {a b off : Int} {tgt : Nat} (hr : -2147483648 ≤ a ∧ a < 2147483648 ∧ -2147483648 ≤ b ∧ b < 2147483648) (h : a < b) (ht : (pc : Int) + off = (tgt : Int)) (hdg : decode cc pc = .ok (.if_icmp .ge off, 3)) (k : W p l e R s m args below meth c H locs cells slots Q (F0 m (pc + 3) ls (rest))) : W p l e R s m args below meth c H locs cells slots Q (F0 m (pc) ls (.int (iI b) :: .int (iI a) :: rest)) := x_icmp_ge X hr ht hdg (fun q => absurd h (by omega)) (fun _ => k)
theorem x_icmp_gt (X : XX p m c cc nL s args Ts own D cs) {a b off : Int} {tgt : Nat} (hr : -2147483648 ≤ a ∧ a < 2147483648 ∧ -2147483648 ≤ b ∧ b < 2147483648) (ht : (pc : Int) + off = (tgt : Int)) (hdg : decode cc pc = .ok (.if_icmp .gt off, 3)) (kt : b < a → W p l e R s m args below meth c H locs cells slots Q (F0 m (tgt) ls (rest))) (kf : a ≤ b → W p l e R s m args below meth c H locs cells slots Q (F0 m (pc + 3) ls (rest))) : W p l e R s m args below meth c H locs cells slots Q (F0 m (pc) ls (.int (iI b) :: .int (iI a) :: rest)) := by
  have ha := And.intro hr.1 hr.2.1
  have hb := hr.2.2
  exact lv_icmp_gt X.1.1 X.1.2.1 hdg ht (fun h => kt ((iI_lt hb ha).mp h)) (fun h => kf (Int.not_lt.mp fun q => h ((iI_lt hb ha).mpr q)))
theorem x_if_gt (X : XX p m c cc nL s args Ts own D cs) {a off : Int} {tgt : Nat} (ha : -2147483648 ≤ a ∧ a < 2147483648) (ht : (pc : Int) + off = (tgt : Int)) (hdg : decode cc pc = .ok (.ifCond .gt off, 3)) (kt : 0 < a → W p l e R s m args below meth c H locs cells slots Q (F0 m (tgt) ls (rest))) (kf : a ≤ 0 → W p l e R s m args below meth c H locs cells slots Q (F0 m (pc + 3) ls (rest))) : W p l e R s m args below meth c H locs cells slots Q (F0 m (pc) ls (.int (iI a) :: rest)) := by
  have hb : -2147483648 ≤ (0 : Int) ∧ (0 : Int) < 2147483648 := by decide
  refine lv_if_gt X.1.1 X.1.2.1 hdg ht ?_ ?_
  · rw [iI_0]; exact fun h => kt ((iI_lt hb ha).mp h)
  · rw [iI_0]; exact fun h => kf (Int.not_lt.mp fun q => h ((iI_lt hb ha).mpr q))
theorem x_ifT_gt (X : XX p m c cc nL s args Ts own D cs) {a off : Int} {tgt : Nat} (ha : -2147483648 ≤ a ∧ a < 2147483648) (h : 0 < a) (ht : (pc : Int) + off = (tgt : Int)) (hdg : decode cc pc = .ok (.ifCond .gt off, 3)) (k : W p l e R s m args below meth c H locs cells slots Q (F0 m (tgt) ls (rest))) : W p l e R s m args below meth c H locs cells slots Q (F0 m (pc) ls (.int (iI a) :: rest)) := x_if_gt X ha ht hdg (fun _ => k) (fun q => absurd h (by omega))
theorem x_ifF_gt (X : XX p m c cc nL s args Ts own D cs) {a off : Int} {tgt : Nat} (ha : -2147483648 ≤ a ∧ a < 2147483648) (h : a ≤ 0) (ht : (pc : Int) + off = (tgt : Int)) (hdg : decode cc pc = .ok (.ifCond .gt off, 3)) (k : W p l e R s m args below meth c H locs cells slots Q (F0 m (pc + 3) ls (rest))) : W p l e R s m args below meth c H locs cells slots Q (F0 m (pc) ls (.int (iI a) :: rest)) := x_if_gt X ha ht hdg (fun q => absurd h (by omega)) (fun _ => k)
theorem x_icmpT_gt (X : XX p m c cc nL s args Ts own D cs) {a b off : Int} {tgt : Nat} (hr : -2147483648 ≤ a ∧ a < 2147483648 ∧ -2147483648 ≤ b ∧ b < 2147483648) (h : b < a) (ht : (pc : Int) + off = (tgt : Int)) (hdg : decode cc pc = .ok (.if_icmp .gt off, 3)) (k : W p l e R s m args below meth c H locs cells slots Q (F0 m (tgt) ls (rest))) : W p l e R s m args below meth c H locs cells slots Q (F0 m (pc) ls (.int (iI b) :: .int (iI a) :: rest)) := x_icmp_gt X hr ht hdg (fun _ => k) (fun q => absurd h (by omega))
theorem x_icmpF_gt (X : XX p m c cc nL s args Ts own D cs) {a b off : Int} {tgt : Nat} (hr : -2147483648 ≤ a ∧ a < 2147483648 ∧ -2147483648 ≤ b ∧ b < 2147483648) (h : a ≤ b) (ht : (pc : Int) + off = (tgt : Int)) (hdg : decode cc pc = .ok (.if_icmp .gt off, 3)) (k : W p l e R s m args below meth c H locs cells slots Q (F0 m (pc + 3) ls (rest))) : W p l e R s m args below meth c H locs cells slots Q (F0 m (pc) ls (.int (iI b) :: .int (iI a) :: rest)) := x_icmp_gt X hr ht hdg (fun q => absurd h (by omega)) (fun _ => k)
theorem x_icmp_le (X : XX p m c cc nL s args Ts own D cs) {a b off : Int} {tgt : Nat} (hr : -2147483648 ≤ a ∧ a < 2147483648 ∧ -2147483648 ≤ b ∧ b < 2147483648) (ht : (pc : Int) + off = (tgt : Int)) (hdg : decode cc pc = .ok (.if_icmp .le off, 3)) (kt : a ≤ b → W p l e R s m args below meth c H locs cells slots Q (F0 m (tgt) ls (rest))) (kf : b < a → W p l e R s m args below meth c H locs cells slots Q (F0 m (pc + 3) ls (rest))) : W p l e R s m args below meth c H locs cells slots Q (F0 m (pc) ls (.int (iI b) :: .int (iI a) :: rest)) := by
  have ha := And.intro hr.1 hr.2.1
  have hb := hr.2.2
  exact lv_icmp_le X.1.1 X.1.2.1 hdg ht (fun h => kt ((iI_le ha hb).mp h)) (fun h => kf (Int.not_le.mp fun q => h ((iI_le ha hb).mpr q)))
theorem x_if_le (X : XX p m c cc nL s args Ts own D cs) {a off : Int} {tgt : Nat} (ha : -2147483648 ≤ a ∧ a < 2147483648) (ht : (pc : Int) + off = (tgt : Int)) (hdg : decode cc pc = .ok (.ifCond .le off, 3)) (kt : a ≤ 0 → W p l e R s m args below meth c H locs cells slots Q (F0 m (tgt) ls (rest))) (kf : 0 < a → W p l e R s m args below meth c H locs cells slots Q (F0 m (pc + 3) ls (rest))) : W p l e R s m args below meth c H locs cells slots Q (F0 m (pc) ls (.int (iI a) :: rest)) := by
  have hb : -2147483648 ≤ (0 : Int) ∧ (0 : Int) < 2147483648 := by decide
  refine lv_if_le X.1.1 X.1.2.1 hdg ht ?_ ?_
  · rw [iI_0]; exact fun h => kt ((iI_le ha hb).mp h)
  · rw [iI_0]; exact fun h => kf (Int.not_le.mp fun q => h ((iI_le ha hb).mpr q))
theorem x_ifT_le (X : XX p m c cc nL s args Ts own D cs) {a off : Int} {tgt : Nat} (ha : -2147483648 ≤ a ∧ a < 2147483648) (h : a ≤ 0) (ht : (pc : Int) + off = (tgt : Int)) (hdg : decode cc pc = .ok (.ifCond .le off, 3)) (k : W p l e R s m args below meth c H locs cells slots Q (F0 m (tgt) ls (rest))) : W p l e R s m args below meth c H locs cells slots Q (F0 m (pc) ls (.int (iI a) :: rest)) := x_if_le X ha ht hdg (fun _ => k) (fun q => absurd h (by omega))
theorem x_ifF_le (X : XX p m c cc nL s args Ts own D cs) {a off : Int} {tgt : Nat} (ha : -2147483648 ≤ a ∧ a < 2147483648) (h : 0 < a) (ht : (pc : Int) + off = (tgt : Int)) (hdg : decode cc pc = .ok (.ifCond .le off, 3)) (k : W p l e R s m args below meth c H locs cells slots Q (F0 m (pc + 3) ls (rest))) : W p l e R s m args below meth c H locs cells slots Q (F0 m (pc) ls (.int (iI a) :: rest)) := x_if_le X ha ht hdg (fun q => absurd h (by omega)) (fun _ => k)
theorem x_icmpT_le (X : XX p m c cc nL s args Ts own D cs) {a b off : Int} {tgt : Nat} (hr : -2147483648 ≤ a ∧ a < 2147483648 ∧ -2147483648 ≤ b ∧ b < 2147483648) (h : a ≤ b) (ht : (pc : Int) + off = (tgt : Int)) (hdg : decode cc pc = .ok (.if_icmp .le off, 3)) (k : W p l e R s m args below meth c H locs cells slots Q (F0 m (tgt) ls (rest))) : W p l e R s m args below meth c H locs cells slots Q (F0 m (pc) ls (.int (iI b) :: .int (iI a) :: rest)) := x_icmp_le X hr ht hdg (fun _ => k) (fun q => absurd h (by omega))
theorem x_icmpF_le (X : XX p m c cc nL s args Ts own D cs) {a b off : Int} {tgt : Nat} (hr : -2147483648 ≤ a ∧ a < 2147483648 ∧ -2147483648 ≤ b ∧ b < 2147483648) (h : b < a) (ht : (pc : Int) + off = (tgt : Int)) (hdg : decode cc pc = .ok (.if_icmp .le off, 3)) (k : W p l e R s m args below meth c H locs cells slots Q (F0 m (pc + 3) ls (rest))) : W p l e R s m args below meth c H locs cells slots Q (F0 m (pc) ls (.int (iI b) :: .int (iI a) :: rest)) := x_icmp_le X hr ht hdg (fun q => absurd h (by omega)) (fun _ => k)
theorem x_icmp_eq (X : XX p m c cc nL s args Ts own D cs) {a b off : Int} {tgt : Nat} (hr : -2147483648 ≤ a ∧ a < 2147483648 ∧ -2147483648 ≤ b ∧ b < 2147483648) (ht : (pc : Int) + off = (tgt : Int)) (hdg : decode cc pc = .ok (.if_icmp .eq off, 3)) (kt : a = b → W p l e R s m args below meth c H locs cells slots Q (F0 m (tgt) ls (rest))) (kf : a ≠ b → W p l e R s m args below meth c H locs cells slots Q (F0 m (pc + 3) ls (rest))) : W p l e R s m args below meth c H locs cells slots Q (F0 m (pc) ls (.int (iI b) :: .int (iI a) :: rest)) := by
  have ha := And.intro hr.1 hr.2.1
  have hb := hr.2.2
  exact lv_icmp_eq X.1.1 X.1.2.1 hdg ht (fun h => kt ((iI_eq ha hb).mp h)) (fun h => kf fun q => h ((iI_eq ha hb).mpr q))
theorem x_if_eq (X : XX p m c cc nL s args Ts own D cs) {a off : Int} {tgt : Nat} (ha : -2147483648 ≤ a ∧ a < 2147483648) (ht : (pc : Int) + off = (tgt : Int)) (hdg : decode cc pc = .ok (.ifCond .eq off, 3)) (kt : a = 0 → W p l e R s m args below meth c H locs cells slots Q (F0 m (tgt) ls (rest))) (kf : a ≠ 0 → W p l e R s m args below meth c H locs cells slots Q (F0 m (pc + 3) ls (rest))) : W p l e R s m args below meth c H locs cells slots Q (F0 m (pc) ls (.int (iI a) :: rest)) := by
  have hb : -2147483648 ≤ (0 : Int) ∧ (0 : Int) < 2147483648 := by decide
  refine lv_if_eq X.1.1 X.1.2.1 hdg ht ?_ ?_
  · rw [iI_0]; exact fun h => kt ((iI_eq ha hb).mp h)
  · rw [iI_0]; exact fun h => kf fun q => h ((iI_eq ha hb).mpr q)
theorem x_ifT_eq (X : XX p m c cc nL s args Ts own D cs) {a off : Int} {tgt : Nat} (ha : -2147483648 ≤ a ∧ a < 2147483648) (h : a = 0) (ht : (pc : Int) + off = (tgt : Int)) (hdg : decode cc pc = .ok (.ifCond .eq off, 3)) (k : W p l e R s m args below meth c H locs cells slots Q (F0 m (tgt) ls (rest))) : W p l e R s m args below meth c H locs cells slots Q (F0 m (pc) ls (.int (iI a) :: rest)) := x_if_eq X ha ht hdg (fun _ => k) (fun q => absurd h (by omega))
theorem x_ifF_eq (X : XX p m c cc nL s args Ts own D cs) {a off : Int} {tgt : Nat} (ha : -2147483648 ≤ a ∧ a < 2147483648) (h : a ≠ 0) (ht : (pc : Int) + off = (tgt : Int)) (hdg : decode cc pc = .ok (.ifCond .eq off, 3)) (k : W p l e R s m args below meth c H locs cells slots Q (F0 m (pc + 3) ls (rest))) : W p l e R s m args below meth c H locs cells slots Q (F0 m (pc) ls (.int (iI a) :: rest)) := x_if_eq X ha ht hdg (fun q => absurd h (by omega)) (fun _ => k)
theorem x_icmpT_eq (X : XX p m c cc nL s args Ts own D cs) {a b off : Int} {tgt : Nat} (hr : -2147483648 ≤ a ∧ a < 2147483648 ∧ -2147483648 ≤ b ∧ b < 2147483648) (h : a = b) (ht : (pc : Int) + off = (tgt : Int)) (hdg : decode cc pc = .ok (.if_icmp .eq off, 3)) (k : W p l e R s m args below meth c H locs cells slots Q (F0 m (tgt) ls (rest))) : W p l e R s m args below meth c H locs cells slots Q (F0 m (pc) ls (.int (iI b) :: .int (iI a) :: rest)) := x_icmp_eq X hr ht hdg (fun _ => k) (fun q => absurd h (by omega))
theorem x_icmpF_eq (X : XX p m c cc nL s args Ts own D cs) {a b off : Int} {tgt : Nat} (hr : -2147483648 ≤ a ∧ a < 2147483648 ∧ -2147483648 ≤ b ∧ b < 2147483648) (h : a ≠ b) (ht : (pc : Int) + off = (tgt : Int)) (hdg : decode cc pc = .ok (.if_icmp .eq off, 3)) (k : W p l e R s m args below meth c H locs cells slots Q (F0 m (pc + 3) ls (rest))) : W p l e R s m args below meth c H locs cells slots Q (F0 m (pc) ls (.int (iI b) :: .int (iI a) :: rest)) := x_icmp_eq X hr ht hdg (fun q => absurd h (by omega)) (fun _ => k)
theorem x_icmp_ne (X : XX p m c cc nL s args Ts own D cs) {a b off : Int} {tgt : Nat} (hr : -2147483648 ≤ a ∧ a < 2147483648 ∧ -2147483648 ≤ b ∧ b < 2147483648) (ht : (pc : Int) + off = (tgt : Int)) (hdg : decode cc pc = .ok (.if_icmp .ne off, 3)) (kt : a ≠ b → W p l e R s m args below meth c H locs cells slots Q (F0 m (tgt) ls (rest))) (kf : a = b → W p l e R s m args below meth c H locs cells slots Q (F0 m (pc + 3) ls (rest))) : W p l e R s m args below meth c H locs cells slots Q (F0 m (pc) ls (.int (iI b) :: .int (iI a) :: rest)) := by
  have ha := And.intro hr.1 hr.2.1
  have hb := hr.2.2
  exact lv_icmp_ne X.1.1 X.1.2.1 hdg ht (fun h => kt fun q => h ((iI_eq ha hb).mpr q)) (fun h => kf ((iI_eq ha hb).mp h))
theorem x_if_ne (X : XX p m c cc nL s args Ts own D cs) {a off : Int} {tgt : Nat} (ha : -2147483648 ≤ a ∧ a < 2147483648) (ht : (pc : Int) + off = (tgt : Int)) (hdg : decode cc pc = .ok (.ifCond .ne off, 3)) (kt : a ≠ 0 → W p l e R s m args below meth c H locs cells slots Q (F0 m (tgt) ls (rest))) (kf : a = 0 → W p l e R s m args below meth c H locs cells slots Q (F0 m (pc + 3) ls (rest))) : W p l e R s m args below meth c H locs cells slots Q (F0 m (pc) ls (.int (iI a) :: rest)) := by
  have hb : -2147483648 ≤ (0 : Int) ∧ (0 : Int) < 2147483648 := by decide
  refine lv_if_ne X.1.1 X.1.2.1 hdg ht ?_ ?_
  · rw [iI_0]; exact fun h => kt fun q => h ((iI_eq ha hb).mpr q)
  · rw [iI_0]; exact fun h => kf ((iI_eq ha hb).mp h)
theorem x_ifT_ne (X : XX p m c cc nL s args Ts own D cs) {a off : Int} {tgt : Nat} (ha : -2147483648 ≤ a ∧ a < 2147483648) (h : a ≠ 0) (ht : (pc : Int) + off = (tgt : Int)) (hdg : decode cc pc = .ok (.ifCond .ne off, 3)) (k : W p l e R s m args below meth c H locs cells slots Q (F0 m (tgt) ls (rest))) : W p l e R s m args below meth c H locs cells slots Q (F0 m (pc) ls (.int (iI a) :: rest)) := x_if_ne X ha ht hdg (fun _ => k) (fun q => absurd h (by omega))
theorem x_ifF_ne (X : XX p m c cc nL s args Ts own D cs) {a off : Int} {tgt : Nat} (ha : -2147483648 ≤ a ∧ a < 2147483648) (h : a = 0) (ht : (pc : Int) + off = (tgt : Int)) (hdg : decode cc pc = .ok (.ifCond .ne off, 3)) (k : W p l e R s m args below meth c H locs cells slots Q (F0 m (pc + 3) ls (rest))) : W p l e R s m args below meth c H locs cells slots Q (F0 m (pc) ls (.int (iI a) :: rest)) := x_if_ne X ha ht hdg (fun q => absurd h (by omega)) (fun _ => k)
theorem x_icmpT_ne (X : XX p m c cc nL s args Ts own D cs) {a b off : Int} {tgt : Nat} (hr : -2147483648 ≤ a ∧ a < 2147483648 ∧ -2147483648 ≤ b ∧ b < 2147483648) (h : a ≠ b) (ht : (pc : Int) + off = (tgt : Int)) (hdg : decode cc pc = .ok (.if_icmp .ne off, 3)) (k : W p l e R s m args below meth c H locs cells slots Q (F0 m (tgt) ls (rest))) : W p l e R s m args below meth c H locs cells slots Q (F0 m (pc) ls (.int (iI b) :: .int (iI a) :: rest)) := x_icmp_ne X hr ht hdg (fun _ => k) (fun q => absurd h (by omega))
theorem x_icmpF_ne (X : XX p m c cc nL s args Ts own D cs) {a b off : Int} {tgt : Nat} (hr : -2147483648 ≤ a ∧ a < 2147483648 ∧ -2147483648 ≤ b ∧ b < 2147483648) (h : a = b) (ht : (pc : Int) + off = (tgt : Int)) (hdg : decode cc pc = .ok (.if_icmp .ne off, 3)) (k : W p l e R s m args below meth c H locs cells slots Q (F0 m (pc + 3) ls (rest))) : W p l e R s m args below meth c H locs cells slots Q (F0 m (pc) ls (.int (iI b) :: .int (iI a) :: rest)) := x_icmp_ne X hr ht hdg (fun q => absurd h (by omega)) (fun _ => k)
theorem x_ifnull_r (X : XX p m c cc nL s args Ts own D cs) {v : Nat} {off : Int} (hdg : decode cc pc = .ok (.ifnull off, 3)) (k : W p l e R s m args below meth c H locs cells slots Q (F0 m (pc + 3) ls (rest))) : W p l e R s m args below meth c H locs cells slots Q (F0 m (pc) ls (.ref v :: rest)) := lv_ifnull X.1.1 X.1.2.1 hdg k
theorem x_ifnull_n (X : XX p m c cc nL s args Ts own D cs) {off : Int} {tgt : Nat} (ht : (pc : Int) + off = (tgt : Int)) (hdg : decode cc pc = .ok (.ifnull off, 3)) (k : W p l e R s m args below meth c H locs cells slots Q (F0 m (tgt) ls (rest))) : W p l e R s m args below meth c H locs cells slots Q (F0 m (pc) ls (.null :: rest)) := lv_ifnullN X.1.1 X.1.2.1 hdg ht k
theorem x_ifnonnull_r (X : XX p m c cc nL s args Ts own D cs) {v : Nat} {off : Int} {tgt : Nat} (ht : (pc : Int) + off = (tgt : Int)) (hdg : decode cc pc = .ok (.ifnonnull off, 3)) (k : W p l e R s m args below meth c H locs cells slots Q (F0 m (tgt) ls (rest))) : W p l e R s m args below meth c H locs cells slots Q (F0 m (pc) ls (.ref v :: rest)) := lv_ifnonnull X.1.1 X.1.2.1 hdg ht k
theorem x_ifnonnull_n (X : XX p m c cc nL s args Ts own D cs) {off : Int} (hdg : decode cc pc = .ok (.ifnonnull off, 3)) (k : W p l e R s m args below meth c H locs cells slots Q (F0 m (pc + 3) ls (rest))) : W p l e R s m args below meth c H locs cells slots Q (F0 m (pc) ls (.null :: rest)) := lv_ifnonnullN X.1.1 X.1.2.1 hdg k
theorem xw_at (hf9 : f = f) {a : Nat} {e9 : va_E} (ha : a ∈ L) (hf : f a = e9) : ∃ q : Nat, (va_pl L f)[q]? = some (a, e9) := by
  obtain ⟨q, hq⟩ := va_pl_get (X := []) (f := f) ha
  rw [List.nil_append, hf] at hq
  exact ⟨q, hq⟩
theorem xw_set {a q : Nat} {e0 e1 : va_E} (hD : va_D A (va_pl L f)) (ha : a ∈ L) (hf : f a = e0) (hq : (va_pl L f)[q]? = some (a, e0)) : (va_pl L f).set q (a, e1) = va_pl L (va_up f a e1) := by
  have h := va_pl_set (X := []) (e := e1) (k := q) (by rw [List.nil_append]; exact hD) ha (by rw [List.nil_append, hf]; exact hq)
  rw [List.nil_append, List.nil_append] at h
  exact h
theorem x_get (X : XX p m c cc nL s args Ts own D cs) (w : XW D A H0 L f H locs) {a ci k index : Nat} {fs : List Value} {v : Value} (ha : a ∈ L) (hf : f a = .inr (ci, fs)) (hx : XF Ts own index ci k) (hv : fs[k]? = some v) (hdg : decode cc pc = .ok (.getfield index, 3)) (kk : W p l e R s m args below meth c H locs cells slots Q (F0 m (pc + 3) ls (v :: rest))) : W p l e R s m args below meth c H locs cells slots Q (F0 m (pc) ls (.ref a :: rest)) := by
  obtain ⟨q, hq⟩ := xw_at rfl ha hf
  obtain ⟨C, T, N, h1, h2, h3, h4⟩ := hx
  exact va_get X.1.1 X.1.2.1 X.1.2.2.2.2 h1 X.1.2.2.2.1 X.2 w.1 q hq h2 k h3 (X.1.2.2.2.2 _ h4) (fun _ h => h) hv hdg kk
theorem x_put (X : XX p m c cc nL s args Ts own D cs) (w : XW D A H0 L f H locs) {a ci k index : Nat} {fs fs1 : List Value} {v : Value} {ty : FieldType} (ha : a ∈ L) (hf : f a = .inr (ci, fs)) (hx : XGn Ts own index ci k ty) (hn : narrow ty v = v) (hfit : fits ty v = true) (hl : k < fs.length) (h1 : fs.set k v = fs1) (hdg : decode cc pc = .ok (.putfield index, 3)) (kk : ∀ (H1 : Heap) (locs1 : List Loc), XW D A H0 L (va_up f a (.inr (ci, fs1))) H1 locs1 → W p l e R s m args below meth c H1 locs1 cells slots Q (F0 m (pc + 3) ls (rest))) : W p l e R s m args below meth c H locs cells slots Q (F0 m (pc) ls (v :: .ref a :: rest)) := by
  subst h1
  obtain ⟨q, hq⟩ := xw_at rfl ha hf
  obtain ⟨C, T, N, t0, h1, h2, h3, h4, h5, h6, h7, h9⟩ := hx
  refine va_put X.1.1 X.1.2.1 X.1.2.2.2.2 h1 t0 h5 h6 X.1.2.2.2.1 X.2 w.1 w.2.1 w.2.2 q hq h2 k h3 (X.1.2.2.2.2 _ h4) (fun _ h => h) h7 h9 hn hfit hl hdg (fun H1 locs1 hP hD hS => ?_)
  rw [xw_set w.2.1 ha hf hq] at hP hD
  exact kk H1 locs1 ⟨hP, hD, hS⟩
theorem x_putF (X : XX p m c cc nL s args Ts own D cs) (w : XW D A H0 L f H locs) {a ci k index : Nat} {fs fs1 : List Value} {v : Value} {ty : FieldType} (ha : a ∈ L) (hf : f a = .inr (ci, fs)) (hx : XG Ts own index ci k true ty) (hin : meth.name = "<init>") (hn : narrow ty v = v) (hfit : fits ty v = true) (hl : k < fs.length) (h1 : fs.set k v = fs1) (hdg : decode cc pc = .ok (.putfield index, 3)) (kk : ∀ (H1 : Heap) (locs1 : List Loc), XW D A H0 L (va_up f a (.inr (ci, fs1))) H1 locs1 → W p l e R s m args below meth c H1 locs1 cells slots Q (F0 m (pc + 3) ls (rest))) : W p l e R s m args below meth c H locs cells slots Q (F0 m (pc) ls (v :: .ref a :: rest)) := by
  subst h1
  obtain ⟨q, hq⟩ := xw_at rfl ha hf
  obtain ⟨C, T, N, t0, h1, h2, h3, h4, h5, h6, h7, h8, h9⟩ := hx
  refine va_putF X.1.1 X.1.2.1 X.1.2.2.2.2 h1 t0 h5 h6 X.1.2.2.2.1 X.2 w.1 w.2.1 w.2.2 q hq h2 k h3 (X.1.2.2.2.2 _ h4) (fun _ h => h) h7 hin h8 h9 hn hfit hl hdg (fun H1 locs1 hP hD hS => ?_)
  rw [xw_set w.2.1 ha hf hq] at hP hD
  exact kk H1 locs1 ⟨hP, hD, hS⟩
theorem x_iald (X : XX p m c cc nL s args Ts own D cs) (w : XW D A H0 L f H locs) {a n : Nat} {i : Int} {g : Int → Int} (ha : a ∈ L) (hf : f a = .inl (cs.1, n, .inl (aI g))) (hi : 0 ≤ i ∧ i < (n : Int) ∧ n ≤ 1000000) (hdg : decode cc pc = .ok (.iaload, 1)) (kk : W p l e R s m args below meth c H locs cells slots Q (F0 m (pc + 1) ls (.int (iI (g i)) :: rest))) : W p l e R s m args below meth c H locs cells slots Q (F0 m (pc) ls (.int (iI i) :: .ref a :: rest)) := by
  obtain ⟨q, hq⟩ := xw_at rfl ha hf
  refine va_iald X.1.1 X.1.2.1 X.2 w.1 q 0 hq rfl (iI_in ⟨hi.1, hi.2.1⟩ hi.2.2) hdg ?_
  show W p l e R s m args below meth c H locs cells slots Q (F0 m (pc + 1) ls (.int (iI (g ((iI i).toNatClampNeg : Int))) :: rest))
  rw [iI_nat (by omega)]
  exact kk
theorem x_iast (X : XX p m c cc nL s args Ts own D cs) (w : XW D A H0 L f H locs) {a n : Nat} {i v : Int} {g : Int → Int} (ha : a ∈ L) (hf : f a = .inl (cs.1, n, .inl (aI g))) (hi : 0 ≤ i ∧ i < (n : Int) ∧ n ≤ 1000000) (hdg : decode cc pc = .ok (.iastore, 1)) (kk : ∀ (H1 : Heap) (locs1 : List Loc), XW D A H0 L (va_up f a (.inl (cs.1, n, .inl (aI (uI g i v))))) H1 locs1 → W p l e R s m args below meth c H1 locs1 cells slots Q (F0 m (pc + 1) ls (rest))) : W p l e R s m args below meth c H locs cells slots Q (F0 m (pc) ls (.int (iI v) :: .int (iI i) :: .ref a :: rest)) := by
  obtain ⟨q, hq⟩ := xw_at rfl ha hf
  refine va_iast X.1.1 X.1.2.1 X.2 w.1 w.2.1 w.2.2 q 0 hq rfl (iI_in ⟨hi.1, hi.2.1⟩ hi.2.2) hdg (fun H1 locs1 hP hD hS => ?_)
  rw [xw_set w.2.1 ha hf hq, aI_u (by omega)] at hP hD
  exact kk H1 locs1 ⟨hP, hD, hS⟩
theorem x_aald (X : XX p m c cc nL s args Ts own D cs) (w : XW D A H0 L f H locs) {a n : Nat} {i : Int} {g : Int → Option Nat} (ha : a ∈ L) (hf : f a = .inl (cs.2.1, n, .inr (.inr (.inr (.inr (aR g)))))) (hi : 0 ≤ i ∧ i < (n : Int) ∧ n ≤ 1000000) (hdg : decode cc pc = .ok (.aaload, 1)) (kk : W p l e R s m args below meth c H locs cells slots Q (F0 m (pc + 1) ls (va_rf (g i) :: rest))) : W p l e R s m args below meth c H locs cells slots Q (F0 m (pc) ls (.int (iI i) :: .ref a :: rest)) := by
  obtain ⟨q, hq⟩ := xw_at rfl ha hf
  refine va_aldq X.1.1 X.1.2.1 X.2 w.1 q 1 hq rfl (iI_in ⟨hi.1, hi.2.1⟩ hi.2.2) hdg ?_
  show W p l e R s m args below meth c H locs cells slots Q (F0 m (pc + 1) ls (va_rf (g ((iI i).toNatClampNeg : Int)) :: rest))
  rw [iI_nat (by omega)]
  exact kk
theorem x_aast (X : XX p m c cc nL s args Ts own D cs) (w : XW D A H0 L f H locs) {a n v : Nat} {i : Int} {g : Int → Option Nat} {vs : List Value} (ha : a ∈ L) (hf : f a = .inl (cs.2.1, n, .inr (.inr (.inr (.inr (aR g)))))) (hv : v ∈ L) (hfv : f v = .inr (0, vs)) (hi : 0 ≤ i ∧ i < (n : Int) ∧ n ≤ 1000000) (hdg : decode cc pc = .ok (.aastore, 1)) (kk : ∀ (H1 : Heap) (locs1 : List Loc), XW D A H0 L (va_up f a (.inl (cs.2.1, n, .inr (.inr (.inr (.inr (aR (uI g i (some v))))))))) H1 locs1 → W p l e R s m args below meth c H1 locs1 cells slots Q (F0 m (pc + 1) ls (rest))) : W p l e R s m args below meth c H locs cells slots Q (F0 m (pc) ls (.ref v :: .int (iI i) :: .ref a :: rest)) := by
  obtain ⟨q, hq⟩ := xw_at rfl ha hf
  obtain ⟨qv, hqv⟩ := xw_at rfl hv hfv
  refine va_astq X.1.1 X.1.2.1 X.2 w.1 w.2.1 w.2.2 q 1 qv 0 (r := (RX0, TX0, 5)) hq rfl hqv rfl (iI_in ⟨hi.1, hi.2.1⟩ hi.2.2) hdg (fun H1 locs1 hP hD hS => ?_)
  rw [xw_set w.2.1 ha hf hq, aR_u (by omega)] at hP hD
  exact kk H1 locs1 ⟨hP, hD, hS⟩
theorem x_aastN (X : XX p m c cc nL s args Ts own D cs) (w : XW D A H0 L f H locs) {a n : Nat} {i : Int} {g : Int → Option Nat} (ha : a ∈ L) (hf : f a = .inl (cs.2.1, n, .inr (.inr (.inr (.inr (aR g)))))) (hi : 0 ≤ i ∧ i < (n : Int) ∧ n ≤ 1000000) (hdg : decode cc pc = .ok (.aastore, 1)) (kk : ∀ (H1 : Heap) (locs1 : List Loc), XW D A H0 L (va_up f a (.inl (cs.2.1, n, .inr (.inr (.inr (.inr (aR (uI g i none)))))))) H1 locs1 → W p l e R s m args below meth c H1 locs1 cells slots Q (F0 m (pc + 1) ls (rest))) : W p l e R s m args below meth c H locs cells slots Q (F0 m (pc) ls (.null :: .int (iI i) :: .ref a :: rest)) := by
  obtain ⟨q, hq⟩ := xw_at rfl ha hf
  refine va_astqN (C := RX0) X.1.1 X.1.2.1 X.2 w.1 w.2.1 w.2.2 q 1 hq rfl (iI_in ⟨hi.1, hi.2.1⟩ hi.2.2) hdg (fun H1 locs1 hP hD hS => ?_)
  rw [xw_set w.2.1 ha hf hq, aR_u (by omega)] at hP hD
  exact kk H1 locs1 ⟨hP, hD, hS⟩
theorem x_alenI (X : XX p m c cc nL s args Ts own D cs) (w : XW D A H0 L f H locs) {a n : Nat} {g : Nat → Int32} (ha : a ∈ L) (hf : f a = .inl (cs.1, n, .inl g)) (hdg : decode cc pc = .ok (.arraylength, 1)) (kk : W p l e R s m args below meth c H locs cells slots Q (F0 m (pc + 1) ls (.int (iI (n : Int)) :: rest))) : W p l e R s m args below meth c H locs cells slots Q (F0 m (pc) ls (.ref a :: rest)) := by
  obtain ⟨q, hq⟩ := xw_at rfl ha hf
  exact va_alen X.1.1 X.1.2.1 X.2 w.1 q 0 hq rfl (v := iI (n : Int)) Int32.ofInt_eq_ofNat.symm hdg kk
theorem x_alenR (X : XX p m c cc nL s args Ts own D cs) (w : XW D A H0 L f H locs) {a n : Nat} {g : Nat → Option Nat} (ha : a ∈ L) (hf : f a = .inl (cs.2.1, n, .inr (.inr (.inr (.inr g))))) (hdg : decode cc pc = .ok (.arraylength, 1)) (kk : W p l e R s m args below meth c H locs cells slots Q (F0 m (pc + 1) ls (.int (iI (n : Int)) :: rest))) : W p l e R s m args below meth c H locs cells slots Q (F0 m (pc) ls (.ref a :: rest)) := by
  obtain ⟨q, hq⟩ := xw_at rfl ha hf
  exact va_alen X.1.1 X.1.2.1 X.2 w.1 q 1 hq rfl (v := iI (n : Int)) Int32.ofInt_eq_ofNat.symm hdg kk
end XROWS
end
section
section XCALLS
variable {p : Program} {l : Launch} {e : Env} {R : Room} {s : State} {m : MethodId} {args : Array Value} {below : List Frame} {meth : Method} {c : Code} {H : Heap} {locs : List Loc} {cells slots c1 s1 : Nat} {Q : State → Prop}
variable {cc : ByteArray} {nL pc : Nat} {ls : Array Slot} {rest st : List Value} {Ts : List Cond} {own : String} {D : va_G} {cs : ClassId × ClassId × ClassId} {A : Nat → Prop} {H0 : Heap} {L : List Nat} {f : Nat → va_E} {lv lv' : List (Nat × Value)}
variable {y : MethodName} {ws : List Cond} {bytes : ByteArray} {maxL : Nat} {ret : Option FieldType} {rm : Room} {index n : Nat} {As : List Value} {post : Option Value → List Nat → (Nat → va_E) → Prop}

theorem va_callG {S : Type} {post : Option Value → S → Prop} {B : S → State → Prop} {A0 A1 : Nat → Prop} {a : Array Value} {mc ms : Nat} {free : Addr → Prop} (hr : va_Run p l e R s m args below meth c H locs cells slots mc ms (F0 m pc ls st) rest (va_QG post B A1 a) free) (hS : va_S A0 H0 H locs) (hA : ∀ q, q < H.size → A1 q → A0 q) (hf : ∀ q, free q → A0 q)
    (kk : ∀ (v : Option Value) (u : S) (t : State) (H1 : Heap) (locs1 : List Loc), t.heap = H1 → s.vm.Alike t.vm → post v u → B u t → H.size ≤ H1.size → va_S A0 H0 H1 locs1 → W p l e R s m args below meth c H1 locs1 (cells + mc) (slots + ms) Q (F0 m (pc + 3) ls (v.toList ++ rest))) : W p l e R s m args below meth c H locs cells slots Q (F0 m pc ls st) := by
  intro T hT X
  obtain ⟨v, st₀, t, T', L, h0, X', hL, e1, e2, ⟨⟨v', u, hv, hp, hb⟩, hz, hk⟩, st⟩ := hr T hT X
  cases hv
  rw [h0] at hz hk
  obtain ⟨t2, a1, b1⟩ := kk v u t T'.heap (locs ++ L) e1.symm (by rw [← e2]; exact X'.warmed.alike) hp hb (by rw [e1]; exact hz)
    ⟨Nat.le_trans hS.1 (by rw [e1]; exact hz), fun q h1 h2 => by rw [e1, hk q (Nat.lt_of_lt_of_le h1 hS.1) (fun z => h2 (hA q (Nat.lt_of_lt_of_le h1 hS.1) z))]; exact hS.2.1 q h1 h2, fun q hq => by
      rcases List.mem_append.mp hq with h | h
      · exact hS.2.2 q h
      · exact hf _ (hL q h)⟩ T' rfl X'
  exact ⟨t2, st t2 a1, b1⟩
theorem xw_free (w : XW D A H0 L f H locs) (hA : ∀ q, H0.size ≤ q → A q) : ∀ q, va_A (va_pl L f) H.size q → A q := by
  intro q h
  rcases h with ⟨k, e9, h⟩ | h
  · exact w.2.1.2 k _ h
  · exact hA q (Nat.le_trans w.2.2.1 h)
theorem x_run {a : Array Value} (w : XW D A H0 L f H locs) (hA : ∀ q, H0.size ≤ q → A q) (hr : va_Run p l e R s m args below meth c H locs cells slots rm.cells rm.slots (F0 m pc ls st) rest (CQ D cs (va_A (va_pl L f) H.size) post a) (va_A (va_pl L f) H.size)) (hc1 : cells + rm.cells = c1) (hs1 : slots + rm.slots = s1)
    (kk : ∀ (v : Option Value) (L : List Nat) (f : Nat → va_E) (H : Heap) (locs : List Loc), XW D A H0 L f H locs → post v L f → W p l e R s m args below meth c H locs c1 s1 Q (F0 m (pc + 3) ls (v.toList ++ rest))) : W p l e R s m args below meth c H locs cells slots Q (F0 m pc ls st) := by
  subst hc1; subst hs1
  refine va_callG hr w.2.2 (fun q _ h => xw_free w hA q h) (xw_free w hA) (fun v u t H1 locs1 ht hvm hp hB hz hS => ?_)
  obtain ⟨hP1, hK1, hD1⟩ := hB
  rw [ht] at hP1
  exact kk v u.1 u.2 H1 locs1 ⟨hP1, hD1.weaken (fun _ _ _ h => xw_free w hA _ h), hS⟩ hp
theorem x_pre (X : XX p m c cc nL s args Ts own D cs) (w : XW D A H0 L f H locs) {As : List Value} : ∀ U : State, U.heap = H → s.WarmedH U.vm → CP D cs As H.size L f As.toArray U :=
  fun U hU hW => ⟨rfl, by rw [hU], by rw [hU]; exact w.1, va_K.moved hW.alike X.2, w.2.1.weaken (fun _ _ _ _ => trivial)⟩
theorem cp_blind {As : List Value} {sz : Nat} : FrameBlind (CP D cs As sz L f) := fun a U g mk q => by
  obtain ⟨q0, q1, qP, qK, qD⟩ := q
  exact ⟨q0, q1, qP, va_K.moved (u := U) (U := U.calling g mk a) (Vm.Alike.refl U.vm) qK, qD⟩
theorem x_callV {C : String} {b ci : Nat} {fs : List Value} {r : vw_C} (X : XX p m c cc nL s args Ts own D cs) (w : XW D A H0 L f H locs) (hA : ∀ q, H0.size ≤ q → A q) (hC : C0 l y ws rm D cs (.ref b :: As) L f post) (hk : XV Ts own index C y bytes maxL ret ws n) (hR : rm.frames + 1 ≤ R.frames ∧ 8 + (maxL + 11) + rm.locals ≤ R.locals) (hb : b ∈ L) (hf : f b = .inr (ci, fs)) (hc : vwCl[ci]? = some r) (hr : r.1 = C) (hn : As.length = n) (hl : lv_has ls nL lv) (hst : st = As.reverse ++ .ref b :: rest) (hrm : (rest.map fun v => v.category).sum ≤ 8) (hcs : cells + rm.cells ≤ R.cells ∧ slots + rm.slots ≤ R.slots) (hc1 : cells + rm.cells = c1) (hs1 : slots + rm.slots = s1) (hdg : decode cc pc = .ok (.invokevirtual index, 3))
    (kk : ∀ (v : Option Value) (L : List Nat) (f : Nat → va_E) (H : Heap) (locs : List Loc), XW D A H0 L f H locs → post v L f → W p l e R s m args below meth c H locs c1 s1 Q (F0 m (pc + 3) ls (v.toList ++ rest))) : W p l e R s m args below meth c H locs cells slots Q (F0 m pc ls st) := by
  subst hst; subst hr
  obtain ⟨hG, ⟨ws', hw⟩, hd⟩ := hk
  obtain ⟨q, hq⟩ := xw_at rfl hb hf
  exact x_run w hA (va_runV (As := As) (rest := rest) X.1 (hC H.size) (cwV n X.1.2.2.2.2 hG hw rfl rfl hd hR) ⟨cp_blind, va_recv X.2 w.1 hc hq, x_pre X w⟩ rfl hn hl.1 rfl (lv_room hrm) hdg hcs) hc1 hs1 kk
theorem x_callS (X : XX p m c cc nL s args Ts own D cs) (w : XW D A H0 L f H locs) (hA : ∀ q, H0.size ≤ q → A q) (hC : C0 l y ws rm D cs As L f post) (hk : XS Ts own index y bytes maxL ret ws n) (hR : rm.frames + 1 ≤ R.frames ∧ 8 + (maxL + 11) + rm.locals ≤ R.locals) (hn : As.length = n) (hl : lv_has ls nL lv) (hst : st = As.reverse ++ rest) (hrm : (rest.map fun v => v.category).sum ≤ 8) (hcs : cells + rm.cells ≤ R.cells ∧ slots + rm.slots ≤ R.slots) (hc1 : cells + rm.cells = c1) (hs1 : slots + rm.slots = s1) (hdg : decode cc pc = .ok (.invokestatic index, 3))
    (kk : ∀ (v : Option Value) (L : List Nat) (f : Nat → va_E) (H : Heap) (locs : List Loc), XW D A H0 L f H locs → post v L f → W p l e R s m args below meth c H locs c1 s1 Q (F0 m (pc + 3) ls (v.toList ++ rest))) : W p l e R s m args below meth c H locs cells slots Q (F0 m pc ls st) := by
  subst hst
  obtain ⟨hG, ⟨ws', hw⟩, hd⟩ := hk
  exact x_run w hA (va_runS (As := As) (rest := rest) X.1 (hC H.size) (va_cwS n X.1.2.2.2.2 hG hw rfl rfl hd hR) ⟨cp_blind, x_pre X w⟩ rfl hn hl.1 rfl (lv_room hrm) hdg hcs) hc1 hs1 kk
theorem C0.of {ws' : List Cond} {al : List Value} (hy : plainName y.cls = true) (hw : ws = Cond.code y cc maxL ret :: ws') (hlen : (lg_sl al).length ≤ maxL)
    (body : ∀ (p : Program) (e : Env) (s : State) (m : MethodId) (below : List Frame) (meth : Method) (c : Code), XX p m c cc maxL s al.toArray ws y.cls D cs → meth.sig.returnType = ret → meth.locks = false → meth.name = y.name → ∀ (A : Nat → Prop), (∀ q, s.heap.size ≤ q → A q) → XW D A s.heap L f s.heap [] → ∀ ls, lv_has ls maxL (lv_args 0 al) → W p l e rm s m al.toArray below meth c s.heap [] 0 0 (MQ below (CQ D cs A post) al.toArray s rm.cells rm.slots A) (F0 m 0 ls [])) : C0 l y ws rm D cs al L f post := by
  intro sz
  refine Met.ofW (cc := cc) (maxL := maxL) (ret := ret) hy hw ?_
  intro p e s m args' below meth c s₁ B hml hv
  obtain ⟨rfl, hsz, hP, hK, hD0⟩ := hv
  have hts := atoms_spec (ws := ws) B.pre
  have hown := findClass_of_methodNamed B.named
  subst hsz
  rw [lg_entry_eq]
  exact body p e s m below meth c ⟨⟨B.exec, B.bytes, hml, hown, hts⟩, hK⟩ B.returns B.notSynchronized (name_of_methodNamed B.named B.method).1 _ (fun q h => Or.inr h) ⟨hP, hD0.self, va_S.rf⟩ _ (lv_entry al hlen)
theorem x_iret {z : Int} {mc ms : Nat} (X : XX p m c cc nL s args Ts own D cs) (w : XW D A s.heap L f H locs) (hr : meth.sig.returnType = some .int) (hlk : meth.locks = false) (hcs : cells ≤ mc ∧ slots ≤ ms) (hdg : decode cc pc = .ok (.ireturn, 1)) (hp : post (some (.int (iI z))) L f) : W p l e R s m args below meth c H locs cells slots (MQ below (CQ D cs A post) args s mc ms A) (F0 m pc ls [.int (iI z)]) :=
  W.widen hcs.1 hcs.2 (W.iret X.1.1 X.1.2.1 hr (fun t ht hW => ⟨⟨_, (L, f), rfl, hp, by rw [ht]; exact w.1, va_K.moved hW.alike X.2, w.2.1⟩, w.2.2.F ht⟩) w.2.2.2.2 hdg hlk)
theorem x_zret {z : Int} {mc ms : Nat} (X : XX p m c cc nL s args Ts own D cs) (w : XW D A s.heap L f H locs) (hr : meth.sig.returnType = some .boolean) (hlk : meth.locks = false) (hcs : cells ≤ mc ∧ slots ≤ ms) (hz : z = 0 ∨ z = 1) (hdg : decode cc pc = .ok (.ireturn, 1)) (hp : post (some (.int (iI z))) L f) : W p l e R s m args below meth c H locs cells slots (MQ below (CQ D cs A post) args s mc ms A) (F0 m pc ls [.int (iI z)]) :=
  W.widen hcs.1 hcs.2 (W.zret X.1.1 X.1.2.1 hr (by rcases hz with rfl | rfl <;> rfl) (fun t ht hW => ⟨⟨_, (L, f), rfl, hp, by rw [ht]; exact w.1, va_K.moved hW.alike X.2, w.2.1⟩, w.2.2.F ht⟩) w.2.2.2.2 hdg hlk)
theorem x_vret {mc ms : Nat} (X : XX p m c cc nL s args Ts own D cs) (w : XW D A s.heap L f H locs) (hr : meth.sig.returnType = none) (hlk : meth.locks = false) (hcs : cells ≤ mc ∧ slots ≤ ms) (hdg : decode cc pc = .ok (.return_, 1)) (hp : post none L f) : W p l e R s m args below meth c H locs cells slots (MQ below (CQ D cs A post) args s mc ms A) (F0 m pc ls []) :=
  W.widen hcs.1 hcs.2 (W.vret X.1.1 X.1.2.1 hr (fun t ht hW => ⟨⟨_, (L, f), rfl, hp, by rw [ht]; exact w.1, va_K.moved hW.alike X.2, w.2.1⟩, w.2.2.F ht⟩) w.2.2.2.2 hdg hlk)
theorem x_nret {C : String} {o : Option Nat} {mc ms : Nat} (X : XX p m c cc nL s args Ts own D cs) (w : XW D A s.heap L f H locs) (hr : meth.sig.returnType = some (.object C)) (hlk : meth.locks = false) (hcs : cells ≤ mc ∧ slots ≤ ms) (hdg : decode cc pc = .ok (.areturn, 1)) (hp : post (some (va_rf o)) L f) : W p l e R s m args below meth c H locs cells slots (MQ below (CQ D cs A post) args s mc ms A) (F0 m pc ls [va_rf o]) :=
  W.widen hcs.1 hcs.2 (W.aret X.1.1 X.1.2.1 hr (Or.inl ⟨_, rfl⟩) (by cases o; exact Or.inl rfl; exact Or.inr ⟨_, rfl⟩) (fun t ht hW => ⟨⟨_, (L, f), rfl, hp, by rw [ht]; exact w.1, va_K.moved hW.alike X.2, w.2.1⟩, w.2.2.F ht⟩) w.2.2.2.2 hdg hlk)
end XCALLS
/-! pictures: the row of pages, the row of records -/
def RR (cs : ClassId × ClassId × ClassId) (L : List Nat) (f : Nat → va_E) (pr sz : Nat) (k : Int) (z : Int → Int) : Prop := pr ∈ L ∧ sz ∈ L ∧ f pr = .inr (2, [.ref sz, .int (iI k)]) ∧ f sz = .inl (cs.1, 80, .inl (aI z))
def FR (f0 f : Nat → va_E) (p q : Nat) : Prop := ∀ a, a ≠ p → a ≠ q → f a = f0 a
theorem FR.rf (f : Nat → va_E) (p q : Nat) : FR f f p q := fun _ _ _ => rfl
theorem FR.up1 {f0 f : Nat → va_E} {p q : Nat} {e : va_E} (h : FR f0 f p q) : FR f0 (va_up f p e) p q := fun a h1 h2 => (va_up_ne f e h1).trans (h a h1 h2)
theorem FR.up2 {f0 f : Nat → va_E} {p q : Nat} {e : va_E} (h : FR f0 f p q) : FR f0 (va_up f q e) p q := fun a h1 h2 => (va_up_ne f e h2).trans (h a h1 h2)
theorem FR.tr {f0 f1 f2 : Nat → va_E} {p q : Nat} (h : FR f0 f1 p q) (g : FR f1 f2 p q) : FR f0 f2 p q := fun a h1 h2 => (g a h1 h2).trans (h a h1 h2)
section RRS
variable {cs : ClassId × ClassId × ClassId} {L : List Nat} {f : Nat → va_E} {pr sz : Nat} {k : Int} {z : Int → Int}
theorem RR.mp (h : RR cs L f pr sz k z) : pr ∈ L := h.1
theorem RR.ms (h : RR cs L f pr sz k z) : sz ∈ L := h.2.1
theorem RR.fp (h : RR cs L f pr sz k z) : f pr = .inr (2, [.ref sz, .int (iI k)]) := h.2.2.1
theorem RR.fs (h : RR cs L f pr sz k z) : f sz = .inl (cs.1, 80, .inl (aI z)) := h.2.2.2
theorem RR.ne (h : RR cs L f pr sz k z) : pr ≠ sz := fun q => by have h1 := h.fp; have h2 := h.fs; rw [q, h2] at h1; cases h1
theorem RR.cnt (h : RR cs L f pr sz k z) (k' : Int) : RR cs L (va_up f pr (.inr (2, [.ref sz, .int (iI k')]))) pr sz k' z := ⟨h.1, h.2.1, va_up_self _ _ _, (va_up_ne f _ h.ne.symm).trans h.fs⟩
theorem RR.row (h : RR cs L f pr sz k z) (z' : Int → Int) : RR cs L (va_up f sz (.inl (cs.1, 80, .inl (aI z')))) pr sz k z' := ⟨h.1, h.2.1, (va_up_ne f _ h.ne).trans h.fp, va_up_self _ _ _⟩
end RRS
def RB (cs : ClassId × ClassId × ClassId) (L : List Nat) (f : Nat → va_E) (br ba : Nat) (n : Int) (r : Int → Option Nat) : Prop := br ∈ L ∧ ba ∈ L ∧ f br = .inr (1, [.ref ba, .int (iI n)]) ∧ f ba = .inl (cs.2.1, 80, .inr (.inr (.inr (.inr (aR r)))))
section RBS
variable {cs : ClassId × ClassId × ClassId} {L : List Nat} {f : Nat → va_E} {br ba : Nat} {n : Int} {r : Int → Option Nat}
theorem RB.mp (h : RB cs L f br ba n r) : br ∈ L := h.1
theorem RB.ms (h : RB cs L f br ba n r) : ba ∈ L := h.2.1
theorem RB.fp (h : RB cs L f br ba n r) : f br = .inr (1, [.ref ba, .int (iI n)]) := h.2.2.1
theorem RB.fs (h : RB cs L f br ba n r) : f ba = .inl (cs.2.1, 80, .inr (.inr (.inr (.inr (aR r))))) := h.2.2.2
theorem RB.ne (h : RB cs L f br ba n r) : br ≠ ba := fun q => by have h1 := h.fp; have h2 := h.fs; rw [q, h2] at h1; cases h1
theorem RB.cnt (h : RB cs L f br ba n r) (n' : Int) : RB cs L (va_up f br (.inr (1, [.ref ba, .int (iI n')]))) br ba n' r := ⟨h.1, h.2.1, va_up_self _ _ _, (va_up_ne f _ h.ne.symm).trans h.fs⟩
theorem RB.row (h : RB cs L f br ba n r) (r' : Int → Option Nat) : RB cs L (va_up f ba (.inl (cs.2.1, 80, .inr (.inr (.inr (.inr (aR r'))))))) br ba n r' := ⟨h.1, h.2.1, (va_up_ne f _ h.ne).trans h.fp, va_up_self _ _ _⟩
end RBS
/-- the records: what stands at each place of the row -/
def bE (nu su ty pd fd : Int) : va_E := .inr (0, [.int (iI nu), .int (iI su), .int (iI ty), .int (iI pd), .int (iI fd)])
def BO (L : List Nat) (f : Nat → va_E) (n : Int) (r : Int → Option Nat) (nu su ty pd fd : Int → Int) : Prop := ∀ j : Int, 0 ≤ j → j < n → ∃ a, r j = some a ∧ a ∈ L ∧ f a = bE (nu j) (su j) (ty j) (pd j) (fd j)
end
section
/-! reading rows that name what is read; methods that throw: contracts, calls, ends -/
section XREADS
variable {p : Program} {l : Launch} {e : Env} {R : Room} {s : State} {m : MethodId} {args : Array Value} {below : List Frame} {meth : Method} {c : Code} {H : Heap} {locs : List Loc} {cells slots : Nat} {Q : State → Prop}
variable {cc : ByteArray} {nL pc : Nat} {ls : Array Slot} {rest : List Value} {Ts : List Cond} {own : String} {D : va_G} {cs : ClassId × ClassId × ClassId} {A : Nat → Prop} {H0 : Heap} {L : List Nat} {f : Nat → va_E} {lv lv' : List (Nat × Value)}
theorem x_ialdv (X : XX p m c cc nL s args Ts own D cs) (w : XW D A H0 L f H locs) {a n : Nat} {i v : Int} {g : Int → Int} (ha : a ∈ L) (hf : f a = .inl (cs.1, n, .inl (aI g))) (hi : 0 ≤ i ∧ i < (n : Int) ∧ n ≤ 1000000) (hv : g i = v) (hdg : decode cc pc = .ok (.iaload, 1)) (kk : W p l e R s m args below meth c H locs cells slots Q (F0 m (pc + 1) ls (.int (iI v) :: rest))) : W p l e R s m args below meth c H locs cells slots Q (F0 m (pc) ls (.int (iI i) :: .ref a :: rest)) := by
  subst hv; exact x_iald X w ha hf hi hdg kk
theorem x_aaldv (X : XX p m c cc nL s args Ts own D cs) (w : XW D A H0 L f H locs) {a n b : Nat} {i : Int} {g : Int → Option Nat} (ha : a ∈ L) (hf : f a = .inl (cs.2.1, n, .inr (.inr (.inr (.inr (aR g)))))) (hi : 0 ≤ i ∧ i < (n : Int) ∧ n ≤ 1000000) (hv : g i = some b) (hdg : decode cc pc = .ok (.aaload, 1)) (kk : W p l e R s m args below meth c H locs cells slots Q (F0 m (pc + 1) ls (.ref b :: rest))) : W p l e R s m args below meth c H locs cells slots Q (F0 m (pc) ls (.int (iI i) :: .ref a :: rest)) := by
  refine x_aald X w ha hf hi hdg ?_
  rw [hv]; exact kk
theorem x_max (X : XX p m c cc nL s args Ts own D cs) (hl : lv_has ls nL lv) {index : Nat} {a b : Int} (hr : -2147483648 ≤ a ∧ a < 2147483648 ∧ -2147483648 ≤ b ∧ b < 2147483648) (h1 : Cond.methodLink own index Lib.Math.max.name ∈ Ts ∧ Cond.static Lib.Math.max.name ∈ Ts ∧ Cond.initialized "java/lang/Math" ∈ Ts ∧ Cond.code Lib.Math.max.name Lib.Math.max.code 2 (some .int) ∈ Ts) (hR : 1 ≤ R.frames ∧ (rest.map fun v => v.category).sum + 13 ≤ R.locals ∧ cells ≤ R.cells ∧ slots ≤ R.slots) (hdg : decode cc pc = .ok (.invokestatic index, 3))
    (kk : W p l e R s m args below meth c H locs cells slots Q (F0 m (pc + 3) ls (.int (iI (if a < b then b else a)) :: rest))) : W p l e R s m args below meth c H locs cells slots Q (F0 m pc ls (.int (iI b) :: .int (iI a) :: rest)) := by
  have ht := X.1.2.2.2.2
  refine va_mmax X.1.1 X.1.2.1 (X.1.2.2.1.trans hl.1.symm) X.1.2.2.2.1 (ht _ h1.1) (ht _ h1.2.1) (ht _ h1.2.2.1) (ht _ h1.2.2.2) hR.1 hR.2.1 hR.2.2.1 hR.2.2.2 hdg ?_
  rw [show (if iI a < iI b then iI b else iI a) = iI (if a < b then b else a) by
    by_cases hq5 : a < b
    · rw [if_pos ((iI_lt ⟨hr.1, hr.2.1⟩ hr.2.2).mpr hq5), if_pos hq5]
    · rw [if_neg (fun hq6 => hq5 ((iI_lt ⟨hr.1, hr.2.1⟩ hr.2.2).mp hq6)), if_neg hq5]]
  exact kk
end XREADS
abbrev XIA : String := "java/lang/IllegalArgumentException"
abbrev XIS : String := "java/lang/IllegalStateException"
abbrev XIO : String := "java/lang/IndexOutOfBoundsException"
abbrev XNM : List String := ["java/lang/RuntimeException", "java/lang/Exception"]
def xdec (U : State) : Prop := va_Nw (.declares (Bundle.initS "java/lang/RuntimeException")) U ∧ va_Nw (.declares (Bundle.initS "java/lang/Exception")) U ∧ va_Nw (.declares (Bundle.initS Bundle.tN)) U
abbrev XNG (cls : String) : List Cond := [Cond.castable cls cls, .declares (Bundle.initS "java/lang/RuntimeException"), .declares (Bundle.initS "java/lang/Exception"), .declares (Bundle.initS Bundle.tN)]
def xstr : List (Nat × String) := [(41, "sum or surety out of range"), (56, "the case has a record, or the register is full"), (92, "no record of the case, or it is forfeited"), (109, "no record of the case, or it is not forfeited"), (111, "sum or day out of range"), (120, "surety out of range"), (128, "days out of range"), (130, "today would be above the last day"), (141, "no such page"), (144, "no such page, or no such place on it"), (155, "a sweep goes on"), (157, "steps out of range"), (159, "no sweep goes on"), (164, "reader out of range"), (166, "case out of range")]
def EV (U : State) : Prop := va_Nw (.castable XIA XIA) U ∧ va_Nw (.castable XIS XIS) U ∧ va_Nw (.castable XIO XIO) U ∧ va_Nc XIS XIA U ∧ xdec U ∧ ∀ q ∈ xstr, ∃ a, vk_R RX3 q.1 q.2 a U
def EZ (A : Nat → Prop) (U : State) (H : Heap) : Prop := vx_Zq Bundle.tN "UNASSIGNED_STACK" Bundle.steD A U H ∧ vx_Zq Bundle.tN "SUPPRESSED_SENTINEL" Bundle.listD A U H
theorem EV.warm {s U : State} (hW : s.WarmedH U.vm) (h : EV s) : EV U :=
  ⟨va_Nw.warmC hW h.1, va_Nw.warmC hW h.2.1, va_Nw.warmC hW h.2.2.1, va_Nc.moved hW.alike h.2.2.2.1, ⟨va_Nw.warmD hW h.2.2.2.2.1.1, va_Nw.warmD hW h.2.2.2.2.1.2.1, va_Nw.warmD hW h.2.2.2.2.1.2.2⟩, fun q hq => (h.2.2.2.2.2 q hq).elim (fun a ha => ⟨a, vk_R.warm hW ha⟩)⟩
def EX (D : va_G) (cs : ClassId × ClassId × ClassId) (A : Nat → Prop) (L : List Nat) (f : Nat → va_E) (px : String → Prop) : String → State → State → Prop := vx_X (fun u : List Nat × (Nat → va_E) => u = (L, f)) (fun E u t => px E ∧ CB D cs A u t) A
def CP1 (D : va_G) (cs : ClassId × ClassId × ClassId) (args : List Value) (sz : Nat) (L : List Nat) (f : Nat → va_E) : Array Value → State → Prop := va_Pc args (fun U => U.heap.size = sz ∧ va_P D vwCl (va_pl L f) U.heap ∧ va_K D vwCl (ty3 cs) U ∧ va_D (fun _ => True) (va_pl L f) ∧ EV U ∧ EZ (va_A (va_pl L f) sz) U U.heap)
/-- a contract of a method that may throw: then the pool is as it was -/
def C1 (l : Launch) (y : MethodName) (ws : List Cond) (rm : Room) (D : va_G) (cs : ClassId × ClassId × ClassId) (args : List Value) (L : List Nat) (f : Nat → va_E) (post : Option Value → List Nat → (Nat → va_E) → Prop) (px : String → Prop) : Prop :=
  ∀ sz : Nat, vx_Met l y ws rm (CP1 D cs args sz L f) (CQ D cs (va_A (va_pl L f) sz) post) (EX D cs (va_A (va_pl L f) sz) L f px) rm.cells rm.slots (va_A (va_pl L f) sz)
def XT (Ts : List Cond) (own : String) (ik is ic : Nat) (cls text : String) : Prop :=
  Cond.classLink own ik cls ∈ Ts ∧ Cond.initialized cls ∈ Ts ∧ (∀ w ∈ (vx_atS own ic cls XNM).filter goodWord, w ∈ Ts) ∧ (cls = XIA ∨ cls = XIS ∨ cls = XIO) ∧ (∀ w ∈ (vx_atS own ic cls XNM).filter (fun w => !goodWord w), w ∈ XNG cls) ∧
  (∀ w ∈ Cond.classLink own ik cls :: Cond.initialized cls :: vx_atS own ic cls XNM, vx_ot w = true) ∧ (is, text) ∈ xstr ∧ own = RX3
section XTHROWS
variable {p : Program} {l : Launch} {e : Env} {R : Room} {s : State} {m : MethodId} {args : Array Value} {below : List Frame} {meth : Method} {c : Code} {H : Heap} {locs : List Loc} {cells slots c1 s1 : Nat} {Q : State → Prop}
variable {cc : ByteArray} {nL pc : Nat} {ls : Array Slot} {rest st : List Value} {Ts : List Cond} {own : String} {D : va_G} {cs : ClassId × ClassId × ClassId} {A : Nat → Prop} {L : List Nat} {f : Nat → va_E} {lv lv' : List (Nat × Value)}
variable {y : MethodName} {ws : List Cond} {bytes : ByteArray} {maxL : Nat} {ret : Option FieldType} {rm : Room} {index n mc ms : Nat} {As : List Value} {post : Option Value → List Nat → (Nat → va_E) → Prop} {px : String → Prop}
theorem ez_at (w : XW D A s.heap L f H locs) (hA : ∀ q, s.heap.size ≤ q → A q) (hZ : EZ A s s.heap) {U : State} (hU : U.heap = H) (hW : s.WarmedH U.vm) : EZ (va_A (va_pl L f) H.size) U U.heap := by
  rw [hU]
  exact ⟨((hZ.1.kept w.2.2.2.1).moved hW.alike).narrow (xw_free w hA), ((hZ.2.kept w.2.2.2.1).moved hW.alike).narrow (xw_free w hA)⟩
theorem x_pre1 (X : XX p m c cc nL s args Ts own D cs) (w : XW D A s.heap L f H locs) (hA : ∀ q, s.heap.size ≤ q → A q) (hV : EV s) (hZ : EZ A s s.heap) {As : List Value} : ∀ U : State, U.heap = H → s.WarmedH U.vm → CP1 D cs As H.size L f As.toArray U :=
  fun U hU hW => ⟨rfl, by rw [hU], by rw [hU]; exact w.1, va_K.moved hW.alike X.2, w.2.1.weaken (fun _ _ _ _ => trivial), EV.warm hW hV, ez_at w hA hZ hU hW⟩
theorem cp_blind1 {As : List Value} {sz : Nat} : FrameBlind (CP1 D cs As sz L f) := fun a U g mk h => by
  obtain ⟨h0, h1, hP, hK, hD, hV, hZ⟩ := h
  exact ⟨h0, h1, hP, va_K.moved (u := U) (U := U.calling g mk a) (Vm.Alike.refl U.vm) hK, hD, EV.warm (s := U) (U := U.calling g mk a) (State.WarmedH.refl U) hV, hZ.1.moved (u := U) (U := U.calling g mk a) (Vm.Alike.refl U.vm), hZ.2.moved (u := U) (U := U.calling g mk a) (Vm.Alike.refl U.vm)⟩
theorem x_run1 {a : Array Value} (w : XW D A s.heap L f H locs) (hA : ∀ q, s.heap.size ≤ q → A q) (hr : vx_Run p l e R s m args below meth c H locs cells slots rm.cells rm.slots (F0 m pc ls st) rest (CQ D cs (va_A (va_pl L f) H.size) post a) (EX D cs (va_A (va_pl L f) H.size) L f px) (va_A (va_pl L f) H.size)) (hc1 : cells + rm.cells = c1) (hs1 : slots + rm.slots = s1)
    (kx : ∀ (E : String) (ce : Cell) (a9 : Addr) (H : Heap) (locs : List Loc), XW D A s.heap L f H locs → px E → H[a9]? = some ce → ce.vm = .none → s.vm.findClass E = some ce.cls → vx_W p l e R s m args below meth c H locs c1 s1 Q (F0 m pc ls rest) a9)
    (kk : ∀ (v : Option Value) (L : List Nat) (f : Nat → va_E) (H : Heap) (locs : List Loc), XW D A s.heap L f H locs → post v L f → W p l e R s m args below meth c H locs c1 s1 Q (F0 m (pc + 3) ls (v.toList ++ rest))) : W p l e R s m args below meth c H locs cells slots Q (F0 m pc ls st) := by
  subst hc1; subst hs1
  intro T hT X
  rcases hr T hT X with ⟨v, st₀, t, T', L9, h0, X', hL, e1, e2, ⟨⟨v2, u, hv, hp, hb⟩, hF⟩, hst⟩ | ⟨a9, st₀, t, T', L9, E, ce, h0, X', hL, e1, e2, ⟨u, hu, ⟨hp, hb⟩, hF⟩, hce, hcv, hcl, hst⟩
  · cases hv
    obtain ⟨k1, k2, k3⟩ := vx_keep h0 e1 w.2.2 (fun q _ h => xw_free w hA q h) (xw_free w hA) hL hF
    obtain ⟨hP1, hK1, hD1⟩ := hb
    rw [← e1] at hP1
    obtain ⟨t2, a1, b1⟩ := kk v u.1 u.2 T'.heap (locs ++ L9) ⟨hP1, hD1.weaken (fun _ _ _ h => xw_free w hA _ h), k3⟩ hp T' rfl X'
    exact ⟨t2, hst t2 a1, b1⟩
  · obtain ⟨k1, k2, k3⟩ := vx_keep h0 e1 w.2.2 (fun q _ h => xw_free w hA q h) (xw_free w hA) hL hF
    subst hu
    obtain ⟨hP1, hK1, hD1⟩ := hb
    rw [← e1] at hP1
    obtain ⟨t2, a1, b1⟩ := kx E ce a9 T'.heap (locs ++ L9) ⟨hP1, hD1.weaken (fun _ _ _ h => xw_free w hA _ h), k3⟩ hp (by rw [e1]; exact hce) hcv hcl T' rfl X'
    exact ⟨t2, hst.trans a1, b1⟩
theorem x_callV1 {C : String} {b ci : Nat} {fs : List Value} {r : vw_C} (X : XX p m c cc nL s args Ts own D cs) (w : XW D A s.heap L f H locs) (hA : ∀ q, s.heap.size ≤ q → A q) (hV : EV s) (hZ : EZ A s s.heap) (hC : C1 l y ws rm D cs (.ref b :: As) L f post px) (hk : XV Ts own index C y bytes maxL ret ws n) (hR : rm.frames + 1 ≤ R.frames ∧ 8 + (maxL + 11) + rm.locals ≤ R.locals) (hb : b ∈ L) (hf : f b = .inr (ci, fs)) (hc : vwCl[ci]? = some r) (hr : r.1 = C) (hn : As.length = n) (hl : lv_has ls nL lv) (hst : st = As.reverse ++ .ref b :: rest) (hrm : (rest.map fun v => v.category).sum ≤ 8) (hcs : cells + rm.cells ≤ R.cells ∧ slots + rm.slots ≤ R.slots) (hc1 : cells + rm.cells = c1) (hs1 : slots + rm.slots = s1) (hdg : decode cc pc = .ok (.invokevirtual index, 3))
    (kx : ∀ (E : String) (ce : Cell) (a9 : Addr) (H : Heap) (locs : List Loc), XW D A s.heap L f H locs → px E → H[a9]? = some ce → ce.vm = .none → s.vm.findClass E = some ce.cls → vx_W p l e R s m args below meth c H locs c1 s1 Q (F0 m pc ls rest) a9)
    (kk : ∀ (v : Option Value) (L : List Nat) (f : Nat → va_E) (H : Heap) (locs : List Loc), XW D A s.heap L f H locs → post v L f → W p l e R s m args below meth c H locs c1 s1 Q (F0 m (pc + 3) ls (v.toList ++ rest))) : W p l e R s m args below meth c H locs cells slots Q (F0 m pc ls st) := by
  subst hst; subst hr
  obtain ⟨hG, ⟨ws', hw⟩, hd⟩ := hk
  obtain ⟨q, hq⟩ := xw_at rfl hb hf
  exact x_run1 w hA (vx_runV (As := As) (rest := rest) X.1 (hC H.size) (cwV n X.1.2.2.2.2 hG hw rfl rfl hd hR) ⟨cp_blind1, va_recv X.2 w.1 hc hq, x_pre1 X w hA hV hZ⟩ rfl hn hl.1 rfl (lv_room hrm) hdg hcs) hc1 hs1 kx kk
theorem x_callS1 (X : XX p m c cc nL s args Ts own D cs) (w : XW D A s.heap L f H locs) (hA : ∀ q, s.heap.size ≤ q → A q) (hV : EV s) (hZ : EZ A s s.heap) (hC : C1 l y ws rm D cs As L f post px) (hk : XS Ts own index y bytes maxL ret ws n) (hR : rm.frames + 1 ≤ R.frames ∧ 8 + (maxL + 11) + rm.locals ≤ R.locals) (hn : As.length = n) (hl : lv_has ls nL lv) (hst : st = As.reverse ++ rest) (hrm : (rest.map fun v => v.category).sum ≤ 8) (hcs : cells + rm.cells ≤ R.cells ∧ slots + rm.slots ≤ R.slots) (hc1 : cells + rm.cells = c1) (hs1 : slots + rm.slots = s1) (hdg : decode cc pc = .ok (.invokestatic index, 3))
    (kx : ∀ (E : String) (ce : Cell) (a9 : Addr) (H : Heap) (locs : List Loc), XW D A s.heap L f H locs → px E → H[a9]? = some ce → ce.vm = .none → s.vm.findClass E = some ce.cls → vx_W p l e R s m args below meth c H locs c1 s1 Q (F0 m pc ls rest) a9)
    (kk : ∀ (v : Option Value) (L : List Nat) (f : Nat → va_E) (H : Heap) (locs : List Loc), XW D A s.heap L f H locs → post v L f → W p l e R s m args below meth c H locs c1 s1 Q (F0 m (pc + 3) ls (v.toList ++ rest))) : W p l e R s m args below meth c H locs cells slots Q (F0 m pc ls st) := by
  subst hst
  obtain ⟨hG, ⟨ws', hw⟩, hd⟩ := hk
  exact x_run1 w hA (vx_runS (As := As) (rest := rest) X.1 (hC H.size) (va_cwS n X.1.2.2.2.2 hG hw rfl rfl hd hR) ⟨cp_blind1, x_pre1 X w hA hV hZ⟩ rfl hn hl.1 rfl (lv_room hrm) hdg hcs) hc1 hs1 kx kk
/-- a static callee with handlers -/
def XH (Ts : List Cond) (own : String) (index : Nat) (y : MethodName) (bytes : ByteArray) (maxL : Nat) (ret : Option FieldType) (hh : List (Nat × Nat × Nat × Nat)) (ws : List Cond) (n : Nat) : Prop := GoodIn Ts (va_wsS own index y ws) ∧ (∃ ws', ws = Cond.codeWith y bytes maxL ret hh :: ws') ∧ (y.cls ≠ "java/lang/invoke/MethodHandle" ∧ y.cls ≠ "java/lang/invoke/VarHandle" ∧ (parseMethodDescriptor y.desc).map (fun d => d.parameters.length) = some n)
theorem x_callH1 {hh : List (Nat × Nat × Nat × Nat)} (X : XX p m c cc nL s args Ts own D cs) (w : XW D A s.heap L f H locs) (hA : ∀ q, s.heap.size ≤ q → A q) (hV : EV s) (hZ : EZ A s s.heap) (hC : C1 l y ws rm D cs As L f post (fun _ => False)) (hk : XH Ts own index y bytes maxL ret hh ws n) (hR : rm.frames + 1 ≤ R.frames ∧ 8 + (maxL + 11) + rm.locals ≤ R.locals) (hn : As.length = n) (hl : lv_has ls nL lv) (hst : st = As.reverse ++ rest) (hrm : (rest.map fun v => v.category).sum ≤ 8) (hcs : cells + rm.cells ≤ R.cells ∧ slots + rm.slots ≤ R.slots) (hc1 : cells + rm.cells = c1) (hs1 : slots + rm.slots = s1) (hdg : decode cc pc = .ok (.invokestatic index, 3))
    (kk : ∀ (v : Option Value) (L : List Nat) (f : Nat → va_E) (H : Heap) (locs : List Loc), XW D A s.heap L f H locs → post v L f → W p l e R s m args below meth c H locs c1 s1 Q (F0 m (pc + 3) ls (v.toList ++ rest))) : W p l e R s m args below meth c H locs cells slots Q (F0 m pc ls st) := by
  subst hst
  obtain ⟨hG, ⟨ws', hw⟩, hd⟩ := hk
  exact x_run1 w hA (vx_runSX (As := As) (rest := rest) X.1 (hC H.size) (vx_cwSW n X.1.2.2.2.2 hG hw rfl rfl hd hR) ⟨cp_blind1, x_pre1 X w hA hV hZ⟩ rfl hn hl.1 rfl (lv_room hrm) hdg hcs) hc1 hs1 (fun _ _ _ _ _ _ hno => hno.elim) kk
theorem C1.of {ws' : List Cond} {al : List Value} (hy : plainName y.cls = true) (hw : ws = Cond.code y cc maxL ret :: ws') (hlen : (lg_sl al).length ≤ maxL)
    (body : ∀ (p : Program) (e : Env) (s : State) (m : MethodId) (below : List Frame) (meth : Method) (c : Code), XX p m c cc maxL s al.toArray ws y.cls D cs → meth.sig.returnType = ret → meth.locks = false → (∀ x ∈ c.exceptionTable.toList, False) → EV s → ∀ (A : Nat → Prop), (∀ q, s.heap.size ≤ q → A q) → EZ A s s.heap → XW D A s.heap L f s.heap [] → ∀ ls, lv_has ls maxL (lv_args 0 al) → W p l e rm s m al.toArray below meth c s.heap [] 0 0 (vx_MQ below (CQ D cs A post) (EX D cs A L f px) al.toArray s rm.cells rm.slots A) (F0 m 0 ls [])) : C1 l y ws rm D cs al L f post px := by
  intro sz
  refine vx_ofW (cc := cc) (maxL := maxL) (ret := ret) hy hw ?_
  intro p e s m args' below meth c s₁ B hml htab hv
  obtain ⟨rfl, hsz, hP, hK, hD0, hV, hZ⟩ := hv
  have hts := atoms_spec (ws := ws) B.pre
  have hown := findClass_of_methodNamed B.named
  subst hsz
  rw [lg_entry_eq]
  exact body p e s m below meth c ⟨⟨B.exec, B.bytes, hml, hown, hts⟩, hK⟩ B.returns B.notSynchronized htab hV _ (fun q h => Or.inr h) hZ ⟨hP, hD0.self, va_S.rf⟩ _ (lv_entry al hlen)
theorem C1.ofH {hh : List (Nat × Nat × Nat × Nat)} {ws' : List Cond} {al : List Value} (hy : plainName y.cls = true) (hw : ws = Cond.codeWith y cc maxL ret hh :: ws') (hlen : (lg_sl al).length ≤ maxL)
    (body : ∀ (p : Program) (e : Env) (s : State) (m : MethodId) (below : List Frame) (meth : Method) (c : Code), XX p m c cc maxL s al.toArray ws y.cls D cs → meth.sig.returnType = ret → meth.locks = false → c.exceptionTable.toList = tableOf hh → EV s → ∀ (A : Nat → Prop), (∀ q, s.heap.size ≤ q → A q) → EZ A s s.heap → XW D A s.heap L f s.heap [] → ∀ ls, lv_has ls maxL (lv_args 0 al) → W p l e rm s m al.toArray below meth c s.heap [] 0 0 (vx_MQ below (CQ D cs A post) (EX D cs A L f px) al.toArray s rm.cells rm.slots A) (F0 m 0 ls [])) : C1 l y ws rm D cs al L f post px := by
  intro sz
  refine vx_ofWH (cc := cc) (maxL := maxL) (ret := ret) hy hw ?_
  intro p e s m args' below meth c s₁ B hml hv
  obtain ⟨rfl, hsz, hP, hK, hD0, hV, hZ⟩ := hv
  have hts := atoms_spec (ws := ws) B.pre
  have hown := findClass_of_methodNamed B.named
  have htab := vx_table (x := y) B (hts _ (by rw [hw]; exact List.mem_cons_self))
  subst hsz
  rw [lg_entry_eq]
  exact body p e s m below meth c ⟨⟨B.exec, B.bytes, hml, hown, hts⟩, hK⟩ B.returns B.notSynchronized htab hV _ (fun q h => Or.inr h) hZ ⟨hP, hD0.self, va_S.rf⟩ _ (lv_entry al hlen)
/-- new X(text), thrown out of the method -/
theorem x_throw {cls text : String} {ik is ic : Nat} (X : XX p m c cc nL s args Ts own D cs) (w : XW D A s.heap L f H locs) (hl9 : l.stackTraces = false) (hV : EV s) (hZ : EZ A s s.heap) (hlk : meth.locks = false) (hout : ∀ x ∈ c.exceptionTable.toList, False) (hl : lv_has ls nL lv) (hT : XT Ts own ik is ic cls text)
    (d0 : decode cc pc = .ok (.new ik, 3)) (d3 : decode cc (pc + 3) = .ok (.dup, 1)) (d4 : decode cc (pc + 4) = .ok (.ldc is, 2)) (d6 : decode cc (pc + 6) = .ok (.invokespecial ic, 3)) (d9 : decode cc (pc + 9) = .ok (.athrow, 1))
    (hR : 5 < R.frames ∧ (rest.map fun v => v.category).sum + 82 ≤ R.locals ∧ cells + 1 ≤ R.cells ∧ slots + 6 ≤ R.slots) (hcs : cells + 1 ≤ mc ∧ slots + 6 ≤ ms) (hx : px cls) :
    W p l e R s m args below meth c H locs cells slots (vx_MQ below (CQ D cs A post) (EX D cs A L f px) args s mc ms A) (F0 m pc ls rest) := by
  obtain ⟨t1, t2, t3, t4, t5, t6, t7, t8⟩ := hT
  have hts := X.1.2.2.2.2
  obtain ⟨sa, hstr⟩ := hV.2.2.2.2.2 _ t7
  rw [← t8] at hstr
  have hct : (Cond.castable cls cls).before args s = true := by
    rcases t4 with rfl | rfl | rfl
    · exact va_Nw.use rfl hV.1
    · exact va_Nw.use rfl hV.2.1
    · exact va_Nw.use rfl hV.2.2.1
  have hfit : Bundle.fit cls = true := by rcases t4 with rfl | rfl | rfl <;> decide
  refine vx_throwS (names := XNM) X.1.1 X.1.2.1 hl9 X.1.2.2.2.1 hfit (by decide) (hts _ t1) (hts _ t2) hstr (vx_hat (B := XNG cls) (fun w hw => hts w (t3 w hw)) t5 (vx_c hct (vx_c (va_Nw.use rfl hV.2.2.2.2.1.1) (vx_c (va_Nw.use rfl hV.2.2.2.2.1.2.1) (vx_c (va_Nw.use rfl hV.2.2.2.2.1.2.2) vx_n))))) t6 hZ.1 hZ.2 w.2.2 (hl.1.trans X.1.2.2.1.symm) d0 d3 d4 d6 d9 (fun x hx9 => (hout x hx9).elim) hR.1 hR.2.1 hR.2.2.1 hR.2.2.2 hlk ?_ w.2.2.2.2 hcs.1 hcs.2
  intro t hal hsz hkp
  exact ⟨(L, f), rfl, ⟨hx, w.1.kept (fun k q hk => hkp q.1 (vx_lt w.1 hk)), va_K.moved hal X.2, w.2.1⟩, Nat.le_trans w.2.2.1 hsz, fun q h1 h2 => (hkp q (Nat.lt_of_lt_of_le h1 w.2.2.1)).trans (w.2.2.2.1 q h1 h2)⟩
/-- what a callee threw goes on to the caller -/
theorem x_out {E : String} {ce : Cell} {a9 : Addr} (X : XX p m c cc nL s args Ts own D cs) (w : XW D A s.heap L f H locs) (hlk : meth.locks = false) (hout : ∀ x ∈ c.exceptionTable.toList, False) (hce : H[a9]? = some ce) (hcv : ce.vm = .none) (hcl : s.vm.findClass E = some ce.cls) (hcs : cells ≤ mc ∧ slots ≤ ms) (hx : px E) :
    vx_W p l e R s m args below meth c H locs cells slots (vx_MQ below (CQ D cs A post) (EX D cs A L f px) args s mc ms A) (F0 m pc ls rest) a9 :=
  vx_out (fun x hx9 => (hout x hx9).elim) hlk hce hcv hcl (fun t ht hal => ⟨(L, f), rfl, ⟨hx, by rw [ht]; exact w.1, va_K.moved hal X.2, w.2.1⟩, w.2.2.F ht⟩) w.2.2.2.2 hcs.1 hcs.2
theorem x_catchA {E : String} {ce : Cell} {a9 : Addr} {from9 to9 at9 ct : Nat} {suf : List (Nat × Nat × Nat × Nat)} (X : XX p m c cc nL s args Ts own D cs) (hT : c.exceptionTable.toList = tableOf ((from9, to9, at9, ct) :: suf)) (hw : Cond.classLink own ct E ∈ Ts) (h0 : ct ≠ 0) (hcov : covers ⟨from9, to9, at9, ct⟩ pc = true) (hct : va_Nw (.castable E E) s) (hce : H[a9]? = some ce) (hcv : ce.vm = .none) (hcl : s.vm.findClass E = some ce.cls)
    (kk : W p l e R s m args below meth c H locs cells slots Q (F0 m at9 ls [.ref a9])) : vx_W p l e R s m args below meth c H locs cells slots Q (F0 m pc ls rest) a9 :=
  vx_catch X.1.2.2.2.1 [] ⟨from9, to9, at9, ct⟩ (tableOf suf) hT (fun _ hz9 => absurd hz9 List.not_mem_nil) hcov h0 (X.1.2.2.2.2 _ hw) (va_Nw.use rfl hct) hce hcv hcl kk
theorem x_catchB {E E1 : String} {ce : Cell} {a9 : Addr} {from9 to9 at9 ct from8 to8 at8 ct8 : Nat} {suf : List (Nat × Nat × Nat × Nat)} (X : XX p m c cc nL s args Ts own D cs) (hT : c.exceptionTable.toList = tableOf ((from8, to8, at8, ct8) :: (from9, to9, at9, ct) :: suf)) (hw8 : Cond.classLink own ct8 E1 ∈ Ts) (h8 : ct8 ≠ 0) (hno : va_Nc E E1 s) (hw : Cond.classLink own ct E ∈ Ts) (h0 : ct ≠ 0) (hcov : covers ⟨from9, to9, at9, ct⟩ pc = true) (hct : va_Nw (.castable E E) s) (hce : H[a9]? = some ce) (hcv : ce.vm = .none) (hcl : s.vm.findClass E = some ce.cls)
    (kk : W p l e R s m args below meth c H locs cells slots Q (F0 m at9 ls [.ref a9])) : vx_W p l e R s m args below meth c H locs cells slots Q (F0 m pc ls rest) a9 := by
  refine vx_catch X.1.2.2.2.1 [⟨from8, to8, at8, ct8⟩] ⟨from9, to9, at9, ct⟩ (tableOf suf) hT (fun z hz9 => ?_) hcov h0 (X.1.2.2.2.2 _ hw) (va_Nw.use rfl hct) hce hcv hcl kk
  rcases List.mem_cons.mp hz9 with rfl | hz8
  · exact Or.inr ⟨h8, E1, X.1.2.2.2.2 _ hw8, hno⟩
  · exact absurd hz8 List.not_mem_nil
end XTHROWS
theorem xt_g43 : (∀ w ∈ (vx_atS RX3 43 XIA XNM).filter (fun w => !goodWord w), w ∈ XNG XIA) ∧ (∀ w ∈ Cond.classLink RX3 39 XIA :: Cond.initialized XIA :: vx_atS RX3 43 XIA XNM, vx_ot w = true) := ⟨by decide +kernel, by decide +kernel⟩
theorem xt_g58 : (∀ w ∈ (vx_atS RX3 58 XIS XNM).filter (fun w => !goodWord w), w ∈ XNG XIS) ∧ (∀ w ∈ Cond.classLink RX3 54 XIS :: Cond.initialized XIS :: vx_atS RX3 58 XIS XNM, vx_ot w = true) := ⟨by decide +kernel, by decide +kernel⟩
theorem xt_g143 : (∀ w ∈ (vx_atS RX3 143 XIO XNM).filter (fun w => !goodWord w), w ∈ XNG XIO) ∧ (∀ w ∈ Cond.classLink RX3 139 XIO :: Cond.initialized XIO :: vx_atS RX3 143 XIO XNM, vx_ot w = true) := ⟨by decide +kernel, by decide +kernel⟩
end
section
/-! the register as numbers: sums of pages, rows, what is done to them -/
theorem up_i {P : Int → Prop} (h0 : P 0) (hs : ∀ p, 0 ≤ p → P p → P (p + 1)) {p : Int} (h : 0 ≤ p) : P p := by
  have h2 : ∀ n : Nat, P (n : Int) := by
    intro n
    induction n with
    | zero => exact h0
    | succ n ih =>
      have h9 := hs (n : Int) (by omega) ih
      rw [show ((n + 1 : Nat) : Int) = (n : Int) + 1 by omega]
      exact h9
  have h3 := h2 p.toNat
  rw [show ((p.toNat : Nat) : Int) = p by omega] at h3
  exact h3
def smN (z : Int → Int) : Nat → Int | 0 => 0 | n + 1 => smN z n + z (n : Int)
def sm (z : Int → Int) (p : Int) : Int := smN z p.toNat
theorem sm_0 (z : Int → Int) : sm z 0 = 0 := rfl
theorem sm_s (z : Int → Int) {p : Int} (h : 0 ≤ p) : sm z (p + 1) = sm z p + z p := by
  have e : (p + 1).toNat = p.toNat + 1 := by omega
  show smN z (p + 1).toNat = smN z p.toNat + z p
  rw [e]
  show smN z p.toNat + z ((p.toNat : Nat) : Int) = _
  rw [show ((p.toNat : Nat) : Int) = p by omega]
theorem sm_b {z : Int → Int} {k p : Int} (hz : ∀ j, 0 ≤ j → j < k → 0 ≤ z j ∧ z j ≤ 4) (h : 0 ≤ p ∧ p ≤ k) : 0 ≤ sm z p ∧ sm z p ≤ 4 * p := by
  refine up_i (P := fun p => p ≤ k → 0 ≤ sm z p ∧ sm z p ≤ 4 * p) (fun _ => by rw [sm_0]; omega) (fun q hq ih hk => ?_) h.1 h.2
  have h1 := ih (by omega)
  have h2 := hz q hq (by omega)
  rw [sm_s z hq]; omega
theorem sm_mo {z : Int → Int} {k a b : Int} (hz : ∀ j, 0 ≤ j → j < k → 0 ≤ z j) (h : 0 ≤ a ∧ a ≤ b ∧ b ≤ k) : sm z a ≤ sm z b := by
  have h9 : a ≤ b → b ≤ k → sm z a ≤ sm z b := up_i (P := fun p => a ≤ p → p ≤ k → sm z a ≤ sm z p) ?_ (fun q hq ih h1 h2 => ?_) (show 0 ≤ b by omega)
  · exact h9 h.2.1 h.2.2
  · intro h1 _
    by_cases e : a = 0
    · rw [e]; exact Int.le_refl _
    · omega
  · by_cases e : a = q + 1
    · rw [e]; exact Int.le_refl _
    · have h3 := ih (by omega) (by omega)
      have h4 := hz q hq (by omega)
      rw [sm_s z hq]; omega
theorem sm_st {z : Int → Int} {k a b : Int} (hz : ∀ j, 0 ≤ j → j < k → 1 ≤ z j) (h : 0 ≤ a ∧ a ≤ b ∧ b ≤ k) : sm z a + (b - a) ≤ sm z b := by
  have h9 : a ≤ b → b ≤ k → sm z a + (b - a) ≤ sm z b := up_i (P := fun p => a ≤ p → p ≤ k → sm z a + (p - a) ≤ sm z p) ?_ (fun q hq ih h1 h2 => ?_) (show 0 ≤ b by omega)
  · exact h9 h.2.1 h.2.2
  · intro h1 _
    by_cases e : a = 0
    · rw [e]; omega
    · omega
  · by_cases e : a = q + 1
    · rw [e]; omega
    · have h3 := ih (by omega) (by omega)
      have h4 := hz q hq (by omega)
      rw [sm_s z hq]; omega
theorem sm_cg {z y : Int → Int} {p : Int} (hp : 0 ≤ p) (h : ∀ j, 0 ≤ j → j < p → z j = y j) : sm z p = sm y p := by
  refine up_i (P := fun q => q ≤ p → sm z q = sm y q) (fun _ => by rw [sm_0, sm_0]) (fun q hq ih hk => ?_) hp (Int.le_refl p)
  rw [sm_s z hq, sm_s y hq, ih (by omega), h q hq (by omega)]
def del {α : Type} (z : Int → α) (p : Int) : Int → α := fun j => if j < p then z j else z (j + 1)
def ins {α : Type} (z : Int → α) (p : Int) (v : α) : Int → α := fun j => if j < p then z j else if j = p then v else z (j - 1)
theorem sm_u (z : Int → Int) {i : Int} (v : Int) (hi : 0 ≤ i) {p : Int} (hp : 0 ≤ p) : sm (uI z i v) p = sm z p + (if i < p then v - z i else 0) := by
  refine up_i (P := fun p => sm (uI z i v) p = sm z p + (if i < p then v - z i else 0)) (by rw [sm_0, sm_0, if_neg (by omega)]; omega) (fun q hq ih => ?_) hp
  rw [sm_s _ hq, sm_s z hq, ih]
  by_cases h1 : q = i
  · subst h1; rw [uI_s, if_neg (by omega), if_pos (by omega)]; omega
  · rw [uI_n _ _ h1]
    by_cases h2 : i < q
    · rw [if_pos h2, if_pos (by omega)]; omega
    · rw [if_neg h2, if_neg (by omega)]; omega
theorem sm_d (z : Int → Int) {i : Int} (hi : 0 ≤ i) {p : Int} (hp : 0 ≤ p) : sm (del z i) p = if p ≤ i then sm z p else sm z (p + 1) - z i := by
  refine up_i (P := fun p => sm (del z i) p = if p ≤ i then sm z p else sm z (p + 1) - z i) (by rw [sm_0, sm_0, if_pos hi]) (fun q hq ih => ?_) hp
  rw [sm_s _ hq, ih]
  by_cases h1 : q < i
  · rw [if_pos (by omega), if_pos (by omega), sm_s z hq]
    show _ + (if q < i then z q else z (q + 1)) = _
    rw [if_pos h1]
  · rw [if_neg (by omega : ¬ q + 1 ≤ i), sm_s z (show 0 ≤ q + 1 by omega)]
    show _ + (if q < i then z q else z (q + 1)) = _
    rw [if_neg h1]
    by_cases h2 : q = i
    · subst h2; rw [if_pos (by omega), sm_s z hq]; omega
    · rw [if_neg (by omega)]; omega
theorem sm_i (z : Int → Int) {i : Int} (v : Int) (hi : 0 ≤ i) {p : Int} (hp : 0 ≤ p) : sm (ins z i v) p = if p ≤ i then sm z p else sm z (p - 1) + v := by
  refine up_i (P := fun p => sm (ins z i v) p = if p ≤ i then sm z p else sm z (p - 1) + v) (by rw [sm_0, sm_0, if_pos hi]) (fun q hq ih => ?_) hp
  rw [sm_s _ hq, ih]
  show _ + (if q < i then z q else if q = i then v else z (q - 1)) = _
  by_cases h1 : q < i
  · rw [if_pos (by omega), if_pos h1, if_pos (by omega), sm_s z hq]
  · rw [if_neg h1, if_neg (by omega : ¬ q + 1 ≤ i), show q + 1 - 1 = q by omega]
    by_cases h2 : q = i
    · rw [if_pos h2, if_pos (by omega)]
    · rw [if_neg h2, if_neg (by omega)]
      have h3 := sm_s z (show 0 ≤ q - 1 by omega)
      rw [show q - 1 + 1 = q by omega] at h3
      omega
/-! which page a place is on; where a case would go; where it is -/
def isPg (z : Int → Int) (k p q : Int) : Prop := 0 ≤ q ∧ q < k ∧ 0 ≤ p ∧ p < sm z (q + 1) ∧ ∀ j, 0 ≤ j → j < q → sm z (j + 1) ≤ p
noncomputable def pw (z : Int → Int) (k p : Int) : Int := @dite Int (∃ q, isPg z k p q) (Classical.propDecidable _) (fun h => Classical.choose h) (fun _ => -1)
theorem isPg_u {z : Int → Int} {k p q r : Int} (h : isPg z k p q) (g : isPg z k p r) : q = r := by
  obtain ⟨h1, h2, h3, h4, h5⟩ := h
  obtain ⟨g1, g2, g3, g4, g5⟩ := g
  by_cases h6 : q < r
  · have h7 := g5 q h1 h6; omega
  · by_cases h8 : r < q
    · have h7 := h5 r g1 h8; omega
    · omega
theorem pw_eq {z : Int → Int} {k p q : Int} (h : isPg z k p q) : pw z k p = q := by
  have e : ∃ q, isPg z k p q := ⟨q, h⟩
  unfold pw
  rw [dif_pos e]
  exact isPg_u (Classical.choose_spec e) h
theorem pw_no {z : Int → Int} {k p : Int} (h : ∀ q, ¬ isPg z k p q) : pw z k p = -1 := by
  unfold pw
  rw [dif_neg (fun e => e.elim h)]
theorem pg_ex {z : Int → Int} {k p : Int} (hz : ∀ j, 0 ≤ j → j < k → 0 ≤ z j) (hk : 0 ≤ k) (hp : 0 ≤ p ∧ p < sm z k) : ∃ q, isPg z k p q := by
  have h9 := up_i (P := fun r => r ≤ k → p < sm z r → ∃ q, isPg z r p q) (fun _ h => by rw [sm_0] at h; omega) (fun r hr ih hk h => ?_) hk
  · exact h9 (Int.le_refl k) hp.2
  · by_cases h1 : p < sm z r
    · obtain ⟨q, a, b, c, d, e⟩ := ih (by omega) h1
      exact ⟨q, a, by omega, c, d, e⟩
    · refine ⟨r, hr, by omega, hp.1, h, fun j h2 h3 => ?_⟩
      have h4 := sm_mo (k := k) hz (a := j + 1) (b := r) (by omega)
      omega
theorem pw_is {z : Int → Int} {k p : Int} (hz : ∀ j, 0 ≤ j → j < k → 0 ≤ z j) (hk : 0 ≤ k) (hp : 0 ≤ p ∧ p < sm z k) : isPg z k p (pw z k p) := by
  obtain ⟨q, h⟩ := pg_ex hz hk hp
  rw [pw_eq h]; exact h
theorem isPg_lo {z : Int → Int} {k p q : Int} (h : isPg z k p q) : sm z q ≤ p := by
  obtain ⟨h1, h2, h3, h4, h5⟩ := h
  by_cases h6 : q = 0
  · rw [h6, sm_0]; exact h3
  · have h7 := h5 (q - 1) (by omega) (by omega)
    rw [show q - 1 + 1 = q by omega] at h7; exact h7
abbrev Rc : Type := Int → Nat → Int
def isCu (R : Rc) (n v p : Int) : Prop := 0 ≤ p ∧ p ≤ n ∧ (∀ j, 0 ≤ j → j < p → R j 0 ≤ v) ∧ (p < n → v < R p 0)
noncomputable def cu (R : Rc) (n v : Int) : Int := @dite Int (∃ q, isCu R n v q) (Classical.propDecidable _) (fun h => Classical.choose h) (fun _ => 0)
theorem isCu_u {R : Rc} {n v q r : Int} (h : isCu R n v q) (g : isCu R n v r) : q = r := by
  obtain ⟨h1, h2, h3, h4⟩ := h
  obtain ⟨g1, g2, g3, g4⟩ := g
  by_cases h6 : q < r
  · have h7 := g3 q h1 h6; have h8 := h4 (by omega); omega
  · by_cases h8 : r < q
    · have h7 := h3 r g1 h8; have h8 := g4 (by omega); omega
    · omega
theorem cu_eq {R : Rc} {n v q : Int} (h : isCu R n v q) : cu R n v = q := by
  have e : ∃ q, isCu R n v q := ⟨q, h⟩
  unfold cu
  rw [dif_pos e]
  exact isCu_u (Classical.choose_spec e) h
theorem cu_ex (R : Rc) {n : Int} (v : Int) (hn : 0 ≤ n) : ∃ q, isCu R n v q := by
  refine up_i (P := fun r => ∃ q, isCu R r v q) ⟨0, by omega, by omega, fun j h1 h2 => by omega, fun h => by omega⟩ (fun r hr ih => ?_) hn
  obtain ⟨q, a, b, c, d⟩ := ih
  by_cases h1 : q < r
  · exact ⟨q, a, by omega, c, fun _ => d h1⟩
  · have h2 : q = r := by omega
    subst h2
    by_cases h3 : R q 0 ≤ v
    · refine ⟨q + 1, by omega, by omega, fun j h4 h5 => ?_, fun h => by omega⟩
      by_cases h6 : j = q
      · rw [h6]; exact h3
      · exact c j h4 (by omega)
    · exact ⟨q, a, by omega, c, fun _ => by omega⟩
theorem cu_is (R : Rc) {n : Int} (v : Int) (hn : 0 ≤ n) : isCu R n v (cu R n v) := by
  obtain ⟨q, h⟩ := cu_ex R v hn
  rw [cu_eq h]; exact h
def so (R : Rc) (n : Int) : Prop := ∀ i j, 0 ≤ i → i < j → j < n → R i 0 < R j 0
theorem so.le {R : Rc} {n : Int} (h : so R n) {i j : Int} (h1 : 0 ≤ i) (h2 : i ≤ j) (h3 : j < n) : R i 0 ≤ R j 0 := by
  by_cases e : i = j
  · rw [e]; exact Int.le_refl _
  · have h4 := h i j h1 (by omega) h3; omega
theorem so.inj {R : Rc} {n : Int} (h : so R n) {i j : Int} (h1 : 0 ≤ i ∧ i < n) (h2 : 0 ≤ j ∧ j < n) (h3 : R i 0 = R j 0) : i = j := by
  by_cases e : i < j
  · have h4 := h i j h1.1 e h2.2; omega
  · by_cases e2 : j < i
    · have h4 := h j i h2.1 e2 h1.2; omega
    · omega
def isFd (R : Rc) (n v j : Int) : Prop := 0 ≤ j ∧ j < n ∧ R j 0 = v
noncomputable def fd (R : Rc) (n v : Int) : Int := @dite Int (∃ q, isFd R n v q) (Classical.propDecidable _) (fun h => Classical.choose h) (fun _ => -1)
theorem fd_eq {R : Rc} {n v q : Int} (hs : so R n) (h : isFd R n v q) : fd R n v = q := by
  have e : ∃ q, isFd R n v q := ⟨q, h⟩
  unfold fd
  rw [dif_pos e]
  have g := Classical.choose_spec e
  exact hs.inj ⟨g.1, g.2.1⟩ ⟨h.1, h.2.1⟩ (g.2.2.trans h.2.2.symm)
theorem fd_no {R : Rc} {n v : Int} (h : ∀ j, 0 ≤ j → j < n → R j 0 ≠ v) : fd R n v = -1 := by
  unfold fd
  rw [dif_neg (fun e => e.elim (fun j q => h j q.1 q.2.1 q.2.2))]
theorem fd_or {R : Rc} {n v : Int} : isFd R n v (fd R n v) ∨ (fd R n v = -1 ∧ ∀ j, 0 ≤ j → j < n → R j 0 ≠ v) := by
  by_cases e : ∃ q, isFd R n v q
  · left
    unfold fd
    rw [dif_pos e]
    exact Classical.choose_spec e
  · exact Or.inr ⟨fd_no (fun j a b c => e ⟨j, a, b, c⟩), fun j a b c => e ⟨j, a, b, c⟩⟩
theorem fd_rg {R : Rc} {n v : Int} (hn : 0 ≤ n) : -1 ≤ fd R n v ∧ fd R n v < n + 1 := by
  rcases fd_or (R := R) (n := n) (v := v) with h | h
  · have := h.1; have := h.2.1; omega
  · omega
theorem fd_in {R : Rc} {n v : Int} (h : fd R n v ≠ -1) : 0 ≤ fd R n v ∧ fd R n v < n ∧ R (fd R n v) 0 = v := by
  rcases fd_or (R := R) (n := n) (v := v) with g | g
  · exact g
  · exact absurd g.1 h
/-- where 'cu' stands, a case is or isn't -/
theorem cu_fd {R : Rc} {n v p : Int} (hs : so R n) (h : isCu R n v p) : (1 ≤ p ∧ R (p - 1) 0 = v ∧ fd R n v = p - 1) ∨ ((p = 0 ∨ R (p - 1) 0 ≠ v) ∧ fd R n v = -1) := by
  obtain ⟨h1, h2, h3, h4⟩ := h
  by_cases e : 1 ≤ p ∧ R (p - 1) 0 = v
  · exact Or.inl ⟨e.1, e.2, fd_eq hs ⟨by omega, by omega, e.2⟩⟩
  · refine Or.inr ⟨?_, fd_no (fun j a b c => ?_)⟩
    · by_cases q : p = 0
      · exact Or.inl q
      · exact Or.inr (fun c => e ⟨by omega, c⟩)
    · by_cases q : j < p
      · have h5 := hs.le (i := j) (j := p - 1) a (by omega) (by omega)
        have h6 := h3 (p - 1) (by omega) (by omega)
        exact e ⟨by omega, by omega⟩
      · have h5 := hs.le (i := p) (j := j) h1 (by omega) b
        have h6 := h4 (by omega)
        omega
def hsN (R : Rc) (s : Int) : Nat → Int | 0 => 0 | n + 1 => hsN R s n + if R (n : Int) 2 = s then R (n : Int) 1 else 0
def hs (R : Rc) (s n : Int) : Int := hsN R s n.toNat
theorem hs_0 (R : Rc) (s : Int) : hs R s 0 = 0 := rfl
theorem hs_s (R : Rc) (s : Int) {p : Int} (h : 0 ≤ p) : hs R s (p + 1) = hs R s p + if R p 2 = s then R p 1 else 0 := by
  have e : (p + 1).toNat = p.toNat + 1 := by omega
  show hsN R s (p + 1).toNat = hsN R s p.toNat + _
  rw [e]
  show hsN R s p.toNat + (if R ((p.toNat : Nat) : Int) 2 = s then R ((p.toNat : Nat) : Int) 1 else 0) = _
  rw [show ((p.toNat : Nat) : Int) = p by omega]
/-! moves of records between pages -/
def mvz (z : Int → Int) (a b : Int) : Int → Int := uI (uI z a (z a - 1)) b (z b + 1)
def mvK (z : Int → Int) (k a : Int) : Int := if z a - 1 = 0 then k - 1 else k
def mvZ (z : Int → Int) (a b : Int) : Int → Int := if z a - 1 = 0 then del (mvz z a b) a else mvz z a b
def bjA (z : Int → Int) (k p : Int) : Int := if p + 1 < k ∧ 3 ≤ z (p + 1) then p + 1 else if 0 < p ∧ 3 ≤ z (p - 1) then p - 1 else p
def bjB (z : Int → Int) (k p : Int) : Int := if p + 1 < k ∧ 3 ≤ z (p + 1) then p else if 0 < p ∧ 3 ≤ z (p - 1) then p else if p + 1 < k then p + 1 else p - 1
def tk1 (z : Int → Int) (p : Int) : Int → Int := uI z p (z p - 1)
def tkK (z : Int → Int) (k p : Int) : Int := if z p - 1 = 0 then k - 1 else if z p - 1 = 1 ∧ 1 < k then mvK (tk1 z p) k (bjA (tk1 z p) k p) else k
def tkZ (z : Int → Int) (k p : Int) : Int → Int := if z p - 1 = 0 then del (tk1 z p) p else if z p - 1 = 1 ∧ 1 < k then mvZ (tk1 z p) (bjA (tk1 z p) k p) (bjB (tk1 z p) k p) else tk1 z p
def pp1 (p : Int) : Int := if 1 ≤ p then p - 1 else 0
noncomputable def spK (z : Int → Int) (k p : Int) : Int := if 0 < k ∧ 4 ≤ z (pw z k (pp1 p)) then k + 1 else k
noncomputable def spZ (z : Int → Int) (k p : Int) : Int → Int := if 0 < k ∧ 4 ≤ z (pw z k (pp1 p)) then uI (ins z (pw z k (pp1 p) + 1) 2) (pw z k (pp1 p)) (z (pw z k (pp1 p)) - 2) else z
def adK (k : Int) : Int := if k = 0 then 1 else k
noncomputable def adZ (z : Int → Int) (k p : Int) : Int → Int := if k = 0 then uI z 0 1 else uI z (pw z k (pp1 p)) (z (pw z k (pp1 p)) + 1)
def nR (a b c d : Int) : Nat → Int := fun i => match i with | 0 => a | 1 => b | 2 => c | 3 => d | _ => -1
def uN (g : Nat → Int) (i : Nat) (v : Int) : Nat → Int := fun j => if j = i then v else g j
/-- the register: how many records, the records, how many pages, their sizes, today, what was kept, what was paid back, the sweep, the readers -/
abbrev Sg : Type := Int × Rc × Int × (Int → Int) × Int × Int × Int × Int × (Int → Int)
def gN (σ : Sg) : Int := σ.1
def gR (σ : Sg) : Rc := σ.2.1
def gK (σ : Sg) : Int := σ.2.2.1
def gZ (σ : Sg) : Int → Int := σ.2.2.2.1
def gT (σ : Sg) : Int := σ.2.2.2.2.1
def gP (σ : Sg) : Int := σ.2.2.2.2.2.1
def gB (σ : Sg) : Int := σ.2.2.2.2.2.2.1
def gS (σ : Sg) : Int := σ.2.2.2.2.2.2.2.1
def gW (σ : Sg) : Int → Int := σ.2.2.2.2.2.2.2.2
def Inv (σ : Sg) : Prop :=
  (0 ≤ gN σ ∧ gN σ ≤ 80) ∧ (∀ j, 0 ≤ j → j < gN σ → (0 ≤ gR σ j 0 ∧ gR σ j 0 ≤ 999) ∧ (1 ≤ gR σ j 1 ∧ gR σ j 1 ≤ 10000) ∧ (0 ≤ gR σ j 2 ∧ gR σ j 2 ≤ 9) ∧ (0 ≤ gR σ j 3 ∧ gR σ j 3 ≤ 5000) ∧ (-1 ≤ gR σ j 4 ∧ gR σ j 4 ≤ 5000)) ∧
  so (gR σ) (gN σ) ∧ (0 ≤ gK σ ∧ gK σ ≤ 80) ∧ (∀ j, 0 ≤ j → j < gK σ → 1 ≤ gZ σ j ∧ gZ σ j ≤ 4) ∧ sm (gZ σ) (gK σ) = gN σ ∧ (0 ≤ gT σ ∧ gT σ ≤ 5000) ∧ (-1 ≤ gS σ ∧ gS σ ≤ 80) ∧ (∀ j, 0 ≤ j → j < 4 → -1 ≤ gW σ j ∧ gW σ j ≤ 999)
noncomputable def oTake (p : Int) (σ : Sg) : Sg :=
  (gN σ - 1, del (gR σ) p, tkK (gZ σ) (gK σ) (pw (gZ σ) (gK σ) p), tkZ (gZ σ) (gK σ) (pw (gZ σ) (gK σ) p), gT σ, gP σ, gB σ, if tkK (gZ σ) (gK σ) (pw (gZ σ) (gK σ) p) ≤ gS σ then -1 else gS σ, gW σ)
def oAdd (b : Bool) (v : Int) (σ : Sg) : Sg := (gN σ, gR σ, gK σ, gZ σ, gT σ, if b = true then gP σ + v else gP σ, if b = true then gB σ else gB σ + v, gS σ, gW σ)
/-- taking out, from a place on, all records of a kind: m are left to be looked at -/
noncomputable def oLoop (P : (Nat → Int) → Bool) (b : Bool) : Nat → Int → Sg → Int × Sg
  | 0, _, σ => (0, σ)
  | m + 1, p, σ => if P (gR σ p) = true then ((oLoop P b m p (oTake p (oAdd b (gR σ p 1) σ))).1 + 1, (oLoop P b m p (oTake p (oAdd b (gR σ p 1) σ))).2) else oLoop P b m (p + 1) σ
def amP (su dy : Int) (r : Nat → Int) : Bool := decide (r 4 = -1 ∧ r 1 ≤ su ∧ r 3 ≤ dy)
def ovP (t : Int) (r : Nat → Int) : Bool := decide (r 4 ≠ -1 ∧ t > r 4 + 14)
def oDay (σ : Sg) : Sg := (gN σ, gR σ, gK σ, gZ σ, gT σ + 1, gP σ, gB σ, gS σ, gW σ)
noncomputable def oOv (σ : Sg) : Int × Sg := oLoop (ovP (gT σ)) true (gN σ).toNat 0 σ
noncomputable def oDays : Nat → Sg → Int × Sg
  | 0, σ => (0, σ)
  | d + 1, σ => ((oOv (oDay σ)).1 + (oDays d (oOv (oDay σ)).2).1, (oDays d (oOv (oDay σ)).2).2)
def oSetS (v : Int) (σ : Sg) : Sg := (gN σ, gR σ, gK σ, gZ σ, gT σ, gP σ, gB σ, v, gW σ)
def oMv (σ : Sg) : Sg := (gN σ, gR σ, mvK (gZ σ) (gK σ) (gS σ + 1), mvZ (gZ σ) (gS σ + 1) (gS σ), gT σ, gP σ, gB σ, gS σ, gW σ)
/-- one step of the sweep: 1 if it moves a record -/
def oSw (σ : Sg) : Int × Sg := if gS σ + 1 < gK σ then (if 4 ≤ gZ σ (gS σ) then (0, oSetS (gS σ + 1) σ) else (1, oMv σ)) else (0, oSetS (-1) σ)
def oSteps : Nat → Sg → Int × Sg
  | 0, σ => (0, σ)
  | d + 1, σ => if gS σ = -1 then (0, σ) else ((oSw σ).1 + (oSteps d (oSw σ).2).1, (oSteps d (oSw σ).2).2)
def oSetR (R : Rc) (σ : Sg) : Sg := (gN σ, R, gK σ, gZ σ, gT σ, gP σ, gB σ, gS σ, gW σ)
def oSetW (w : Int → Int) (σ : Sg) : Sg := (gN σ, gR σ, gK σ, gZ σ, gT σ, gP σ, gB σ, gS σ, w)
noncomputable def oIns (nu su sy : Int) (σ : Sg) : Sg :=
  (gN σ + 1, ins (gR σ) (cu (gR σ) (gN σ) nu) (nR nu su sy (gT σ)), adK (spK (gZ σ) (gK σ) (cu (gR σ) (gN σ) nu)), adZ (spZ (gZ σ) (gK σ) (cu (gR σ) (gN σ) nu)) (spK (gZ σ) (gK σ) (cu (gR σ) (gN σ) nu)) (cu (gR σ) (gN σ) nu), gT σ, gP σ, gB σ, gS σ, gW σ)
/-! the calls: (the place of what is thrown, or 0; the answer; the register then) -/
def isC (nu : Int) : Prop := 0 ≤ nu ∧ nu ≤ 999
noncomputable def qF (nu : Int) (σ : Sg) : Int := fd (gR σ) (gN σ) nu
noncomputable def oPut (nu su sy : Int) (σ : Sg) : Int × Int × Sg :=
  if 0 ≤ nu ∧ nu ≤ 999 ∧ 1 ≤ su ∧ su ≤ 10000 ∧ 0 ≤ sy ∧ sy ≤ 9 then (if qF nu σ ≠ -1 ∨ 80 ≤ gN σ then (2, 0, σ) else (0, gK (oIns nu su sy σ), oIns nu su sy σ)) else (1, 0, σ)
noncomputable def oPay (nu : Int) (σ : Sg) : Int × Int × Sg :=
  if 0 ≤ nu ∧ nu ≤ 999 then (if qF nu σ = -1 ∨ gR σ (qF nu σ) 4 ≠ -1 then (2, 0, σ) else (0, gR σ (qF nu σ) 1, oTake (qF nu σ) (oAdd false (gR σ (qF nu σ) 1) σ))) else (1, 0, σ)
noncomputable def oFor (nu : Int) (σ : Sg) : Int × Int × Sg :=
  if 0 ≤ nu ∧ nu ≤ 999 then (if qF nu σ = -1 ∨ gR σ (qF nu σ) 4 ≠ -1 then (2, 0, σ) else (0, 0, oSetR (uI (gR σ) (qF nu σ) (uN (gR σ (qF nu σ)) 4 (gT σ))) σ)) else (1, 0, σ)
noncomputable def oUnd (nu : Int) (σ : Sg) : Int × Int × Sg :=
  if 0 ≤ nu ∧ nu ≤ 999 then (if qF nu σ = -1 ∨ gR σ (qF nu σ) 4 = -1 then (2, 0, σ) else (0, gT σ - gR σ (qF nu σ) 4, oSetR (uI (gR σ) (qF nu σ) (uN (gR σ (qF nu σ)) 4 (-1))) σ)) else (1, 0, σ)
noncomputable def oAmn (su dy : Int) (σ : Sg) : Int × Int × Sg :=
  if 1 ≤ su ∧ su ≤ 10000 ∧ 0 ≤ dy ∧ dy ≤ gT σ then (0, (oLoop (amP su dy) false (gN σ).toNat 0 σ).1, (oLoop (amP su dy) false (gN σ).toNat 0 σ).2) else (1, 0, σ)
noncomputable def oSum (nu : Int) (σ : Sg) : Int × Int × Sg := if 0 ≤ nu ∧ nu ≤ 999 then (0, if qF nu σ = -1 then 0 else gR σ (qF nu σ) 1, σ) else (1, 0, σ)
noncomputable def oIsF (nu : Int) (σ : Sg) : Int × Int × Sg := if 0 ≤ nu ∧ nu ≤ 999 then (0, if qF nu σ = -1 ∨ gR σ (qF nu σ) 4 = -1 then 0 else 1, σ) else (1, 0, σ)
def oHel (sy : Int) (σ : Sg) : Int × Int × Sg := if 0 ≤ sy ∧ sy ≤ 9 then (0, hs (gR σ) sy (gN σ), σ) else (1, 0, σ)
noncomputable def oPas (d : Int) (σ : Sg) : Int × Int × Sg :=
  if 1 ≤ d ∧ d ≤ 100 then (if 5000 < gT σ + d then (2, 0, σ) else (0, (oDays d.toNat σ).1, (oDays d.toNat σ).2)) else (1, 0, σ)
def oSiz (pg : Int) (σ : Sg) : Int × Int × Sg := if 0 ≤ pg ∧ pg < gK σ then (0, gZ σ pg, σ) else (1, 0, σ)
def oAt (pg pl : Int) (σ : Sg) : Int × Int × Sg := if (0 ≤ pg ∧ pg < gK σ) ∧ 0 ≤ pl ∧ pl < gZ σ pg then (0, gR σ (sm (gZ σ) pg + pl) 0, σ) else (1, 0, σ)
noncomputable def oPgO (nu : Int) (σ : Sg) : Int × Int × Sg := if 0 ≤ nu ∧ nu ≤ 999 then (0, pw (gZ σ) (gK σ) (qF nu σ), σ) else (1, 0, σ)
def oSwe (σ : Sg) : Int × Int × Sg := if gS σ = -1 then (0, 0, oSetS 0 σ) else (1, 0, σ)
def oSte (d : Int) (σ : Sg) : Int × Int × Sg := if 1 ≤ d ∧ d ≤ 100 then (if gS σ = -1 then (2, 0, σ) else (0, (oSteps d.toNat σ).1, (oSteps d.toNat σ).2)) else (1, 0, σ)
noncomputable def wkV (rd : Int) (σ : Sg) : Int := if cu (gR σ) (gN σ) (gW σ rd) < gN σ then gR σ (cu (gR σ) (gN σ) (gW σ rd)) 0 else -1
noncomputable def oWal (rd : Int) (σ : Sg) : Int × Int × Sg := if 0 ≤ rd ∧ rd ≤ 3 then (0, wkV rd σ, oSetW (uI (gW σ) rd (wkV rd σ)) σ) else (1, 0, σ)
end
section
/-! what holds of every register, kept by every call -/
section INVS
variable {σ : Sg}
theorem Inv.n (h : Inv σ) : 0 ≤ gN σ ∧ gN σ ≤ 80 := h.1
theorem Inv.r (h : Inv σ) : ∀ j, 0 ≤ j → j < gN σ → (0 ≤ gR σ j 0 ∧ gR σ j 0 ≤ 999) ∧ (1 ≤ gR σ j 1 ∧ gR σ j 1 ≤ 10000) ∧ (0 ≤ gR σ j 2 ∧ gR σ j 2 ≤ 9) ∧ (0 ≤ gR σ j 3 ∧ gR σ j 3 ≤ 5000) ∧ (-1 ≤ gR σ j 4 ∧ gR σ j 4 ≤ 5000) := h.2.1
theorem Inv.r0 (h : Inv σ) : ∀ j, 0 ≤ j → j < gN σ → 0 ≤ gR σ j 0 ∧ gR σ j 0 ≤ 999 := fun j a b => (h.r j a b).1
theorem Inv.r2 (h : Inv σ) : ∀ j, 0 ≤ j → j < gN σ → 0 ≤ gR σ j 2 ∧ gR σ j 2 ≤ 9 := fun j a b => (h.r j a b).2.2.1
theorem Inv.so (h : Inv σ) : so (gR σ) (gN σ) := h.2.2.1
theorem Inv.k (h : Inv σ) : 0 ≤ gK σ ∧ gK σ ≤ 80 := h.2.2.2.1
theorem Inv.z1 (h : Inv σ) : ∀ j, 0 ≤ j → j < gK σ → 1 ≤ gZ σ j ∧ gZ σ j ≤ 4 := h.2.2.2.2.1
theorem Inv.z4 (h : Inv σ) : ∀ j, 0 ≤ j → j < gK σ → 0 ≤ gZ σ j ∧ gZ σ j ≤ 4 := fun j a b => by have hq1 := h.z1 j a b; omega
theorem Inv.z0 (h : Inv σ) : ∀ j, 0 ≤ j → j < gK σ → 0 ≤ gZ σ j := fun j a b => (h.z4 j a b).1
theorem Inv.sm (h : Inv σ) : sm (gZ σ) (gK σ) = gN σ := h.2.2.2.2.2.1
theorem Inv.t (h : Inv σ) : 0 ≤ gT σ ∧ gT σ ≤ 5000 := h.2.2.2.2.2.2.1
theorem Inv.s (h : Inv σ) : -1 ≤ gS σ ∧ gS σ ≤ 80 := h.2.2.2.2.2.2.2.1
theorem Inv.w (h : Inv σ) : ∀ j, 0 ≤ j → j < 4 → -1 ≤ gW σ j ∧ gW σ j ≤ 999 := h.2.2.2.2.2.2.2.2
theorem Inv.pg (h : Inv σ) {p : Int} (hp : 0 ≤ p ∧ p < gN σ) : isPg (gZ σ) (gK σ) p (pw (gZ σ) (gK σ) p) := pw_is h.z0 h.k.1 (by rw [h.sm]; exact hp)
theorem Inv.pgr (h : Inv σ) {p : Int} (hp : 0 ≤ p ∧ p < gN σ) : 0 ≤ pw (gZ σ) (gK σ) p ∧ pw (gZ σ) (gK σ) p < gK σ := ⟨(h.pg hp).1, (h.pg hp).2.1⟩
end INVS
theorem k_le {z : Int → Int} {k : Int} (hk : 0 ≤ k) (hz : ∀ j, 0 ≤ j → j < k → 1 ≤ z j ∧ z j ≤ 4) : k ≤ sm z k := by
  have h1 := sm_st (a := 0) (b := k) (fun j a b => (hz j a b).1) ⟨by omega, hk, by omega⟩
  rw [sm_0] at h1; omega
theorem mv_ok {y : Int → Int} {k a b : Int} (hk : 0 ≤ k) (hy : ∀ j, 0 ≤ j → j < k → 1 ≤ y j ∧ y j ≤ 4) (ha : 0 ≤ a ∧ a < k) (hb : 0 ≤ b ∧ b < k) (hn : a ≠ b) (h3 : y b ≤ 3) :
    (0 ≤ mvK y k a ∧ mvK y k a ≤ k) ∧ (∀ j, 0 ≤ j → j < mvK y k a → 1 ≤ mvZ y a b j ∧ mvZ y a b j ≤ 4) ∧ sm (mvZ y a b) (mvK y k a) = sm y k := by
  have hya := hy a ha.1 ha.2
  have hyb := hy b hb.1 hb.2
  have e1 : mvz y a b a = y a - 1 := by unfold mvz; rw [uI_n _ _ hn, uI_s]
  have hs : sm (mvz y a b) k = sm y k := by
    unfold mvz
    rw [sm_u _ _ hb.1 hk, sm_u _ _ ha.1 hk, if_pos ha.2, if_pos hb.2, uI_n _ _ (Ne.symm hn)]; omega
  have hm : ∀ j, 0 ≤ j → j < k → j ≠ a → 1 ≤ mvz y a b j ∧ mvz y a b j ≤ 4 := by
    intro j h1 h2 h4
    have hyj := hy j h1 h2
    unfold mvz
    by_cases h5 : j = b
    · rw [h5, uI_s]; omega
    · rw [uI_n _ _ h5, uI_n _ _ h4]; exact hyj
  by_cases h0 : y a - 1 = 0
  · have eK : mvK y k a = k - 1 := if_pos h0
    have eZ : mvZ y a b = del (mvz y a b) a := if_pos h0
    rw [eK, eZ]
    refine ⟨by omega, fun j h1 h2 => ?_, ?_⟩
    · show 1 ≤ (if j < a then mvz y a b j else mvz y a b (j + 1)) ∧ (if j < a then mvz y a b j else mvz y a b (j + 1)) ≤ 4
      by_cases h4 : j < a
      · rw [if_pos h4]; exact hm j h1 (by omega) (by omega)
      · rw [if_neg h4]; exact hm (j + 1) (by omega) (by omega) (by omega)
    · rw [sm_d _ ha.1 (by omega), e1]
      by_cases h4 : k - 1 ≤ a
      · rw [if_pos h4]
        have h5 := sm_s (mvz y a b) (p := k - 1) (by omega)
        rw [show k - 1 + 1 = k by omega, show k - 1 = a by omega, e1, hs] at h5
        rw [show k - 1 = a by omega]; omega
      · rw [if_neg h4, show k - 1 + 1 = k by omega, hs]; omega
  · have eK : mvK y k a = k := if_neg h0
    have eZ : mvZ y a b = mvz y a b := if_neg h0
    rw [eK, eZ]
    refine ⟨by omega, fun j h1 h2 => ?_, hs⟩
    by_cases h4 : j = a
    · rw [h4, e1]; omega
    · exact hm j h1 h2 h4
theorem bj_ok {y : Int → Int} {k p : Int} (hk : 1 < k) (hy : ∀ j, 0 ≤ j → j < k → 1 ≤ y j ∧ y j ≤ 4) (hp : 0 ≤ p ∧ p < k) (h1 : y p = 1) :
    (0 ≤ bjA y k p ∧ bjA y k p < k) ∧ (0 ≤ bjB y k p ∧ bjB y k p < k) ∧ bjA y k p ≠ bjB y k p ∧ y (bjB y k p) ≤ 3 := by
  unfold bjA bjB
  by_cases c1 : p + 1 < k ∧ 3 ≤ y (p + 1)
  · rw [if_pos c1, if_pos c1]; omega
  · rw [if_neg c1, if_neg c1]
    by_cases c2 : 0 < p ∧ 3 ≤ y (p - 1)
    · rw [if_pos c2, if_pos c2]; omega
    · rw [if_neg c2, if_neg c2]
      by_cases c3 : p + 1 < k
      · rw [if_pos c3]; omega
      · rw [if_neg c3]
        have h2 : 0 < p := by omega
        have h3 : ¬ 3 ≤ y (p - 1) := fun h => c2 ⟨h2, h⟩
        omega
theorem tk_ok {z : Int → Int} {k p : Int} (hz : ∀ j, 0 ≤ j → j < k → 1 ≤ z j ∧ z j ≤ 4) (hp : 0 ≤ p ∧ p < k) :
    (0 ≤ tkK z k p ∧ tkK z k p ≤ k) ∧ (∀ j, 0 ≤ j → j < tkK z k p → 1 ≤ tkZ z k p j ∧ tkZ z k p j ≤ 4) ∧ sm (tkZ z k p) (tkK z k p) = sm z k - 1 := by
  have hzp := hz p hp.1 hp.2
  have e1 : tk1 z p p = z p - 1 := uI_s _ _ _
  have e2 : ∀ j, j ≠ p → tk1 z p j = z j := fun j h => uI_n _ _ h
  have hs : sm (tk1 z p) k = sm z k - 1 := by
    unfold tk1
    rw [sm_u _ _ hp.1 (by omega), if_pos hp.2]; omega
  by_cases h0 : z p - 1 = 0
  · have eK : tkK z k p = k - 1 := if_pos h0
    have eZ : tkZ z k p = del (tk1 z p) p := if_pos h0
    rw [eK, eZ]
    refine ⟨by omega, fun j h1 h2 => ?_, ?_⟩
    · show 1 ≤ (if j < p then tk1 z p j else tk1 z p (j + 1)) ∧ (if j < p then tk1 z p j else tk1 z p (j + 1)) ≤ 4
      by_cases h4 : j < p
      · rw [if_pos h4, e2 j (by omega)]; exact hz j h1 (by omega)
      · rw [if_neg h4, e2 (j + 1) (by omega)]; exact hz (j + 1) (by omega) (by omega)
    · rw [sm_d _ hp.1 (by omega), e1]
      by_cases h4 : k - 1 ≤ p
      · rw [if_pos h4]
        have h5 := sm_s (tk1 z p) (p := k - 1) (by omega)
        rw [show k - 1 + 1 = k by omega, show k - 1 = p by omega, e1, hs] at h5
        rw [show k - 1 = p by omega]; omega
      · rw [if_neg h4, show k - 1 + 1 = k by omega, hs]; omega
  · have hy : ∀ j, 0 ≤ j → j < k → 1 ≤ tk1 z p j ∧ tk1 z p j ≤ 4 := by
      intro j h1 h2
      by_cases h4 : j = p
      · rw [h4, e1]; omega
      · rw [e2 j h4]; exact hz j h1 h2
    by_cases hc : z p - 1 = 1 ∧ 1 < k
    · have eK : tkK z k p = mvK (tk1 z p) k (bjA (tk1 z p) k p) := (if_neg h0).trans (if_pos hc)
      have eZ : tkZ z k p = mvZ (tk1 z p) (bjA (tk1 z p) k p) (bjB (tk1 z p) k p) := (if_neg h0).trans (if_pos hc)
      have hb := bj_ok hc.2 hy hp (by rw [e1]; exact hc.1)
      rw [eK, eZ, ← hs]
      exact mv_ok (by omega) hy hb.1 hb.2.1 hb.2.2.1 hb.2.2.2
    · have eK : tkK z k p = k := (if_neg h0).trans (if_neg hc)
      have eZ : tkZ z k p = tk1 z p := (if_neg h0).trans (if_neg hc)
      rw [eK, eZ]
      exact ⟨by omega, hy, hs⟩
theorem so_d {R : Rc} {n p : Int} (h : so R n) (hp : 0 ≤ p) : so (del R p) (n - 1) := by
  intro i j h1 h2 h3
  show (if i < p then R i else R (i + 1)) 0 < (if j < p then R j else R (j + 1)) 0
  by_cases c1 : i < p
  · rw [if_pos c1]
    by_cases c2 : j < p
    · rw [if_pos c2]; exact h i j h1 h2 (by omega)
    · rw [if_neg c2]; exact h i (j + 1) h1 (by omega) (by omega)
  · rw [if_neg c1, if_neg (by omega)]; exact h (i + 1) (j + 1) (by omega) (by omega) (by omega)
theorem Inv.take {σ : Sg} (h : Inv σ) {p : Int} (hp : 0 ≤ p ∧ p < gN σ) : Inv (oTake p σ) := by
  have hn := h.n; have hk := h.k; have hs := h.s
  have ht := tk_ok h.z1 (h.pgr hp)
  refine ⟨⟨by show 0 ≤ gN σ - 1; omega, by show gN σ - 1 ≤ 80; omega⟩, fun j h1 h2 => ?_, so_d h.so hp.1, ⟨ht.1.1, by have h3 := ht.1.2; show tkK _ _ _ ≤ 80; omega⟩, ht.2.1, ?_, h.t, ?_, h.w⟩
  · have h2 : j < gN σ - 1 := h2
    show (0 ≤ (if j < p then gR σ j else gR σ (j + 1)) 0 ∧ (if j < p then gR σ j else gR σ (j + 1)) 0 ≤ 999) ∧ (1 ≤ (if j < p then gR σ j else gR σ (j + 1)) 1 ∧ (if j < p then gR σ j else gR σ (j + 1)) 1 ≤ 10000) ∧ (0 ≤ (if j < p then gR σ j else gR σ (j + 1)) 2 ∧ (if j < p then gR σ j else gR σ (j + 1)) 2 ≤ 9) ∧ (0 ≤ (if j < p then gR σ j else gR σ (j + 1)) 3 ∧ (if j < p then gR σ j else gR σ (j + 1)) 3 ≤ 5000) ∧ (-1 ≤ (if j < p then gR σ j else gR σ (j + 1)) 4 ∧ (if j < p then gR σ j else gR σ (j + 1)) 4 ≤ 5000)
    by_cases c1 : j < p
    · rw [if_pos c1]; exact h.r j h1 (by omega)
    · rw [if_neg c1]; exact h.r (j + 1) (by omega) (by omega)
  · exact ht.2.2.trans (by rw [h.sm]; rfl)
  · show -1 ≤ (if _ ≤ gS σ then (-1 : Int) else gS σ) ∧ (if _ ≤ gS σ then (-1 : Int) else gS σ) ≤ 80
    split <;> omega
theorem Inv.add {σ : Sg} (h : Inv σ) (b : Bool) (v : Int) : Inv (oAdd b v σ) := h
theorem Inv.day {σ : Sg} (h : Inv σ) (ht : gT σ < 5000) : Inv (oDay σ) :=
  ⟨h.n, h.r, h.so, h.k, h.z1, h.sm, ⟨by have hq := h.t; show 0 ≤ gT σ + 1; omega, by show gT σ + 1 ≤ 5000; omega⟩, h.s, h.w⟩
theorem Inv.setS {σ : Sg} (h : Inv σ) {v : Int} (hv : -1 ≤ v ∧ v ≤ 80) : Inv (oSetS v σ) := ⟨h.n, h.r, h.so, h.k, h.z1, h.sm, h.t, hv, h.w⟩
theorem Inv.setW {σ : Sg} (h : Inv σ) {i v : Int} (hv : -1 ≤ v ∧ v ≤ 999) : Inv (oSetW (uI (gW σ) i v) σ) := by
  refine ⟨h.n, h.r, h.so, h.k, h.z1, h.sm, h.t, h.s, fun j h1 h2 => ?_⟩
  show -1 ≤ uI (gW σ) i v j ∧ uI (gW σ) i v j ≤ 999
  by_cases c : j = i
  · rw [c, uI_s]; exact hv
  · rw [uI_n _ _ c]; exact h.w j h1 h2
theorem Inv.setR {σ : Sg} (h : Inv σ) {i v : Int} (hv : -1 ≤ v ∧ v ≤ 5000) (hi : 0 ≤ i ∧ i < gN σ) : Inv (oSetR (uI (gR σ) i (uN (gR σ i) 4 v)) σ) := by
  have e0 : ∀ j, uI (gR σ) i (uN (gR σ i) 4 v) j 0 = gR σ j 0 := by
    intro j
    by_cases c : j = i
    · rw [c, uI_s]; rfl
    · rw [uI_n _ _ c]
  refine ⟨h.n, fun j h1 h2 => ?_, fun a b h1 h2 h3 => ?_, h.k, h.z1, h.sm, h.t, h.s, h.w⟩
  · have hr := h.r j h1 h2
    show (0 ≤ uI (gR σ) i (uN (gR σ i) 4 v) j 0 ∧ uI (gR σ) i (uN (gR σ i) 4 v) j 0 ≤ 999) ∧ (1 ≤ uI (gR σ) i (uN (gR σ i) 4 v) j 1 ∧ uI (gR σ) i (uN (gR σ i) 4 v) j 1 ≤ 10000) ∧ (0 ≤ uI (gR σ) i (uN (gR σ i) 4 v) j 2 ∧ uI (gR σ) i (uN (gR σ i) 4 v) j 2 ≤ 9) ∧ (0 ≤ uI (gR σ) i (uN (gR σ i) 4 v) j 3 ∧ uI (gR σ) i (uN (gR σ i) 4 v) j 3 ≤ 5000) ∧ (-1 ≤ uI (gR σ) i (uN (gR σ i) 4 v) j 4 ∧ uI (gR σ) i (uN (gR σ i) 4 v) j 4 ≤ 5000)
    by_cases c : j = i
    · subst c; rw [uI_s]; exact ⟨hr.1, hr.2.1, hr.2.2.1, hr.2.2.2.1, hv⟩
    · rw [uI_n _ _ c]; exact hr
  · show uI (gR σ) i (uN (gR σ i) 4 v) a 0 < uI (gR σ) i (uN (gR σ i) 4 v) b 0
    rw [e0, e0]; exact h.so a b h1 h2 h3
theorem Inv.mv {σ : Sg} (h : Inv σ) (h1 : gS σ + 1 < gK σ) (h0 : 0 ≤ gS σ) (h4 : ¬ 4 ≤ gZ σ (gS σ)) : Inv (oMv σ) := by
  have hk := h.k
  have hm := mv_ok (a := gS σ + 1) (b := gS σ) h.k.1 h.z1 (by omega) (by omega) (by omega) (by omega)
  exact ⟨h.n, h.r, h.so, ⟨hm.1.1, by have h3 := hm.1.2; show mvK _ _ _ ≤ 80; omega⟩, hm.2.1, hm.2.2.trans h.sm, h.t, h.s, h.w⟩
theorem Inv.sw {σ : Sg} (h : Inv σ) (h0 : 0 ≤ gS σ) : Inv (oSw σ).2 := by
  unfold oSw
  have hk := h.k
  by_cases c1 : gS σ + 1 < gK σ
  · rw [if_pos c1]
    by_cases c2 : 4 ≤ gZ σ (gS σ)
    · rw [if_pos c2]; exact h.setS (by omega)
    · rw [if_neg c2]; exact h.mv c1 h0 c2
  · rw [if_neg c1]; exact h.setS (by omega)
theorem Inv.steps : ∀ (d : Nat) {σ : Sg}, Inv σ → Inv (oSteps d σ).2
  | 0, _, h => h
  | d + 1, σ, h => by
    show Inv (if gS σ = -1 then ((0 : Int), σ) else ((oSw σ).1 + (oSteps d (oSw σ).2).1, (oSteps d (oSw σ).2).2)).2
    by_cases c : gS σ = -1
    · rw [if_pos c]; exact h
    · rw [if_neg c]
      have hs := h.s
      exact Inv.steps d (h.sw (by omega))
theorem Inv.loop {P : (Nat → Int) → Bool} {b : Bool} : ∀ (m : Nat) {p : Int} {σ : Sg}, Inv σ → 0 ≤ p → p + m = gN σ → Inv (oLoop P b m p σ).2
  | 0, _, _, h, _, _ => h
  | m + 1, p, σ, h, h0, h1 => by
    show Inv (if P (gR σ p) = true then ((oLoop P b m p (oTake p (oAdd b (gR σ p 1) σ))).1 + 1, (oLoop P b m p (oTake p (oAdd b (gR σ p 1) σ))).2) else oLoop P b m (p + 1) σ).2
    by_cases c : P (gR σ p) = true
    · rw [if_pos c]
      exact Inv.loop m ((h.add b (gR σ p 1)).take (p := p) ⟨h0, by show p < gN σ; omega⟩) h0 (by show p + (m : Int) = gN σ - 1; omega)
    · rw [if_neg c]
      exact Inv.loop m h (by omega) (by omega)
theorem loop_T {P : (Nat → Int) → Bool} {b : Bool} : ∀ (m : Nat) {p : Int} {σ : Sg}, gT (oLoop P b m p σ).2 = gT σ
  | 0, _, _ => rfl
  | m + 1, p, σ => by
    show gT (if P (gR σ p) = true then ((oLoop P b m p (oTake p (oAdd b (gR σ p 1) σ))).1 + 1, (oLoop P b m p (oTake p (oAdd b (gR σ p 1) σ))).2) else oLoop P b m (p + 1) σ).2 = _
    by_cases c : P (gR σ p) = true
    · rw [if_pos c]; exact (loop_T m).trans rfl
    · rw [if_neg c]; exact loop_T m
theorem Inv.ov {σ : Sg} (h : Inv σ) : Inv (oOv σ).2 := by
  have hn := h.n
  exact Inv.loop _ h (by omega) (by omega)
theorem Inv.days : ∀ (d : Nat) {σ : Sg}, Inv σ → gT σ + d ≤ 5000 → Inv (oDays d σ).2
  | 0, _, h, _ => h
  | d + 1, σ, h, ht => Inv.days d (h.day (by omega)).ov (by
      have h3 : gT (oOv (oDay σ)).2 = gT σ + 1 := (loop_T _).trans rfl
      rw [h3]; omega)
theorem pp1_r {p n : Int} (hp : 0 ≤ p ∧ p ≤ n) (hn : 1 ≤ n) : 0 ≤ pp1 p ∧ pp1 p < n := by
  unfold pp1
  by_cases c : 1 ≤ p
  · rw [if_pos c]; omega
  · rw [if_neg c]; omega
/-- a page of 4 split: its sums, its sizes -/
theorem sp_ok {z : Int → Int} {k q : Int} (hz : ∀ j, 0 ≤ j → j < k → 1 ≤ z j ∧ z j ≤ 4) (hq : 0 ≤ q ∧ q < k) (h4 : 4 ≤ z q) :
    (∀ j, 0 ≤ j → j < k + 1 → 1 ≤ uI (ins z (q + 1) 2) q (z q - 2) j ∧ uI (ins z (q + 1) 2) q (z q - 2) j ≤ 4) ∧ sm (uI (ins z (q + 1) 2) q (z q - 2)) (k + 1) = sm z k ∧ sm (uI (ins z (q + 1) 2) q (z q - 2)) q = sm z q ∧ uI (ins z (q + 1) 2) q (z q - 2) q = 2 ∧ uI (ins z (q + 1) 2) q (z q - 2) (q + 1) = 2 := by
  have hzq := hz q hq.1 hq.2
  have e0 : ins z (q + 1) 2 q = z q := if_pos (by omega)
  have e1 : ins z (q + 1) 2 (q + 1) = 2 := (if_neg (by omega)).trans (if_pos rfl)
  refine ⟨fun j h1 h2 => ?_, ?_, ?_, ?_, ?_⟩
  · by_cases c : j = q
    · rw [c, uI_s]; omega
    · rw [uI_n _ _ c]
      show 1 ≤ (if j < q + 1 then z j else if j = q + 1 then 2 else z (j - 1)) ∧ (if j < q + 1 then z j else if j = q + 1 then 2 else z (j - 1)) ≤ 4
      by_cases c1 : j < q + 1
      · rw [if_pos c1]; exact hz j h1 (by omega)
      · rw [if_neg c1]
        by_cases c2 : j = q + 1
        · rw [if_pos c2]; omega
        · rw [if_neg c2]; exact hz (j - 1) (by omega) (by omega)
  · rw [sm_u _ _ hq.1 (by omega), if_pos (by omega), e0, sm_i _ _ (by omega) (by omega), if_neg (by omega), show k + 1 - 1 = k by omega]; omega
  · rw [sm_u _ _ hq.1 hq.1, if_neg (by omega), sm_i _ _ (by omega) hq.1, if_pos (by omega)]; omega
  · rw [uI_s]; omega
  · rw [uI_n _ _ (by omega), e1]
theorem inv_ins {σ : Sg} (h : Inv σ) {nu su sy : Int} (hnu : 0 ≤ nu ∧ nu ≤ 999) (hsu : 1 ≤ su ∧ su ≤ 10000) (hsy : 0 ≤ sy ∧ sy ≤ 9) (hf : qF nu σ = -1) (hn : gN σ < 80) : Inv (oIns nu su sy σ) := by
  have hn0 := h.n; have hk := h.k; have ht := h.t
  have hcu := cu_is (gR σ) (n := gN σ) nu hn0.1
  generalize hp : cu (gR σ) (gN σ) nu = p at hcu
  obtain ⟨hp0, hp1, hp2, hp3⟩ := hcu
  have hne : ∀ j, 0 ≤ j → j < gN σ → gR σ j 0 ≠ nu := by
    rcases fd_or (R := gR σ) (n := gN σ) (v := nu) with h1 | h1
    · exact absurd hf (by have h2 := h1.1; show fd (gR σ) (gN σ) nu ≠ -1; omega)
    · exact h1.2
  -- the pages
  have hpg : (0 ≤ adK (spK (gZ σ) (gK σ) p) ∧ adK (spK (gZ σ) (gK σ) p) ≤ 80) ∧ (∀ j, 0 ≤ j → j < adK (spK (gZ σ) (gK σ) p) → 1 ≤ adZ (spZ (gZ σ) (gK σ) p) (spK (gZ σ) (gK σ) p) p j ∧ adZ (spZ (gZ σ) (gK σ) p) (spK (gZ σ) (gK σ) p) p j ≤ 4) ∧ sm (adZ (spZ (gZ σ) (gK σ) p) (spK (gZ σ) (gK σ) p) p) (adK (spK (gZ σ) (gK σ) p)) = gN σ + 1 := by
    have hkn := k_le hk.1 h.z1
    rw [h.sm] at hkn
    by_cases c0 : gK σ = 0
    · have eK : spK (gZ σ) (gK σ) p = 0 := (if_neg (by omega)).trans c0
      have eZ : spZ (gZ σ) (gK σ) p = gZ σ := if_neg (by omega)
      have hs0 : gN σ = 0 := by rw [← h.sm, c0, sm_0]
      have eA : adK 0 = 1 := if_pos rfl
      have eB : adZ (gZ σ) 0 p = uI (gZ σ) 0 1 := if_pos rfl
      rw [eK, eZ, eA, eB]
      refine ⟨by omega, fun j h1 h2 => ?_, ?_⟩
      · have e : j = 0 := by omega
        rw [e, uI_s]; omega
      · rw [show (1 : Int) = 0 + 1 by omega, sm_s _ (by omega), sm_0, uI_s]; omega
    · have hpr := pp1_r (n := gN σ) ⟨hp0, hp1⟩ (by omega)
      have hq := h.pg hpr
      generalize hqe : pw (gZ σ) (gK σ) (pp1 p) = q at hq
      have key : ∀ (z1 : Int → Int) (k1 : Int), 0 < k1 → (∀ j, 0 ≤ j → j < k1 → 1 ≤ z1 j ∧ z1 j ≤ 4) → sm z1 k1 = gN σ → (isPg z1 k1 (pp1 p) (pw z1 k1 (pp1 p)) → z1 (pw z1 k1 (pp1 p)) ≤ 3) → (0 ≤ adK k1 ∧ adK k1 ≤ 80) ∧ (∀ j, 0 ≤ j → j < adK k1 → 1 ≤ adZ z1 k1 p j ∧ adZ z1 k1 p j ≤ 4) ∧ sm (adZ z1 k1 p) (adK k1) = gN σ + 1 := by
        intro z1 k1 h1 h2 h3 h4
        have hq1 := pw_is (z := z1) (k := k1) (fun j a b => by have h9 := h2 j a b; omega) (by omega) (p := pp1 p) (by rw [h3]; exact hpr)
        have h5 := h4 hq1
        have eA : adK k1 = k1 := if_neg (by omega)
        have eB : adZ z1 k1 p = uI z1 (pw z1 k1 (pp1 p)) (z1 (pw z1 k1 (pp1 p)) + 1) := if_neg (by omega)
        rw [eA, eB]
        generalize pw z1 k1 (pp1 p) = q1 at hq1 h5
        have h6 := h2 q1 hq1.1 hq1.2.1
        have h7 : ∀ j, 0 ≤ j → j < k1 → 1 ≤ uI z1 q1 (z1 q1 + 1) j ∧ uI z1 q1 (z1 q1 + 1) j ≤ 4 := by
          intro j a b
          by_cases c : j = q1
          · rw [c, uI_s]; omega
          · rw [uI_n _ _ c]; exact h2 j a b
        have h8 : sm (uI z1 q1 (z1 q1 + 1)) k1 = gN σ + 1 := by rw [sm_u _ _ hq1.1 (by omega), if_pos hq1.2.1, h3]; omega
        have h9 := k_le (by omega) h7
        exact ⟨by omega, h7, h8⟩
      by_cases c4 : 4 ≤ gZ σ q
      · have eK : spK (gZ σ) (gK σ) p = gK σ + 1 := if_pos (by rw [hqe]; exact ⟨by omega, c4⟩)
        have eZ : spZ (gZ σ) (gK σ) p = uI (ins (gZ σ) (q + 1) 2) q (gZ σ q - 2) := by
          have e9 : spZ (gZ σ) (gK σ) p = uI (ins (gZ σ) (pw (gZ σ) (gK σ) (pp1 p) + 1) 2) (pw (gZ σ) (gK σ) (pp1 p)) (gZ σ (pw (gZ σ) (gK σ) (pp1 p)) - 2) := if_pos (by rw [hqe]; exact ⟨by omega, c4⟩)
          rw [e9, hqe]
        obtain ⟨s1, s2, s3, s4, s5⟩ := sp_ok h.z1 ⟨hq.1, hq.2.1⟩ c4
        rw [eK, eZ]
        refine key _ _ (by omega) s1 (s2.trans h.sm) (fun hq1 => ?_)
        have hlo := isPg_lo hq
        have hqa := hq.1; have hqb := hq.2.1; have hqc := hq.2.2.1
        have hzq := h.z1 q hq.1 hq.2.1
        have hhi := hq.2.2.2.1
        rw [sm_s _ hq.1] at hhi
        generalize hze : uI (ins (gZ σ) (q + 1) 2) q (gZ σ q - 2) = z1 at hq1 s1 s2 s3 s4 s5
        generalize pw z1 (gK σ + 1) (pp1 p) = q1 at hq1
        have b1 : sm z1 (q + 1) = sm (gZ σ) q + 2 := by rw [sm_s _ hq.1, s3, s4]
        have b2 : sm z1 (q + 1 + 1) = sm (gZ σ) q + 4 := by rw [sm_s _ (by omega), b1, s5]; omega
        by_cases c5 : pp1 p < sm z1 (q + 1)
        · have e : q1 = q := isPg_u hq1 ⟨hq.1, by omega, hq.2.2.1, c5, fun j a b => by
            have h9 := sm_mo (z := z1) (k := gK σ + 1) (a := j + 1) (b := q) (fun j a b => by have h9 := s1 j a b; omega) (by omega)
            omega⟩
          rw [e, s4]; omega
        · have e : q1 = q + 1 := isPg_u hq1 ⟨by omega, by omega, hq.2.2.1, by omega, fun j a b => by
            have h9 := sm_mo (z := z1) (k := gK σ + 1) (a := j + 1) (b := q + 1) (fun j a b => by have h9 := s1 j a b; omega) (by omega)
            omega⟩
          rw [e, s5]; omega
      · have eK : spK (gZ σ) (gK σ) p = gK σ := if_neg (by rw [hqe]; omega)
        have eZ : spZ (gZ σ) (gK σ) p = gZ σ := if_neg (by rw [hqe]; omega)
        rw [eK, eZ]
        exact key _ _ (by omega) h.z1 h.sm (fun _ => by rw [hqe]; omega)
  unfold oIns
  rw [hp]
  refine ⟨⟨by show 0 ≤ gN σ + 1; omega, by show gN σ + 1 ≤ 80; omega⟩, fun j h1 h2 => ?_, fun i j h1 h2 h3 => ?_, hpg.1, hpg.2.1, hpg.2.2, h.t, h.s, h.w⟩
  · have h2 : j < gN σ + 1 := h2
    have key : ∀ g : Nat → Int, ins (gR σ) p (nR nu su sy (gT σ)) j = g → ((0 ≤ g 0 ∧ g 0 ≤ 999) ∧ (1 ≤ g 1 ∧ g 1 ≤ 10000) ∧ (0 ≤ g 2 ∧ g 2 ≤ 9) ∧ (0 ≤ g 3 ∧ g 3 ≤ 5000) ∧ (-1 ≤ g 4 ∧ g 4 ≤ 5000)) := by
      intro g hg
      have hg : (if j < p then gR σ j else if j = p then nR nu su sy (gT σ) else gR σ (j - 1)) = g := hg
      by_cases c1 : j < p
      · rw [if_pos c1] at hg; rw [← hg]; exact h.r j h1 (by omega)
      · rw [if_neg c1] at hg
        by_cases c2 : j = p
        · rw [if_pos c2] at hg; rw [← hg]; exact ⟨hnu, hsu, hsy, ht, by show (-1 : Int) ≤ -1; omega, by show (-1 : Int) ≤ 5000; omega⟩
        · rw [if_neg c2] at hg; rw [← hg]; exact h.r (j - 1) (by omega) (by omega)
    exact key _ rfl
  · have h3 : j < gN σ + 1 := h3
    show (if i < p then gR σ i else if i = p then nR nu su sy (gT σ) else gR σ (i - 1)) 0 < (if j < p then gR σ j else if j = p then nR nu su sy (gT σ) else gR σ (j - 1)) 0
    have so := h.so
    by_cases c1 : i < p
    · rw [if_pos c1]
      by_cases c2 : j < p
      · rw [if_pos c2]; exact so i j h1 h2 (by omega)
      · rw [if_neg c2]
        by_cases c3 : j = p
        · rw [if_pos c3]
          have a1 := hp2 i h1 c1; have a2 := hne i h1 (by omega)
          show gR σ i 0 < nu
          omega
        · rw [if_neg c3]; exact so i (j - 1) h1 (by omega) (by omega)
    · rw [if_neg c1]
      by_cases c3 : i = p
      · rw [if_pos c3, if_neg (by omega), if_neg (by omega)]
        have a1 := hp3 (by omega)
        have a2 := so.le (i := p) (j := j - 1) hp0 (by omega) (by omega)
        show nu < gR σ (j - 1) 0
        omega
      · rw [if_neg c3, if_neg (by omega), if_neg (by omega)]; exact so (i - 1) (j - 1) (by omega) (by omega) (by omega)
end
section
/-! the row of pages: what it holds, and its methods -/
def PP (cs : ClassId × ClassId × ClassId) (L : List Nat) (f : Nat → va_E) (pr sz : Nat) (k : Int) (z : Int → Int) : Prop := ∃ zz, RR cs L f pr sz k zz ∧ ∀ j, 0 ≤ j → j < k → zz j = z j
theorem ag_u {zz z : Int → Int} {N i v : Int} (h : ∀ j, 0 ≤ j → j < N → zz j = z j) : ∀ j, 0 ≤ j → j < N → uI zz i v j = uI z i v j := by
  intro j h1 h2
  by_cases h3 : j = i
  · subst h3; rw [uI_s, uI_s]
  · rw [uI_n _ _ h3, uI_n _ _ h3]; exact h j h1 h2
theorem ag_d {zz z : Int → Int} {k p : Int} (h : ∀ j, 0 ≤ j → j < k → zz j = z j) {j : Int} (h1 : 0 ≤ j) (h2 : j < k - 1) : del zz p j = del z p j := by
  show (if j < p then zz j else zz (j + 1)) = (if j < p then z j else z (j + 1))
  rw [h j h1 (by omega), h (j + 1) (by omega) (by omega)]
theorem ag_sp {zz z z1 z2 z3 : Int → Int} {k pg : Int} (hp : 0 ≤ pg ∧ pg < k) (hz : ∀ j, 0 ≤ j → j < k → zz j = z j) (h1 : ∀ j, j ≤ pg + 1 → z1 j = zz j) (h2 : ∀ j, pg + 1 < j → j ≤ k → z1 j = zz (j - 1)) (e2 : z2 = uI z1 (pg + 1) 2) (e3 : z3 = uI z2 pg (z2 pg - 2)) {j : Int} (h8 : 0 ≤ j) (h9 : j < k + 1) : z3 j = uI (ins z (pg + 1) 2) pg (z pg - 2) j := by
  have h5 : z2 pg = z pg := by rw [e2, uI_n _ _ (by omega), h1 pg (by omega), hz pg hp.1 hp.2]
  rw [e3, h5]
  by_cases h3 : j = pg
  · subst h3; rw [uI_s, uI_s]
  · rw [uI_n _ _ h3, uI_n _ _ h3, e2]
    show _ = (if j < pg + 1 then z j else if j = pg + 1 then 2 else z (j - 1))
    by_cases h4 : j = pg + 1
    · rw [h4, uI_s, if_neg (by omega), if_pos rfl]
    · rw [uI_n _ _ h4]
      by_cases h6 : j < pg + 1
      · rw [if_pos h6, h1 j (by omega), hz j h8 (by omega)]
      · rw [if_neg h6, if_neg h4, h2 j (by omega) (by omega), hz (j - 1) (by omega) (by omega)]
theorem bjA_1 {z : Int → Int} {k p : Int} (h : p + 1 < k ∧ 3 ≤ z (p + 1)) : bjA z k p = p + 1 ∧ bjB z k p = p := ⟨if_pos h, if_pos h⟩
theorem bjA_2 {z : Int → Int} {k p : Int} (h : ¬ (p + 1 < k ∧ 3 ≤ z (p + 1))) (h2 : 0 < p ∧ 3 ≤ z (p - 1)) : bjA z k p = p - 1 ∧ bjB z k p = p := ⟨(if_neg h).trans (if_pos h2), (if_neg h).trans (if_pos h2)⟩
theorem bjA_3 {z : Int → Int} {k p : Int} (h : ¬ (p + 1 < k ∧ 3 ≤ z (p + 1))) (h2 : ¬ (0 < p ∧ 3 ≤ z (p - 1))) (h3 : p + 1 < k) : bjA z k p = p ∧ bjB z k p = p + 1 := ⟨(if_neg h).trans (if_neg h2), ((if_neg h).trans (if_neg h2)).trans (if_pos h3)⟩
theorem bjA_4 {z : Int → Int} {k p : Int} (h : ¬ (p + 1 < k ∧ 3 ≤ z (p + 1))) (h2 : ¬ (0 < p ∧ 3 ≤ z (p - 1))) (h3 : ¬ p + 1 < k) : bjA z k p = p ∧ bjB z k p = p - 1 := ⟨(if_neg h).trans (if_neg h2), ((if_neg h).trans (if_neg h2)).trans (if_neg h3)⟩

theorem iw_X2_count_X2 : ∀ w ∈ wsX20, w ∈ wsX2_count := by decide +kernel
theorem fq_X2_count_15 : XF wsX2_count RX2 15 2 1 := ⟨RX2, TX2, 2, iw_X2_count_X2, rfl, by decide, by decide +kernel⟩
set_option maxHeartbeats 4000000 in
set_option maxRecDepth 100000 in
theorem c_X2_count (l : Launch) (D : va_G) (cs : ClassId × ClassId × ClassId) (L : List Nat) (f0 : Nat → va_E) (pr sz : Nat) (k : Int) (z : Int → Int) (hP : PP cs L f0 pr sz k z) : C0 l yX2_count wsX2_count ({ frames := 1, cells := 0, slots := 0, locals := 12 } : Room) D cs [.ref pr] L f0 (fun v L1 f1 => L = L1 ∧ f0 = f1 ∧ v = some (.int (iI k))) := by
  refine C0.of (cc := cX2_count) (maxL := 1) (ret := (some .int)) (by decide) rfl (Nat.le_of_ble_eq_true rfl) ?_
  intro p e s m below meth c X hr hlk hin A hA w ls hl
  have hl : lv_has ls 1 [(0, .ref pr)] := hl
  obtain ⟨zz, hR, hz⟩ := hP
  refine x_al_n X hl 0 rfl rfl dX2_count_0 ?_
  refine x_get X w hR.mp hR.fp fq_X2_count_15 rfl dX2_count_1 ?_
  refine x_iret X w hr hlk ⟨by decide, by decide⟩ dX2_count_4 ?_
  exact ⟨rfl, rfl, rfl⟩

theorem iw_X2_has_X2 : ∀ w ∈ wsX20, w ∈ wsX2_has := by decide +kernel
theorem fq_X2_has_15 : XF wsX2_has RX2 15 2 1 := ⟨RX2, TX2, 2, iw_X2_has_X2, rfl, by decide, by decide +kernel⟩
theorem fq_X2_has_9 : XF wsX2_has RX2 9 2 0 := ⟨RX2, TX2, 2, iw_X2_has_X2, rfl, by decide, by decide +kernel⟩
set_option maxHeartbeats 4000000 in
set_option maxRecDepth 100000 in
theorem c_X2_has (l : Launch) (D : va_G) (cs : ClassId × ClassId × ClassId) (L : List Nat) (f0 : Nat → va_E) (pr sz : Nat) (k : Int) (z : Int → Int) (pg : Int) (hP : PP cs L f0 pr sz k z) (hpg : (0 ≤ k ∧ k ≤ 80) ∧ -2147483648 ≤ pg ∧ pg < 2147483648) : C0 l yX2_has wsX2_has ({ frames := 1, cells := 0, slots := 0, locals := 12 } : Room) D cs [.ref pr, .int (iI pg)] L f0 (fun v L1 f1 => L = L1 ∧ f0 = f1 ∧ ((v = some (.int (iI 1)) ∧ 0 ≤ pg ∧ pg < k) ∨ (v = some (.int (iI 0)) ∧ ¬ (0 ≤ pg ∧ pg < k)))) := by
  refine C0.of (cc := cX2_has) (maxL := 2) (ret := (some .boolean)) (by decide) rfl (Nat.le_of_ble_eq_true rfl) ?_
  intro p e s m below meth c X hr hlk hin A hA w ls hl
  have hl : lv_has ls 2 [(0, .ref pr), (1, .int (iI pg))] := hl
  obtain ⟨zz, hR, hz⟩ := hP
  refine x_il_n X hl 1 rfl rfl dX2_has_0 ?_
  refine x_if_lt (tgt := 25) X (by omega) (by decide) dX2_has_1 (fun hb1 => ?_) (fun hb1 => ?_)
  · refine x_iconst X dX2_has_25 ?_
    refine x_zret X w hr hlk ⟨by decide, by decide⟩ (by omega) dX2_has_26 ?_
    exact ⟨rfl, rfl, Or.inr ⟨rfl, by omega⟩⟩
  · refine x_il_n X hl 1 rfl rfl dX2_has_4 ?_
    refine x_al_n X hl 0 rfl rfl dX2_has_5 ?_
    refine x_get X w hR.mp hR.fp fq_X2_has_15 rfl dX2_has_6 ?_
    refine x_icmp_ge (tgt := 25) X (by omega) (by decide) dX2_has_9 (fun hb9 => ?_) (fun hb9 => ?_)
    · refine x_iconst X dX2_has_25 ?_
      refine x_zret X w hr hlk ⟨by decide, by decide⟩ (by omega) dX2_has_26 ?_
      exact ⟨rfl, rfl, Or.inr ⟨rfl, by omega⟩⟩
    · refine x_il_n X hl 1 rfl rfl dX2_has_12 ?_
      refine x_al_n X hl 0 rfl rfl dX2_has_13 ?_
      refine x_get X w hR.mp hR.fp fq_X2_has_9 rfl dX2_has_14 ?_
      refine x_alenI X w hR.ms hR.fs dX2_has_17 ?_
      refine x_icmp_ge (tgt := 25) X (by omega) (by decide) dX2_has_18 (fun hb18 => ?_) (fun hb18 => ?_)
      · refine x_iconst X dX2_has_25 ?_
        refine x_zret X w hr hlk ⟨by decide, by decide⟩ (by omega) dX2_has_26 ?_
        exact ⟨rfl, rfl, Or.inr ⟨rfl, by omega⟩⟩
      · refine x_iconst X dX2_has_21 ?_
        refine x_goto (tgt := 26) X (by decide) dX2_has_22 ?_
        refine x_zret X w hr hlk ⟨by decide, by decide⟩ (by omega) dX2_has_26 ?_
        exact ⟨rfl, rfl, Or.inl ⟨rfl, by omega⟩⟩

theorem k_X2_sizeOf_X2_has : XV wsX2_sizeOf RX2 19 RX2 yX2_has cX2_has 2 (some .boolean) wsX2_has 1 := ⟨gX2_sizeOf_X2_has, ⟨_, rfl⟩, rfl, by decide, by decide, by decide +kernel⟩
theorem iw_X2_sizeOf_X2 : ∀ w ∈ wsX20, w ∈ wsX2_sizeOf := by decide +kernel
theorem fq_X2_sizeOf_9 : XF wsX2_sizeOf RX2 9 2 0 := ⟨RX2, TX2, 2, iw_X2_sizeOf_X2, rfl, by decide, by decide +kernel⟩
set_option maxHeartbeats 4000000 in
set_option maxRecDepth 100000 in
theorem c_X2_sizeOf (l : Launch) (D : va_G) (cs : ClassId × ClassId × ClassId) (L : List Nat) (f0 : Nat → va_E) (pr sz : Nat) (k : Int) (z : Int → Int) (pg : Int) (hP : PP cs L f0 pr sz k z) (hpg : (0 ≤ k ∧ k ≤ 80) ∧ -2147483648 ≤ pg ∧ pg < 2147483648) : C0 l yX2_sizeOf wsX2_sizeOf ({ frames := 2, cells := 0, slots := 0, locals := 33 } : Room) D cs [.ref pr, .int (iI pg)] L f0 (fun v L1 f1 => L = L1 ∧ f0 = f1 ∧ ((v = some (.int (iI (z pg))) ∧ 0 ≤ pg ∧ pg < k) ∨ (v = some (.int (iI 0)) ∧ ¬ (0 ≤ pg ∧ pg < k)))) := by
  refine C0.of (cc := cX2_sizeOf) (maxL := 2) (ret := (some .int)) (by decide) rfl (Nat.le_of_ble_eq_true rfl) ?_
  intro p e s m below meth c X hr hlk hin A hA w ls hl
  have hl : lv_has ls 2 [(0, .ref pr), (1, .int (iI pg))] := hl
  obtain ⟨zz, hR, hz⟩ := hP
  refine x_al_n X hl 0 rfl rfl dX2_sizeOf_0 ?_
  refine x_il_n X hl 1 rfl rfl dX2_sizeOf_1 ?_
  refine x_callV (As := [.int (iI pg)]) (rest := []) (c1 := 0) (s1 := 0) X w hA (c_X2_has l D cs L f0 pr sz k z pg ⟨_, hR, hz⟩ (by omega)) k_X2_sizeOf_X2_has (by decide) hR.mp hR.fp rfl rfl rfl hl rfl (Nat.le_of_ble_eq_true rfl) (by decide) rfl rfl dX2_sizeOf_2 (fun v L1 f1 H locs w hp => ?_)
  obtain ⟨rfl, rfl, hp⟩ := hp
  rcases hp with ⟨rfl, hq2⟩ | ⟨rfl, hq2⟩
  · show W p l e _ s m _ below meth c _ _ _ _ _ (F0 m 5 ls [.int (iI 1)])
    refine x_ifF_eq (tgt := 17) X (by decide) (by decide) (by decide) dX2_sizeOf_5 ?_
    refine x_al_n X hl 0 rfl rfl dX2_sizeOf_8 ?_
    refine x_get X w hR.mp hR.fp fq_X2_sizeOf_9 rfl dX2_sizeOf_9 ?_
    refine x_il_n X hl 1 rfl rfl dX2_sizeOf_12 ?_
    refine x_ialdv (v := z pg) X w hR.ms hR.fs (by omega) (hz pg (by omega) (by omega)) dX2_sizeOf_13 ?_
    refine x_goto (tgt := 18) X (by decide) dX2_sizeOf_14 ?_
    refine x_iret X w hr hlk ⟨by decide, by decide⟩ dX2_sizeOf_18 ?_
    exact ⟨rfl, rfl, Or.inl ⟨rfl, by omega⟩⟩
  · show W p l e _ s m _ below meth c _ _ _ _ _ (F0 m 5 ls [.int (iI 0)])
    refine x_ifT_eq (tgt := 17) X (by decide) (by decide) (by decide) dX2_sizeOf_5 ?_
    refine x_iconst X dX2_sizeOf_17 ?_
    refine x_iret X w hr hlk ⟨by decide, by decide⟩ dX2_sizeOf_18 ?_
    exact ⟨rfl, rfl, Or.inr ⟨rfl, by omega⟩⟩

theorem iw_X2_beginOf_X2 : ∀ w ∈ wsX20, w ∈ wsX2_beginOf := by decide +kernel
theorem fq_X2_beginOf_15 : XF wsX2_beginOf RX2 15 2 1 := ⟨RX2, TX2, 2, iw_X2_beginOf_X2, rfl, by decide, by decide +kernel⟩
theorem k_X2_beginOf_X2_sizeOf : XV wsX2_beginOf RX2 23 RX2 yX2_sizeOf cX2_sizeOf 2 (some .int) wsX2_sizeOf 1 := ⟨gX2_beginOf_X2_sizeOf, ⟨_, rfl⟩, rfl, by decide, by decide, by decide +kernel⟩
set_option maxHeartbeats 4000000 in
set_option maxRecDepth 100000 in
theorem c_X2_beginOf (l : Launch) (D : va_G) (cs : ClassId × ClassId × ClassId) (L : List Nat) (f0 : Nat → va_E) (pr sz : Nat) (k : Int) (z : Int → Int) (pg : Int) (hP : PP cs L f0 pr sz k z) (hpg : (0 ≤ k ∧ k ≤ 80) ∧ 0 ≤ pg ∧ pg ≤ k) : C0 l yX2_beginOf wsX2_beginOf ({ frames := 3, cells := 0, slots := 0, locals := 54 } : Room) D cs [.ref pr, .int (iI pg)] L f0 (fun v L1 f1 => L = L1 ∧ f0 = f1 ∧ v = some (.int (iI (sm z pg)))) := by
  refine C0.of (cc := cX2_beginOf) (maxL := 4) (ret := (some .int)) (by decide) rfl (Nat.le_of_ble_eq_true rfl) ?_
  intro p e s m below meth c X hr hlk hin A hA w ls hl
  have hl : lv_has ls 4 [(0, .ref pr), (1, .int (iI pg))] := hl
  obtain ⟨zz, hR, hz⟩ := hP
  refine x_iconst X dX2_beginOf_0 ?_
  refine x_is_n (lv' := [(2, .int (iI 0)), (0, .ref pr), (1, .int (iI pg))]) X hl rfl (by decide) rfl dX2_beginOf_1 (fun ls hl => ?_)
  refine x_iconst X dX2_beginOf_2 ?_
  refine x_is_n (lv' := [(3, .int (iI 0)), (2, .int (iI 0)), (0, .ref pr), (1, .int (iI pg))]) X hl rfl (by decide) rfl dX2_beginOf_3 (fun ls hl => ?_)
  have loop4 : ∀ (N9 : Nat) (i : Int) (H : Heap) (locs : List Loc) (ls : Array Slot), (pg - i).toNat < N9 → (0 ≤ i ∧ i ≤ pg) → XW D A s.heap L f0 H locs → lv_has ls 4 [(0, .ref pr), (1, .int (iI pg)), (2, .int (iI (sm z i))), (3, .int (iI i))] → W p l e ({ frames := 3, cells := 0, slots := 0, locals := 54 } : Room) s m ([.ref pr, .int (iI pg)] : List Value).toArray below meth c H locs 0 0 (MQ below (CQ D cs A (fun v L1 f1 => L = L1 ∧ f0 = f1 ∧ v = some (.int (iI (sm z pg))))) ([.ref pr, .int (iI pg)] : List Value).toArray s 0 0 A) (F0 m 4 ls []) := by
    intro N9
    induction N9 with
    | zero => intro i H locs ls h9; exact absurd h9 (Nat.not_lt_zero _)
    | succ N9 ih4 =>
      intro i H locs ls h9 hi w hl
      refine x_il_n X hl 3 rfl rfl dX2_beginOf_4 ?_
      refine x_il_n X hl 1 rfl rfl dX2_beginOf_5 ?_
      refine x_icmp_ge (tgt := 31) X (by omega) (by decide) dX2_beginOf_6 (fun hb6 => ?_) (fun hb6 => ?_)
      · refine x_il_n X hl 2 rfl rfl dX2_beginOf_31 ?_
        refine x_iret X w hr hlk ⟨by decide, by decide⟩ dX2_beginOf_32 ?_
        have he9 : i = pg := by omega
        subst he9
        exact ⟨rfl, rfl, rfl⟩
      · refine x_il_n X hl 3 rfl rfl dX2_beginOf_9 ?_
        refine x_al_n X hl 0 rfl rfl dX2_beginOf_10 ?_
        refine x_get X w hR.mp hR.fp fq_X2_beginOf_15 rfl dX2_beginOf_11 ?_
        refine x_icmpF_ge (tgt := 31) X (by omega) (by omega) (by decide) dX2_beginOf_14 ?_
        refine x_il_n X hl 2 rfl rfl dX2_beginOf_17 ?_
        refine x_al_n X hl 0 rfl rfl dX2_beginOf_18 ?_
        refine x_il_n X hl 3 rfl rfl dX2_beginOf_19 ?_
        refine x_callV (As := [.int (iI i)]) (rest := [.int (iI (sm z i))]) (c1 := 0) (s1 := 0) X w hA (c_X2_sizeOf l D cs L f0 pr sz k z i ⟨_, hR, hz⟩ (by omega)) k_X2_beginOf_X2_sizeOf (by decide) hR.mp hR.fp rfl rfl rfl hl rfl (Nat.le_of_ble_eq_true rfl) (by decide) rfl rfl dX2_beginOf_20 (fun v L1 f1 H locs w hp => ?_)
        obtain ⟨rfl, rfl, hp⟩ := hp
        rcases hp with ⟨rfl, hq20⟩ | ⟨rfl, hq20⟩
        · show W p l e _ s m _ below meth c _ _ _ _ _ (F0 m 23 ls [.int (iI (z i)), .int (iI (sm z i))])
          refine x_iadd X dX2_beginOf_23 ?_
          refine x_is_n (lv' := [(2, .int (iI ((sm z i) + (z i)))), (0, .ref pr), (1, .int (iI pg)), (3, .int (iI i))]) X hl rfl (by decide) rfl dX2_beginOf_24 (fun ls hl => ?_)
          rw [show (sm z i) + (z i) = sm z (i + 1) from (sm_s z (by omega)).symm] at hl
          refine x_iinc (lv' := [(3, .int (iI (i + 1))), (2, .int (iI (sm z (i + 1)))), (0, .ref pr), (1, .int (iI pg))]) X hl 3 rfl (by decide) rfl dX2_beginOf_25 (fun ls hl => ?_)
          refine x_goto (tgt := 4) X (by decide) dX2_beginOf_28 ?_
          refine ih4 (i + 1) _ _ _ (by omega) (by omega) w (lv_sub hl [2, 3, 1, 0] rfl)
        · exfalso; omega
  refine loop4 _ 0 _ _ _ (Nat.lt_succ_self _) (by omega) w (lv_sub hl [2, 3, 1, 0] rfl)

theorem iw_X2_pageWith_X2 : ∀ w ∈ wsX20, w ∈ wsX2_pageWith := by decide +kernel
theorem fq_X2_pageWith_15 : XF wsX2_pageWith RX2 15 2 1 := ⟨RX2, TX2, 2, iw_X2_pageWith_X2, rfl, by decide, by decide +kernel⟩
theorem k_X2_pageWith_X2_sizeOf : XV wsX2_pageWith RX2 23 RX2 yX2_sizeOf cX2_sizeOf 2 (some .int) wsX2_sizeOf 1 := ⟨gX2_pageWith_X2_sizeOf, ⟨_, rfl⟩, rfl, by decide, by decide, by decide +kernel⟩
set_option maxHeartbeats 4000000 in
set_option maxRecDepth 100000 in
theorem c_X2_pageWith (l : Launch) (D : va_G) (cs : ClassId × ClassId × ClassId) (L : List Nat) (f0 : Nat → va_E) (pr sz : Nat) (k : Int) (z : Int → Int) (pg : Int) (hP : PP cs L f0 pr sz k z) (hpg : (0 ≤ k ∧ k ≤ 80) ∧ -2147483648 ≤ pg ∧ pg < 2147483648) (hz4 : ∀ j, 0 ≤ j → j < k → 0 ≤ z j ∧ z j ≤ 4) : C0 l yX2_pageWith wsX2_pageWith ({ frames := 3, cells := 0, slots := 0, locals := 54 } : Room) D cs [.ref pr, .int (iI pg)] L f0 (fun v L1 f1 => L = L1 ∧ f0 = f1 ∧ v = some (.int (iI (pw z k pg)))) := by
  refine C0.of (cc := cX2_pageWith) (maxL := 4) (ret := (some .int)) (by decide) rfl (Nat.le_of_ble_eq_true rfl) ?_
  intro p e s m below meth c X hr hlk hin A hA w ls hl
  have hl : lv_has ls 4 [(0, .ref pr), (1, .int (iI pg))] := hl
  obtain ⟨zz, hR, hz⟩ := hP
  refine x_iconst X dX2_pageWith_0 ?_
  refine x_is_n (lv' := [(2, .int (iI 0)), (0, .ref pr), (1, .int (iI pg))]) X hl rfl (by decide) rfl dX2_pageWith_1 (fun ls hl => ?_)
  refine x_iconst X dX2_pageWith_2 ?_
  refine x_is_n (lv' := [(3, .int (iI 0)), (2, .int (iI 0)), (0, .ref pr), (1, .int (iI pg))]) X hl rfl (by decide) rfl dX2_pageWith_3 (fun ls hl => ?_)
  have loop4 : ∀ (N9 : Nat) (i : Int) (H : Heap) (locs : List Loc) (ls : Array Slot), (k - i).toNat < N9 → (0 ≤ i ∧ i ≤ k) → (0 ≤ pg → ∀ j, 0 ≤ j → j < i → sm z (j + 1) ≤ pg) → XW D A s.heap L f0 H locs → lv_has ls 4 [(0, .ref pr), (1, .int (iI pg)), (2, .int (iI (sm z i))), (3, .int (iI i))] → W p l e ({ frames := 3, cells := 0, slots := 0, locals := 54 } : Room) s m ([.ref pr, .int (iI pg)] : List Value).toArray below meth c H locs 0 0 (MQ below (CQ D cs A (fun v L1 f1 => L = L1 ∧ f0 = f1 ∧ v = some (.int (iI (pw z k pg))))) ([.ref pr, .int (iI pg)] : List Value).toArray s 0 0 A) (F0 m 4 ls []) := by
    intro N9
    induction N9 with
    | zero => intro i H locs ls h9; exact absurd h9 (Nat.not_lt_zero _)
    | succ N9 ih4 =>
      intro i H locs ls h9 hi hj w hl
      refine x_il_n X hl 3 rfl rfl dX2_pageWith_4 ?_
      refine x_al_n X hl 0 rfl rfl dX2_pageWith_5 ?_
      refine x_get X w hR.mp hR.fp fq_X2_pageWith_15 rfl dX2_pageWith_6 ?_
      refine x_icmp_ge (tgt := 37) X (by omega) (by decide) dX2_pageWith_9 (fun hb9 => ?_) (fun hb9 => ?_)
      · refine x_iconst X dX2_pageWith_37 ?_
        refine x_iret X w hr hlk ⟨by decide, by decide⟩ dX2_pageWith_38 ?_
        have he9 : pw z k pg = -1 := pw_no (fun r h9 => by have h10 := hj h9.2.2.1 r h9.1 (by have := h9.2.1; omega); have h11 := h9.2.2.2.1; omega)
        exact ⟨rfl, rfl, by rw [he9]⟩
      · refine x_il_n X hl 2 rfl rfl dX2_pageWith_12 ?_
        refine x_al_n X hl 0 rfl rfl dX2_pageWith_13 ?_
        refine x_il_n X hl 3 rfl rfl dX2_pageWith_14 ?_
        refine x_callV (As := [.int (iI i)]) (rest := [.int (iI (sm z i))]) (c1 := 0) (s1 := 0) X w hA (c_X2_sizeOf l D cs L f0 pr sz k z i ⟨_, hR, hz⟩ (by omega)) k_X2_pageWith_X2_sizeOf (by decide) hR.mp hR.fp rfl rfl rfl hl rfl (Nat.le_of_ble_eq_true rfl) (by decide) rfl rfl dX2_pageWith_15 (fun v L1 f1 H locs w hp => ?_)
        obtain ⟨rfl, rfl, hp⟩ := hp
        rcases hp with ⟨rfl, hq15⟩ | ⟨rfl, hq15⟩
        · show W p l e _ s m _ below meth c _ _ _ _ _ (F0 m 18 ls [.int (iI (z i)), .int (iI (sm z i))])
          refine x_iadd X dX2_pageWith_18 ?_
          refine x_is_n (lv' := [(2, .int (iI ((sm z i) + (z i)))), (0, .ref pr), (1, .int (iI pg)), (3, .int (iI i))]) X hl rfl (by decide) rfl dX2_pageWith_19 (fun ls hl => ?_)
          rw [show (sm z i) + (z i) = sm z (i + 1) from (sm_s z (by omega)).symm] at hl
          have hsb := sm_b hz4 (p := i + 1) (by omega)
          refine x_il_n X hl 2 rfl rfl dX2_pageWith_20 ?_
          refine x_if_lt (tgt := 31) X (by omega) (by decide) dX2_pageWith_21 (fun hb21 => ?_) (fun hb21 => ?_)
          · refine x_iinc (lv' := [(3, .int (iI (i + 1))), (2, .int (iI (sm z (i + 1)))), (0, .ref pr), (1, .int (iI pg))]) X hl 3 rfl (by decide) rfl dX2_pageWith_31 (fun ls hl => ?_)
            refine x_goto (tgt := 4) X (by decide) dX2_pageWith_34 ?_
            refine ih4 (i + 1) _ _ _ (by omega) (by omega) ?_ w (lv_sub hl [2, 3, 1, 0] rfl)
            · intro h8 j h1 h2
              by_cases h3 : j = i
              · subst h3; omega
              · exact hj h8 j h1 (by omega)
          · refine x_il_n X hl 2 rfl rfl dX2_pageWith_24 ?_
            refine x_il_n X hl 0 rfl rfl dX2_pageWith_25 ?_
            refine x_icmp_ge (tgt := 31) X (by omega) (by decide) dX2_pageWith_26 (fun hb26 => ?_) (fun hb26 => ?_)
            · refine x_iinc (lv' := [(3, .int (iI (i + 1))), (2, .int (iI (sm z (i + 1)))), (0, .ref pr), (1, .int (iI pg))]) X hl 3 rfl (by decide) rfl dX2_pageWith_31 (fun ls hl => ?_)
              refine x_goto (tgt := 4) X (by decide) dX2_pageWith_34 ?_
              refine ih4 (i + 1) _ _ _ (by omega) (by omega) ?_ w (lv_sub hl [2, 3, 1, 0] rfl)
              · intro h8 j h1 h2
                by_cases h3 : j = i
                · subst h3; omega
                · exact hj h8 j h1 (by omega)
            · refine x_il_n X hl 3 rfl rfl dX2_pageWith_29 ?_
              refine x_iret X w hr hlk ⟨by decide, by decide⟩ dX2_pageWith_30 ?_
              have he9 : pw z k pg = i := pw_eq ⟨by omega, by omega, by omega, by omega, hj (by omega)⟩
              exact ⟨rfl, rfl, by rw [he9]⟩
        · exfalso; omega
  refine loop4 _ 0 _ _ _ (Nat.lt_succ_self _) (by omega) (fun _ j h1 h2 => absurd h2 (by omega)) w (lv_sub hl [2, 3, 1, 0] rfl)

theorem iw_X2_addTo_X2 : ∀ w ∈ wsX20, w ∈ wsX2_addTo := by decide +kernel
theorem fq_X2_addTo_15 : XF wsX2_addTo RX2 15 2 1 := ⟨RX2, TX2, 2, iw_X2_addTo_X2, rfl, by decide, by decide +kernel⟩
theorem k_X2_addTo_X2_has : XV wsX2_addTo RX2 19 RX2 yX2_has cX2_has 2 (some .boolean) wsX2_has 1 := ⟨gX2_addTo_X2_has, ⟨_, rfl⟩, rfl, by decide, by decide, by decide +kernel⟩
theorem fq_X2_addTo_9 : XF wsX2_addTo RX2 9 2 0 := ⟨RX2, TX2, 2, iw_X2_addTo_X2, rfl, by decide, by decide +kernel⟩
theorem fp_X2_addTo_15 : XGn wsX2_addTo RX2 15 2 1 (tyX2 1) := ⟨RX2, TX2, 2, tyX2, iw_X2_addTo_X2, rfl, by decide, by decide +kernel, tyX2_ok, nmX2, rfl, by decide +kernel⟩
set_option maxHeartbeats 4000000 in
set_option maxRecDepth 100000 in
theorem c_X2_addTo (l : Launch) (D : va_G) (cs : ClassId × ClassId × ClassId) (L : List Nat) (f0 : Nat → va_E) (pr sz : Nat) (k : Int) (z : Int → Int) (pg : Int) (hP : PP cs L f0 pr sz k z) (hpg : (0 ≤ k ∧ k ≤ 80) ∧ (k = 0 ∨ (0 ≤ pg ∧ pg < k)) ∧ -2147483648 ≤ pg ∧ pg < 2147483648) : C0 l yX2_addTo wsX2_addTo ({ frames := 2, cells := 0, slots := 0, locals := 33 } : Room) D cs [.ref pr, .int (iI pg)] L f0 (fun v L1 f1 => v = none ∧ L = L1 ∧ FR f0 f1 pr sz ∧ PP cs L1 f1 pr sz (adK k) (if k = 0 then uI z 0 1 else uI z pg (z pg + 1))) := by
  refine C0.of (cc := cX2_addTo) (maxL := 2) (ret := none) (by decide) rfl (Nat.le_of_ble_eq_true rfl) ?_
  intro p e s m below meth c X hr hlk hin A hA w ls hl
  have hl : lv_has ls 2 [(0, .ref pr), (1, .int (iI pg))] := hl
  obtain ⟨zz, hR, hz⟩ := hP
  have fr : FR f0 f0 pr sz := FR.rf _ _ _
  refine x_al_n X hl 0 rfl rfl dX2_addTo_0 ?_
  refine x_get X w hR.mp hR.fp fq_X2_addTo_15 rfl dX2_addTo_1 ?_
  refine x_if_ne (tgt := 22) X (by omega) (by decide) dX2_addTo_4 (fun hb4 => ?_) (fun hb4 => ?_)
  · refine x_al_n X hl 0 rfl rfl dX2_addTo_22 ?_
    refine x_il_n X hl 1 rfl rfl dX2_addTo_23 ?_
    refine x_callV (As := [.int (iI pg)]) (rest := []) (c1 := 0) (s1 := 0) X w hA (c_X2_has l D cs L f0 pr sz k z pg ⟨_, hR, hz⟩ (by omega)) k_X2_addTo_X2_has (by decide) hR.mp hR.fp rfl rfl rfl hl rfl (Nat.le_of_ble_eq_true rfl) (by decide) rfl rfl dX2_addTo_24 (fun v L1 f1 H locs w hp => ?_)
    obtain ⟨rfl, rfl, hp⟩ := hp
    rcases hp with ⟨rfl, hq24⟩ | ⟨rfl, hq24⟩
    · show W p l e _ s m _ below meth c _ _ _ _ _ (F0 m 27 ls [.int (iI 1)])
      refine x_ifF_eq (tgt := 40) X (by decide) (by decide) (by decide) dX2_addTo_27 ?_
      refine x_al_n X hl 0 rfl rfl dX2_addTo_30 ?_
      refine x_get X w hR.mp hR.fp fq_X2_addTo_9 rfl dX2_addTo_31 ?_
      refine x_il_n X hl 1 rfl rfl dX2_addTo_34 ?_
      refine x_dup2 X rfl rfl dX2_addTo_35 ?_
      refine x_ialdv (v := z pg) X w hR.ms hR.fs (by omega) (hz pg (by omega) (by omega)) dX2_addTo_36 ?_
      refine x_iconst X dX2_addTo_37 ?_
      refine x_iadd X dX2_addTo_38 ?_
      refine x_iast X w hR.ms hR.fs (by omega) dX2_addTo_39 (fun H locs w => ?_)
      obtain ⟨f40, zz40, w, hR, fr, hz40⟩ : ∃ f9 z9, XW D A s.heap L f9 H locs ∧ RR cs L f9 pr sz (k) z9 ∧ FR f0 f9 pr sz ∧ (∀ j, 0 ≤ j → j < k → z9 j = (uI z pg ((z pg) + 1)) j) := ⟨_, _, w, hR.row _, fr.up2, ag_u hz⟩
      refine x_vret X w hr hlk ⟨by decide, by decide⟩ dX2_addTo_40 ?_
      have hk0 : ¬ k = 0 := by omega
      unfold adK; rw [if_neg hk0, if_neg hk0]
      exact ⟨rfl, rfl, fr, _, hR, hz40⟩
    · exfalso; omega
  · refine x_al_n X hl 0 rfl rfl dX2_addTo_7 ?_
    refine x_get X w hR.mp hR.fp fq_X2_addTo_9 rfl dX2_addTo_8 ?_
    refine x_iconst X dX2_addTo_11 ?_
    refine x_iconst X dX2_addTo_12 ?_
    refine x_iast X w hR.ms hR.fs (by omega) dX2_addTo_13 (fun H locs w => ?_)
    obtain ⟨f14, zz14, w, hR, fr, hz14⟩ : ∃ f9 z9, XW D A s.heap L f9 H locs ∧ RR cs L f9 pr sz (k) z9 ∧ FR f0 f9 pr sz ∧ z9 = uI zz 0 1 := ⟨_, _, w, hR.row _, fr.up2, rfl⟩
    refine x_al_n X hl 0 rfl rfl dX2_addTo_14 ?_
    refine x_iconst X dX2_addTo_15 ?_
    refine x_put X w hR.mp hR.fp fp_X2_addTo_15 rfl rfl (Nat.le_of_ble_eq_true rfl) rfl dX2_addTo_16 (fun H locs w => ?_)
    obtain ⟨f19, w, hR, fr⟩ : ∃ f9, XW D A s.heap L f9 H locs ∧ RR cs L f9 pr sz (1) zz14 ∧ FR f0 f9 pr sz := ⟨_, w, hR.cnt _, fr.up1⟩
    refine x_goto (tgt := 40) X (by decide) dX2_addTo_19 ?_
    refine x_vret X w hr hlk ⟨by decide, by decide⟩ dX2_addTo_40 ?_
    have hk0 : k = 0 := by omega
    unfold adK; rw [if_pos hk0, if_pos hk0]
    refine ⟨rfl, rfl, fr, _, hR, fun j h8 h9 => ?_⟩
    have he8 : j = 0 := by omega
    subst he8
    rw [hz14, uI_s, uI_s]

theorem k_X2_split_X2_has : XV wsX2_split RX2 19 RX2 yX2_has cX2_has 2 (some .boolean) wsX2_has 1 := ⟨gX2_split_X2_has, ⟨_, rfl⟩, rfl, by decide, by decide, by decide +kernel⟩
theorem iw_X2_split_X2 : ∀ w ∈ wsX20, w ∈ wsX2_split := by decide +kernel
theorem fq_X2_split_15 : XF wsX2_split RX2 15 2 1 := ⟨RX2, TX2, 2, iw_X2_split_X2, rfl, by decide, by decide +kernel⟩
theorem fq_X2_split_9 : XF wsX2_split RX2 9 2 0 := ⟨RX2, TX2, 2, iw_X2_split_X2, rfl, by decide, by decide +kernel⟩
theorem fp_X2_split_15 : XGn wsX2_split RX2 15 2 1 (tyX2 1) := ⟨RX2, TX2, 2, tyX2, iw_X2_split_X2, rfl, by decide, by decide +kernel, tyX2_ok, nmX2, rfl, by decide +kernel⟩
set_option maxHeartbeats 4000000 in
set_option maxRecDepth 100000 in
theorem c_X2_split (l : Launch) (D : va_G) (cs : ClassId × ClassId × ClassId) (L : List Nat) (f0 : Nat → va_E) (pr sz : Nat) (k : Int) (z : Int → Int) (pg : Int) (hP : PP cs L f0 pr sz k z) (hpg : (0 ≤ k ∧ k < 80) ∧ 0 ≤ pg ∧ pg < k) : C0 l yX2_split wsX2_split ({ frames := 2, cells := 0, slots := 0, locals := 33 } : Room) D cs [.ref pr, .int (iI pg)] L f0 (fun v L1 f1 => v = none ∧ L = L1 ∧ FR f0 f1 pr sz ∧ PP cs L1 f1 pr sz (k + 1) (uI (ins z (pg + 1) 2) pg (z pg - 2))) := by
  refine C0.of (cc := cX2_split) (maxL := 3) (ret := none) (by decide) rfl (Nat.le_of_ble_eq_true rfl) ?_
  intro p e s m below meth c X hr hlk hin A hA w ls hl
  have hl : lv_has ls 3 [(0, .ref pr), (1, .int (iI pg))] := hl
  obtain ⟨zz, hR, hz⟩ := hP
  have fr : FR f0 f0 pr sz := FR.rf _ _ _
  refine x_al_n X hl 0 rfl rfl dX2_split_0 ?_
  refine x_il_n X hl 1 rfl rfl dX2_split_1 ?_
  refine x_callV (As := [.int (iI pg)]) (rest := []) (c1 := 0) (s1 := 0) X w hA (c_X2_has l D cs L f0 pr sz k z pg ⟨_, hR, hz⟩ (by omega)) k_X2_split_X2_has (by decide) hR.mp hR.fp rfl rfl rfl hl rfl (Nat.le_of_ble_eq_true rfl) (by decide) rfl rfl dX2_split_2 (fun v L1 f1 H locs w hp => ?_)
  obtain ⟨rfl, rfl, hp⟩ := hp
  rcases hp with ⟨rfl, hq2⟩ | ⟨rfl, hq2⟩
  · show W p l e _ s m _ below meth c _ _ _ _ _ (F0 m 5 ls [.int (iI 1)])
    refine x_ifF_eq (tgt := 20) X (by decide) (by decide) (by decide) dX2_split_5 ?_
    refine x_al_n X hl 0 rfl rfl dX2_split_8 ?_
    refine x_get X w hR.mp hR.fp fq_X2_split_15 rfl dX2_split_9 ?_
    refine x_al_n X hl 0 rfl rfl dX2_split_12 ?_
    refine x_get X w hR.mp hR.fp fq_X2_split_9 rfl dX2_split_13 ?_
    refine x_alenI X w hR.ms hR.fs dX2_split_16 ?_
    refine x_icmpT_lt (tgt := 21) X (by omega) (by omega) (by decide) dX2_split_17 ?_
    refine x_al_n X hl 0 rfl rfl dX2_split_21 ?_
    refine x_get X w hR.mp hR.fp fq_X2_split_15 rfl dX2_split_22 ?_
    refine x_is_n (lv' := [(2, .int (iI k)), (0, .ref pr), (1, .int (iI pg))]) X hl rfl (by decide) rfl dX2_split_25 (fun ls hl => ?_)
    have loop26 : ∀ (N9 : Nat) (i : Int) (f1 : Nat → va_E) (z1 : Int → Int) (H : Heap) (locs : List Loc) (ls : Array Slot), (i - pg).toNat < N9 → (pg + 1 ≤ i ∧ i ≤ k) → (RR cs L f1 pr sz k z1) → (FR f0 f1 pr sz) → (∀ j, j ≤ i → z1 j = zz j) → (∀ j, i < j → j ≤ k → z1 j = zz (j - 1)) → XW D A s.heap L f1 H locs → lv_has ls 3 [(0, .ref pr), (1, .int (iI pg)), (2, .int (iI i))] → W p l e ({ frames := 2, cells := 0, slots := 0, locals := 33 } : Room) s m ([.ref pr, .int (iI pg)] : List Value).toArray below meth c H locs 0 0 (MQ below (CQ D cs A (fun v L1 f1 => v = none ∧ L = L1 ∧ FR f0 f1 pr sz ∧ PP cs L1 f1 pr sz (k + 1) (uI (ins z (pg + 1) 2) pg (z pg - 2)))) ([.ref pr, .int (iI pg)] : List Value).toArray s 0 0 A) (F0 m 26 ls []) := by
      intro N9
      induction N9 with
      | zero => intro i f1 z1 H locs ls h9; exact absurd h9 (Nat.not_lt_zero _)
      | succ N9 ih26 =>
        intro i f1 z1 H locs ls h9 hi hR fr h1 h2 w hl
        refine x_il_n X hl 2 rfl rfl dX2_split_26 ?_
        refine x_il_n X hl 1 rfl rfl dX2_split_27 ?_
        refine x_iconst X dX2_split_28 ?_
        refine x_iadd X dX2_split_29 ?_
        refine x_icmp_le (tgt := 53) X (by omega) (by decide) dX2_split_30 (fun hb30 => ?_) (fun hb30 => ?_)
        · refine x_al_n X hl 0 rfl rfl dX2_split_53 ?_
          refine x_get X w hR.mp hR.fp fq_X2_split_9 rfl dX2_split_54 ?_
          refine x_il_n X hl 1 rfl rfl dX2_split_57 ?_
          refine x_iconst X dX2_split_58 ?_
          refine x_iadd X dX2_split_59 ?_
          refine x_iconst X dX2_split_60 ?_
          refine x_iast X w hR.ms hR.fs (by omega) dX2_split_61 (fun H locs w => ?_)
          obtain ⟨f62, zz62, w, hR, fr, hz62⟩ : ∃ f9 z9, XW D A s.heap L f9 H locs ∧ RR cs L f9 pr sz (k) z9 ∧ FR f0 f9 pr sz ∧ z9 = uI z1 (pg + 1) 2 := ⟨_, _, w, hR.row _, fr.up2, rfl⟩
          refine x_al_n X hl 0 rfl rfl dX2_split_62 ?_
          refine x_get X w hR.mp hR.fp fq_X2_split_9 rfl dX2_split_63 ?_
          refine x_il_n X hl 1 rfl rfl dX2_split_66 ?_
          refine x_dup2 X rfl rfl dX2_split_67 ?_
          refine x_ialdv (v := zz62 pg) X w hR.ms hR.fs (by omega) (rfl) dX2_split_68 ?_
          refine x_iconst X dX2_split_69 ?_
          refine x_isub X dX2_split_70 ?_
          refine x_iast X w hR.ms hR.fs (by omega) dX2_split_71 (fun H locs w => ?_)
          obtain ⟨f72, zz72, w, hR, fr, hz72⟩ : ∃ f9 z9, XW D A s.heap L f9 H locs ∧ RR cs L f9 pr sz (k) z9 ∧ FR f0 f9 pr sz ∧ z9 = uI zz62 pg ((zz62 pg) - 2) := ⟨_, _, w, hR.row _, fr.up2, rfl⟩
          refine x_al_n X hl 0 rfl rfl dX2_split_72 ?_
          refine x_dup X rfl dX2_split_73 ?_
          refine x_get X w hR.mp hR.fp fq_X2_split_15 rfl dX2_split_74 ?_
          refine x_iconst X dX2_split_77 ?_
          refine x_iadd X dX2_split_78 ?_
          refine x_put X w hR.mp hR.fp fp_X2_split_15 rfl rfl (Nat.le_of_ble_eq_true rfl) rfl dX2_split_79 (fun H locs w => ?_)
          obtain ⟨f82, w, hR, fr⟩ : ∃ f9, XW D A s.heap L f9 H locs ∧ RR cs L f9 pr sz (k + 1) zz72 ∧ FR f0 f9 pr sz := ⟨_, w, hR.cnt _, fr.up1⟩
          refine x_vret X w hr hlk ⟨by decide, by decide⟩ dX2_split_82 ?_
          have he9 : i = pg + 1 := by omega
          subst he9
          exact ⟨rfl, rfl, fr, _, hR, fun j h8 h9 => ag_sp (by omega) hz h1 h2 hz62 hz72 h8 h9⟩
        · refine x_al_n X hl 0 rfl rfl dX2_split_33 ?_
          refine x_get X w hR.mp hR.fp fq_X2_split_9 rfl dX2_split_34 ?_
          refine x_il_n X hl 2 rfl rfl dX2_split_37 ?_
          refine x_al_n X hl 0 rfl rfl dX2_split_38 ?_
          refine x_get X w hR.mp hR.fp fq_X2_split_9 rfl dX2_split_39 ?_
          refine x_il_n X hl 2 rfl rfl dX2_split_42 ?_
          refine x_iconst X dX2_split_43 ?_
          refine x_isub X dX2_split_44 ?_
          refine x_ialdv (v := z1 (i - 1)) X w hR.ms hR.fs (by omega) (rfl) dX2_split_45 ?_
          refine x_iast X w hR.ms hR.fs (by omega) dX2_split_46 (fun H locs w => ?_)
          obtain ⟨f47, zz47, w, hR, fr, hz47⟩ : ∃ f9 z9, XW D A s.heap L f9 H locs ∧ RR cs L f9 pr sz (k) z9 ∧ FR f0 f9 pr sz ∧ z9 = uI z1 i (z1 (i - 1)) := ⟨_, _, w, hR.row _, fr.up2, rfl⟩
          refine x_iinc (lv' := [(2, .int (iI (i + (-1)))), (0, .ref pr), (1, .int (iI pg))]) X hl 2 rfl (by decide) rfl dX2_split_47 (fun ls hl => ?_)
          refine x_goto (tgt := 26) X (by decide) dX2_split_50 ?_
          refine ih26 (i + (-1)) f47 zz47 _ _ _ (by omega) (by omega) hR fr ?_ ?_ w (lv_sub hl [1, 2, 0] rfl)
          · intro j h8
            subst hz47
            rw [uI_n _ _ (by omega)]; exact h1 j (by omega)
          · intro j h8 h9
            subst hz47
            by_cases h7 : j = i
            · subst h7; rw [uI_s]; exact h1 _ (by omega)
            · rw [uI_n _ _ h7]; exact h2 j (by omega) h9
    refine loop26 _ k f0 zz _ _ _ (Nat.lt_succ_self _) (by omega) hR fr (fun _ _ => rfl) (fun j h8 h9 => absurd h9 (by omega)) w (lv_sub hl [1, 2, 0] rfl)
  · exfalso; omega

theorem k_X2_remove_X2_has : XV wsX2_remove RX2 19 RX2 yX2_has cX2_has 2 (some .boolean) wsX2_has 1 := ⟨gX2_remove_X2_has, ⟨_, rfl⟩, rfl, by decide, by decide, by decide +kernel⟩
theorem iw_X2_remove_X2 : ∀ w ∈ wsX20, w ∈ wsX2_remove := by decide +kernel
theorem fq_X2_remove_15 : XF wsX2_remove RX2 15 2 1 := ⟨RX2, TX2, 2, iw_X2_remove_X2, rfl, by decide, by decide +kernel⟩
theorem fp_X2_remove_15 : XGn wsX2_remove RX2 15 2 1 (tyX2 1) := ⟨RX2, TX2, 2, tyX2, iw_X2_remove_X2, rfl, by decide, by decide +kernel, tyX2_ok, nmX2, rfl, by decide +kernel⟩
theorem fq_X2_remove_9 : XF wsX2_remove RX2 9 2 0 := ⟨RX2, TX2, 2, iw_X2_remove_X2, rfl, by decide, by decide +kernel⟩
set_option maxHeartbeats 4000000 in
set_option maxRecDepth 100000 in
theorem c_X2_remove (l : Launch) (D : va_G) (cs : ClassId × ClassId × ClassId) (L : List Nat) (f0 : Nat → va_E) (pr sz : Nat) (k : Int) (z : Int → Int) (pg : Int) (hP : PP cs L f0 pr sz k z) (hpg : (0 ≤ k ∧ k ≤ 80) ∧ 0 ≤ pg ∧ pg < k) : C0 l yX2_remove wsX2_remove ({ frames := 2, cells := 0, slots := 0, locals := 33 } : Room) D cs [.ref pr, .int (iI pg)] L f0 (fun v L1 f1 => v = none ∧ L = L1 ∧ FR f0 f1 pr sz ∧ PP cs L1 f1 pr sz (k - 1) (del z pg)) := by
  refine C0.of (cc := cX2_remove) (maxL := 3) (ret := none) (by decide) rfl (Nat.le_of_ble_eq_true rfl) ?_
  intro p e s m below meth c X hr hlk hin A hA w ls hl
  have hl : lv_has ls 3 [(0, .ref pr), (1, .int (iI pg))] := hl
  obtain ⟨zz, hR, hz⟩ := hP
  have fr : FR f0 f0 pr sz := FR.rf _ _ _
  refine x_al_n X hl 0 rfl rfl dX2_remove_0 ?_
  refine x_il_n X hl 1 rfl rfl dX2_remove_1 ?_
  refine x_callV (As := [.int (iI pg)]) (rest := []) (c1 := 0) (s1 := 0) X w hA (c_X2_has l D cs L f0 pr sz k z pg ⟨_, hR, hz⟩ (by omega)) k_X2_remove_X2_has (by decide) hR.mp hR.fp rfl rfl rfl hl rfl (Nat.le_of_ble_eq_true rfl) (by decide) rfl rfl dX2_remove_2 (fun v L1 f1 H locs w hp => ?_)
  obtain ⟨rfl, rfl, hp⟩ := hp
  rcases hp with ⟨rfl, hq2⟩ | ⟨rfl, hq2⟩
  · show W p l e _ s m _ below meth c _ _ _ _ _ (F0 m 5 ls [.int (iI 1)])
    refine x_ifT_ne (tgt := 9) X (by decide) (by decide) (by decide) dX2_remove_5 ?_
    refine x_al_n X hl 0 rfl rfl dX2_remove_9 ?_
    refine x_dup X rfl dX2_remove_10 ?_
    refine x_get X w hR.mp hR.fp fq_X2_remove_15 rfl dX2_remove_11 ?_
    refine x_iconst X dX2_remove_14 ?_
    refine x_isub X dX2_remove_15 ?_
    refine x_put X w hR.mp hR.fp fp_X2_remove_15 rfl rfl (Nat.le_of_ble_eq_true rfl) rfl dX2_remove_16 (fun H locs w => ?_)
    obtain ⟨f19, w, hR, fr⟩ : ∃ f9, XW D A s.heap L f9 H locs ∧ RR cs L f9 pr sz (k - 1) zz ∧ FR f0 f9 pr sz := ⟨_, w, hR.cnt _, fr.up1⟩
    refine x_il_n X hl 1 rfl rfl dX2_remove_19 ?_
    refine x_is_n (lv' := [(2, .int (iI pg)), (0, .ref pr), (1, .int (iI pg))]) X hl rfl (by decide) rfl dX2_remove_20 (fun ls hl => ?_)
    have loop21 : ∀ (N9 : Nat) (i : Int) (f1 : Nat → va_E) (z1 : Int → Int) (H : Heap) (locs : List Loc) (ls : Array Slot), (k - i).toNat < N9 → (pg ≤ i ∧ i ≤ k - 1) → (RR cs L f1 pr sz (k - 1) z1) → (FR f0 f1 pr sz) → (∀ j, i ≤ j → z1 j = zz j) → (∀ j, j < i → z1 j = del zz pg j) → XW D A s.heap L f1 H locs → lv_has ls 3 [(0, .ref pr), (1, .int (iI pg)), (2, .int (iI i))] → W p l e ({ frames := 2, cells := 0, slots := 0, locals := 33 } : Room) s m ([.ref pr, .int (iI pg)] : List Value).toArray below meth c H locs 0 0 (MQ below (CQ D cs A (fun v L1 f1 => v = none ∧ L = L1 ∧ FR f0 f1 pr sz ∧ PP cs L1 f1 pr sz (k - 1) (del z pg))) ([.ref pr, .int (iI pg)] : List Value).toArray s 0 0 A) (F0 m 21 ls []) := by
      intro N9
      induction N9 with
      | zero => intro i f1 z1 H locs ls h9; exact absurd h9 (Nat.not_lt_zero _)
      | succ N9 ih21 =>
        intro i f1 z1 H locs ls h9 hi hR fr h1 h2 w hl
        refine x_il_n X hl 2 rfl rfl dX2_remove_21 ?_
        refine x_al_n X hl 0 rfl rfl dX2_remove_22 ?_
        refine x_get X w hR.mp hR.fp fq_X2_remove_15 rfl dX2_remove_23 ?_
        refine x_icmp_ge (tgt := 49) X (by omega) (by decide) dX2_remove_26 (fun hb26 => ?_) (fun hb26 => ?_)
        · refine x_vret X w hr hlk ⟨by decide, by decide⟩ dX2_remove_49 ?_
          exact ⟨rfl, rfl, fr, _, hR, fun j h8 h9 => (h2 j (by omega)).trans (ag_d hz h8 h9)⟩
        · refine x_al_n X hl 0 rfl rfl dX2_remove_29 ?_
          refine x_get X w hR.mp hR.fp fq_X2_remove_9 rfl dX2_remove_30 ?_
          refine x_il_n X hl 2 rfl rfl dX2_remove_33 ?_
          refine x_al_n X hl 0 rfl rfl dX2_remove_34 ?_
          refine x_get X w hR.mp hR.fp fq_X2_remove_9 rfl dX2_remove_35 ?_
          refine x_il_n X hl 2 rfl rfl dX2_remove_38 ?_
          refine x_iconst X dX2_remove_39 ?_
          refine x_iadd X dX2_remove_40 ?_
          refine x_ialdv (v := z1 (i + 1)) X w hR.ms hR.fs (by omega) (rfl) dX2_remove_41 ?_
          refine x_iast X w hR.ms hR.fs (by omega) dX2_remove_42 (fun H locs w => ?_)
          obtain ⟨f43, zz43, w, hR, fr, hz43⟩ : ∃ f9 z9, XW D A s.heap L f9 H locs ∧ RR cs L f9 pr sz (k - 1) z9 ∧ FR f0 f9 pr sz ∧ z9 = uI z1 i (z1 (i + 1)) := ⟨_, _, w, hR.row _, fr.up2, rfl⟩
          refine x_iinc (lv' := [(2, .int (iI (i + 1))), (0, .ref pr), (1, .int (iI pg))]) X hl 2 rfl (by decide) rfl dX2_remove_43 (fun ls hl => ?_)
          refine x_goto (tgt := 21) X (by decide) dX2_remove_46 ?_
          refine ih21 (i + 1) f43 zz43 _ _ _ (by omega) (by omega) hR fr ?_ ?_ w (lv_sub hl [1, 2, 0] rfl)
          · intro j h8
            subst hz43
            rw [uI_n _ _ (by omega)]; exact h1 j (by omega)
          · intro j h8
            subst hz43
            by_cases h7 : j = i
            · subst h7; rw [uI_s]; show _ = (if j < pg then zz j else zz (j + 1)); rw [if_neg (by omega)]; exact h1 _ (by omega)
            · rw [uI_n _ _ h7]; exact h2 j (by omega)
    refine loop21 _ pg f19 zz _ _ _ (Nat.lt_succ_self _) (by omega) hR fr (fun _ _ => rfl) (fun j h8 => (if_pos h8).symm) w (lv_sub hl [1, 2, 0] rfl)
  · exfalso; omega

theorem k_X2_move_X2_has : XV wsX2_move RX2 19 RX2 yX2_has cX2_has 2 (some .boolean) wsX2_has 1 := ⟨gX2_move_X2_has, ⟨_, rfl⟩, rfl, by decide, by decide, by decide +kernel⟩
theorem iw_X2_move_X2 : ∀ w ∈ wsX20, w ∈ wsX2_move := by decide +kernel
theorem fq_X2_move_9 : XF wsX2_move RX2 9 2 0 := ⟨RX2, TX2, 2, iw_X2_move_X2, rfl, by decide, by decide +kernel⟩
theorem k_X2_move_X2_remove : XV wsX2_move RX2 27 RX2 yX2_remove cX2_remove 3 none wsX2_remove 1 := ⟨gX2_move_X2_remove, ⟨_, rfl⟩, rfl, by decide, by decide, by decide +kernel⟩
set_option maxHeartbeats 4000000 in
set_option maxRecDepth 100000 in
theorem c_X2_move (l : Launch) (D : va_G) (cs : ClassId × ClassId × ClassId) (L : List Nat) (f0 : Nat → va_E) (pr sz : Nat) (k : Int) (z : Int → Int) (pg pt : Int) (hP : PP cs L f0 pr sz k z) (hpg : (0 ≤ k ∧ k ≤ 80) ∧ (0 ≤ pg ∧ pg < k) ∧ (0 ≤ pt ∧ pt < k) ∧ pg ≠ pt) (hz4 : ∀ j, 0 ≤ j → j < k → 0 ≤ z j ∧ z j ≤ 4) : C0 l yX2_move wsX2_move ({ frames := 3, cells := 0, slots := 0, locals := 55 } : Room) D cs [.ref pr, .int (iI pg), .int (iI pt)] L f0 (fun v L1 f1 => v = none ∧ L = L1 ∧ FR f0 f1 pr sz ∧ PP cs L1 f1 pr sz (mvK z k pg) (mvZ z pg pt)) := by
  refine C0.of (cc := cX2_move) (maxL := 3) (ret := none) (by decide) rfl (Nat.le_of_ble_eq_true rfl) ?_
  intro p e s m below meth c X hr hlk hin A hA w ls hl
  have hl : lv_has ls 3 [(0, .ref pr), (1, .int (iI pg)), (2, .int (iI pt))] := hl
  obtain ⟨zz, hR, hz⟩ := hP
  have fr : FR f0 f0 pr sz := FR.rf _ _ _
  have hq9 := hz4 pg (by omega) (by omega)
  refine x_al_n X hl 0 rfl rfl dX2_move_0 ?_
  refine x_il_n X hl 1 rfl rfl dX2_move_1 ?_
  refine x_callV (As := [.int (iI pg)]) (rest := []) (c1 := 0) (s1 := 0) X w hA (c_X2_has l D cs L f0 pr sz k z pg ⟨_, hR, hz⟩ (by omega)) k_X2_move_X2_has (by decide) hR.mp hR.fp rfl rfl rfl hl rfl (Nat.le_of_ble_eq_true rfl) (by decide) rfl rfl dX2_move_2 (fun v L1 f1 H locs w hp => ?_)
  obtain ⟨rfl, rfl, hp⟩ := hp
  rcases hp with ⟨rfl, hq2⟩ | ⟨rfl, hq2⟩
  · show W p l e _ s m _ below meth c _ _ _ _ _ (F0 m 5 ls [.int (iI 1)])
    refine x_ifF_eq (tgt := 16) X (by decide) (by decide) (by decide) dX2_move_5 ?_
    refine x_al_n X hl 0 rfl rfl dX2_move_8 ?_
    refine x_il_n X hl 2 rfl rfl dX2_move_9 ?_
    refine x_callV (As := [.int (iI pt)]) (rest := []) (c1 := 0) (s1 := 0) X w hA (c_X2_has l D cs L f0 pr sz k z pt ⟨_, hR, hz⟩ (by omega)) k_X2_move_X2_has (by decide) hR.mp hR.fp rfl rfl rfl hl rfl (Nat.le_of_ble_eq_true rfl) (by decide) rfl rfl dX2_move_10 (fun v L1 f1 H locs w hp => ?_)
    obtain ⟨rfl, rfl, hp⟩ := hp
    rcases hp with ⟨rfl, hq10⟩ | ⟨rfl, hq10⟩
    · show W p l e _ s m _ below meth c _ _ _ _ _ (F0 m 13 ls [.int (iI 1)])
      refine x_ifT_ne (tgt := 17) X (by decide) (by decide) (by decide) dX2_move_13 ?_
      refine x_al_n X hl 0 rfl rfl dX2_move_17 ?_
      refine x_get X w hR.mp hR.fp fq_X2_move_9 rfl dX2_move_18 ?_
      refine x_il_n X hl 1 rfl rfl dX2_move_21 ?_
      refine x_dup2 X rfl rfl dX2_move_22 ?_
      refine x_ialdv (v := z pg) X w hR.ms hR.fs (by omega) (hz pg (by omega) (by omega)) dX2_move_23 ?_
      refine x_iconst X dX2_move_24 ?_
      refine x_isub X dX2_move_25 ?_
      refine x_iast X w hR.ms hR.fs (by omega) dX2_move_26 (fun H locs w => ?_)
      obtain ⟨f27, zz27, w, hR, fr, hz27⟩ : ∃ f9 z9, XW D A s.heap L f9 H locs ∧ RR cs L f9 pr sz (k) z9 ∧ FR f0 f9 pr sz ∧ (∀ j, 0 ≤ j → j < k → z9 j = (uI z pg ((z pg) - 1)) j) := ⟨_, _, w, hR.row _, fr.up2, ag_u hz⟩
      refine x_al_n X hl 0 rfl rfl dX2_move_27 ?_
      refine x_get X w hR.mp hR.fp fq_X2_move_9 rfl dX2_move_28 ?_
      refine x_il_n X hl 2 rfl rfl dX2_move_31 ?_
      refine x_dup2 X rfl rfl dX2_move_32 ?_
      refine x_ialdv (v := z pt) X w hR.ms hR.fs (by omega) ((hz27 pt (by omega) (by omega)).trans (uI_n _ _ (by omega))) dX2_move_33 ?_
      refine x_iconst X dX2_move_34 ?_
      refine x_iadd X dX2_move_35 ?_
      refine x_iast X w hR.ms hR.fs (by omega) dX2_move_36 (fun H locs w => ?_)
      obtain ⟨f37, zz37, w, hR, fr, hz37⟩ : ∃ f9 z9, XW D A s.heap L f9 H locs ∧ RR cs L f9 pr sz (k) z9 ∧ FR f0 f9 pr sz ∧ (∀ j, 0 ≤ j → j < k → z9 j = (uI (uI z pg ((z pg) - 1)) pt ((z pt) + 1)) j) := ⟨_, _, w, hR.row _, fr.up2, ag_u hz27⟩
      refine x_al_n X hl 0 rfl rfl dX2_move_37 ?_
      refine x_get X w hR.mp hR.fp fq_X2_move_9 rfl dX2_move_38 ?_
      refine x_il_n X hl 1 rfl rfl dX2_move_41 ?_
      refine x_ialdv (v := (z pg) - 1) X w hR.ms hR.fs (by omega) ((hz37 pg (by omega) (by omega)).trans ((uI_n _ _ (by omega)).trans (uI_s _ _ _))) dX2_move_42 ?_
      refine x_if_ne (tgt := 51) X (by omega) (by decide) dX2_move_43 (fun hb43 => ?_) (fun hb43 => ?_)
      · refine x_vret X w hr hlk ⟨by decide, by decide⟩ dX2_move_51 ?_
        unfold mvK mvZ; rw [if_neg hb43, if_neg hb43]
        exact ⟨rfl, rfl, fr, _, hR, hz37⟩
      · refine x_al_n X hl 0 rfl rfl dX2_move_46 ?_
        refine x_il_n X hl 1 rfl rfl dX2_move_47 ?_
        refine x_callV (As := [.int (iI pg)]) (rest := []) (c1 := 0) (s1 := 0) X w hA (c_X2_remove l D cs L f37 pr sz k (uI (uI z pg ((z pg) - 1)) pt ((z pt) + 1)) pg ⟨_, hR, hz37⟩ (by omega)) k_X2_move_X2_remove (by decide) hR.mp hR.fp rfl rfl rfl hl rfl (Nat.le_of_ble_eq_true rfl) (by decide) rfl rfl dX2_move_48 (fun v L1 f1 H locs w hp => ?_)
        obtain ⟨rfl, rfl, hfr, zz48, hR, hz48⟩ := hp
        have fr := fr.tr hfr
        show W p l e _ s m _ below meth c _ _ _ _ _ (F0 m 51 ls [])
        refine x_vret X w hr hlk ⟨by decide, by decide⟩ dX2_move_51 ?_
        unfold mvK mvZ; rw [if_pos hb43, if_pos hb43]
        exact ⟨rfl, rfl, fr, _, hR, hz48⟩
    · exfalso; omega
  · exfalso; omega

theorem k_X2_borrowOrJoin_X2_sizeOf : XV wsX2_borrowOrJoin RX2 23 RX2 yX2_sizeOf cX2_sizeOf 2 (some .int) wsX2_sizeOf 1 := ⟨gX2_borrowOrJoin_X2_sizeOf, ⟨_, rfl⟩, rfl, by decide, by decide, by decide +kernel⟩
theorem k_X2_borrowOrJoin_X2_has : XV wsX2_borrowOrJoin RX2 19 RX2 yX2_has cX2_has 2 (some .boolean) wsX2_has 1 := ⟨gX2_borrowOrJoin_X2_has, ⟨_, rfl⟩, rfl, by decide, by decide, by decide +kernel⟩
theorem k_X2_borrowOrJoin_X2_move : XV wsX2_borrowOrJoin RX2 34 RX2 yX2_move cX2_move 3 none wsX2_move 2 := ⟨gX2_borrowOrJoin_X2_move, ⟨_, rfl⟩, rfl, by decide, by decide, by decide +kernel⟩
set_option maxHeartbeats 4000000 in
set_option maxRecDepth 100000 in
theorem c_X2_borrowOrJoin (l : Launch) (D : va_G) (cs : ClassId × ClassId × ClassId) (L : List Nat) (f0 : Nat → va_E) (pr sz : Nat) (k : Int) (z : Int → Int) (pg : Int) (hP : PP cs L f0 pr sz k z) (hpg : (1 < k ∧ k ≤ 80) ∧ 0 ≤ pg ∧ pg < k) (hz4 : ∀ j, 0 ≤ j → j < k → 0 ≤ z j ∧ z j ≤ 4) : C0 l yX2_borrowOrJoin wsX2_borrowOrJoin ({ frames := 4, cells := 0, slots := 0, locals := 77 } : Room) D cs [.ref pr, .int (iI pg)] L f0 (fun v L1 f1 => v = none ∧ L = L1 ∧ FR f0 f1 pr sz ∧ PP cs L1 f1 pr sz (mvK z k (bjA z k pg)) (mvZ z (bjA z k pg) (bjB z k pg))) := by
  refine C0.of (cc := cX2_borrowOrJoin) (maxL := 2) (ret := none) (by decide) rfl (Nat.le_of_ble_eq_true rfl) ?_
  intro p e s m below meth c X hr hlk hin A hA w ls hl
  have hl : lv_has ls 2 [(0, .ref pr), (1, .int (iI pg))] := hl
  obtain ⟨zz, hR, hz⟩ := hP
  have fr : FR f0 f0 pr sz := FR.rf _ _ _
  have hq8 := hz4 (pg + 1)
  have hq9 := hz4 (pg - 1)
  refine x_al_n X hl 0 rfl rfl dX2_borrowOrJoin_0 ?_
  refine x_il_n X hl 1 rfl rfl dX2_borrowOrJoin_1 ?_
  refine x_iconst X dX2_borrowOrJoin_2 ?_
  refine x_iadd X dX2_borrowOrJoin_3 ?_
  refine x_callV (As := [.int (iI (pg + 1))]) (rest := []) (c1 := 0) (s1 := 0) X w hA (c_X2_sizeOf l D cs L f0 pr sz k z (pg + 1) ⟨_, hR, hz⟩ (by omega)) k_X2_borrowOrJoin_X2_sizeOf (by decide) hR.mp hR.fp rfl rfl rfl hl rfl (Nat.le_of_ble_eq_true rfl) (by decide) rfl rfl dX2_borrowOrJoin_4 (fun v L1 f1 H locs w hp => ?_)
  obtain ⟨rfl, rfl, hp⟩ := hp
  rcases hp with ⟨rfl, hq4⟩ | ⟨rfl, hq4⟩
  · show W p l e _ s m _ below meth c _ _ _ _ _ (F0 m 7 ls [.int (iI (z (pg + 1)))])
    refine x_iconst X dX2_borrowOrJoin_7 ?_
    refine x_icmp_lt (tgt := 22) X (by omega) (by decide) dX2_borrowOrJoin_8 (fun hb8 => ?_) (fun hb8 => ?_)
    · refine x_al_n X hl 0 rfl rfl dX2_borrowOrJoin_22 ?_
      refine x_il_n X hl 1 rfl rfl dX2_borrowOrJoin_23 ?_
      refine x_iconst X dX2_borrowOrJoin_24 ?_
      refine x_isub X dX2_borrowOrJoin_25 ?_
      refine x_callV (As := [.int (iI (pg - 1))]) (rest := []) (c1 := 0) (s1 := 0) X w hA (c_X2_sizeOf l D cs L f0 pr sz k z (pg - 1) ⟨_, hR, hz⟩ (by omega)) k_X2_borrowOrJoin_X2_sizeOf (by decide) hR.mp hR.fp rfl rfl rfl hl rfl (Nat.le_of_ble_eq_true rfl) (by decide) rfl rfl dX2_borrowOrJoin_26 (fun v L1 f1 H locs w hp => ?_)
      obtain ⟨rfl, rfl, hp⟩ := hp
      rcases hp with ⟨rfl, hq26⟩ | ⟨rfl, hq26⟩
      · show W p l e _ s m _ below meth c _ _ _ _ _ (F0 m 29 ls [.int (iI (z (pg - 1)))])
        refine x_iconst X dX2_borrowOrJoin_29 ?_
        refine x_icmp_lt (tgt := 44) X (by omega) (by decide) dX2_borrowOrJoin_30 (fun hb30 => ?_) (fun hb30 => ?_)
        · refine x_al_n X hl 0 rfl rfl dX2_borrowOrJoin_44 ?_
          refine x_il_n X hl 1 rfl rfl dX2_borrowOrJoin_45 ?_
          refine x_iconst X dX2_borrowOrJoin_46 ?_
          refine x_iadd X dX2_borrowOrJoin_47 ?_
          refine x_callV (As := [.int (iI (pg + 1))]) (rest := []) (c1 := 0) (s1 := 0) X w hA (c_X2_has l D cs L f0 pr sz k z (pg + 1) ⟨_, hR, hz⟩ (by omega)) k_X2_borrowOrJoin_X2_has (by decide) hR.mp hR.fp rfl rfl rfl hl rfl (Nat.le_of_ble_eq_true rfl) (by decide) rfl rfl dX2_borrowOrJoin_48 (fun v L1 f1 H locs w hp => ?_)
          obtain ⟨rfl, rfl, hp⟩ := hp
          rcases hp with ⟨rfl, hq48⟩ | ⟨rfl, hq48⟩
          · show W p l e _ s m _ below meth c _ _ _ _ _ (F0 m 51 ls [.int (iI 1)])
            refine x_ifF_eq (tgt := 65) X (by decide) (by decide) (by decide) dX2_borrowOrJoin_51 ?_
            refine x_al_n X hl 0 rfl rfl dX2_borrowOrJoin_54 ?_
            refine x_il_n X hl 1 rfl rfl dX2_borrowOrJoin_55 ?_
            refine x_il_n X hl 1 rfl rfl dX2_borrowOrJoin_56 ?_
            refine x_iconst X dX2_borrowOrJoin_57 ?_
            refine x_iadd X dX2_borrowOrJoin_58 ?_
            refine x_callV (As := [.int (iI pg), .int (iI (pg + 1))]) (rest := []) (c1 := 0) (s1 := 0) X w hA (c_X2_move l D cs L f0 pr sz k z pg (pg + 1) ⟨_, hR, hz⟩ (by omega) hz4) k_X2_borrowOrJoin_X2_move (by decide) hR.mp hR.fp rfl rfl rfl hl rfl (Nat.le_of_ble_eq_true rfl) (by decide) rfl rfl dX2_borrowOrJoin_59 (fun v L1 f1 H locs w hp => ?_)
            obtain ⟨rfl, rfl, hfr, zz59, hR, hz59⟩ := hp
            have fr := fr.tr hfr
            show W p l e _ s m _ below meth c _ _ _ _ _ (F0 m 62 ls [])
            refine x_goto (tgt := 73) X (by decide) dX2_borrowOrJoin_62 ?_
            refine x_vret X w hr hlk ⟨by decide, by decide⟩ dX2_borrowOrJoin_73 ?_
            have hc1 : ¬ (pg + 1 < k ∧ 3 ≤ z (pg + 1)) := by omega
            have hc2 : ¬ (0 < pg ∧ 3 ≤ z (pg - 1)) := by omega
            have hc3 : pg + 1 < k := by omega
            rw [(bjA_3 hc1 hc2 hc3).1, (bjA_3 hc1 hc2 hc3).2]
            exact ⟨rfl, rfl, fr, _, hR, hz59⟩
          · show W p l e _ s m _ below meth c _ _ _ _ _ (F0 m 51 ls [.int (iI 0)])
            refine x_ifT_eq (tgt := 65) X (by decide) (by decide) (by decide) dX2_borrowOrJoin_51 ?_
            refine x_al_n X hl 0 rfl rfl dX2_borrowOrJoin_65 ?_
            refine x_il_n X hl 1 rfl rfl dX2_borrowOrJoin_66 ?_
            refine x_il_n X hl 1 rfl rfl dX2_borrowOrJoin_67 ?_
            refine x_iconst X dX2_borrowOrJoin_68 ?_
            refine x_isub X dX2_borrowOrJoin_69 ?_
            refine x_callV (As := [.int (iI pg), .int (iI (pg - 1))]) (rest := []) (c1 := 0) (s1 := 0) X w hA (c_X2_move l D cs L f0 pr sz k z pg (pg - 1) ⟨_, hR, hz⟩ (by omega) hz4) k_X2_borrowOrJoin_X2_move (by decide) hR.mp hR.fp rfl rfl rfl hl rfl (Nat.le_of_ble_eq_true rfl) (by decide) rfl rfl dX2_borrowOrJoin_70 (fun v L1 f1 H locs w hp => ?_)
            obtain ⟨rfl, rfl, hfr, zz70, hR, hz70⟩ := hp
            have fr := fr.tr hfr
            show W p l e _ s m _ below meth c _ _ _ _ _ (F0 m 73 ls [])
            refine x_vret X w hr hlk ⟨by decide, by decide⟩ dX2_borrowOrJoin_73 ?_
            have hc1 : ¬ (pg + 1 < k ∧ 3 ≤ z (pg + 1)) := by omega
            have hc2 : ¬ (0 < pg ∧ 3 ≤ z (pg - 1)) := by omega
            have hc3 : ¬ pg + 1 < k := by omega
            rw [(bjA_4 hc1 hc2 hc3).1, (bjA_4 hc1 hc2 hc3).2]
            exact ⟨rfl, rfl, fr, _, hR, hz70⟩
        · refine x_al_n X hl 0 rfl rfl dX2_borrowOrJoin_33 ?_
          refine x_il_n X hl 1 rfl rfl dX2_borrowOrJoin_34 ?_
          refine x_iconst X dX2_borrowOrJoin_35 ?_
          refine x_isub X dX2_borrowOrJoin_36 ?_
          refine x_il_n X hl 1 rfl rfl dX2_borrowOrJoin_37 ?_
          refine x_callV (As := [.int (iI (pg - 1)), .int (iI pg)]) (rest := []) (c1 := 0) (s1 := 0) X w hA (c_X2_move l D cs L f0 pr sz k z (pg - 1) pg ⟨_, hR, hz⟩ (by omega) hz4) k_X2_borrowOrJoin_X2_move (by decide) hR.mp hR.fp rfl rfl rfl hl rfl (Nat.le_of_ble_eq_true rfl) (by decide) rfl rfl dX2_borrowOrJoin_38 (fun v L1 f1 H locs w hp => ?_)
          obtain ⟨rfl, rfl, hfr, zz38, hR, hz38⟩ := hp
          have fr := fr.tr hfr
          show W p l e _ s m _ below meth c _ _ _ _ _ (F0 m 41 ls [])
          refine x_goto (tgt := 73) X (by decide) dX2_borrowOrJoin_41 ?_
          refine x_vret X w hr hlk ⟨by decide, by decide⟩ dX2_borrowOrJoin_73 ?_
          have hc1 : ¬ (pg + 1 < k ∧ 3 ≤ z (pg + 1)) := by omega
          have hc2 : (0 < pg ∧ 3 ≤ z (pg - 1)) := by omega
          rw [(bjA_2 hc1 hc2).1, (bjA_2 hc1 hc2).2]
          exact ⟨rfl, rfl, fr, _, hR, hz38⟩
      · show W p l e _ s m _ below meth c _ _ _ _ _ (F0 m 29 ls [.int (iI 0)])
        refine x_iconst X dX2_borrowOrJoin_29 ?_
        refine x_icmpT_lt (tgt := 44) X (by decide) (by decide) (by decide) dX2_borrowOrJoin_30 ?_
        refine x_al_n X hl 0 rfl rfl dX2_borrowOrJoin_44 ?_
        refine x_il_n X hl 1 rfl rfl dX2_borrowOrJoin_45 ?_
        refine x_iconst X dX2_borrowOrJoin_46 ?_
        refine x_iadd X dX2_borrowOrJoin_47 ?_
        refine x_callV (As := [.int (iI (pg + 1))]) (rest := []) (c1 := 0) (s1 := 0) X w hA (c_X2_has l D cs L f0 pr sz k z (pg + 1) ⟨_, hR, hz⟩ (by omega)) k_X2_borrowOrJoin_X2_has (by decide) hR.mp hR.fp rfl rfl rfl hl rfl (Nat.le_of_ble_eq_true rfl) (by decide) rfl rfl dX2_borrowOrJoin_48 (fun v L1 f1 H locs w hp => ?_)
        obtain ⟨rfl, rfl, hp⟩ := hp
        rcases hp with ⟨rfl, hq48⟩ | ⟨rfl, hq48⟩
        · show W p l e _ s m _ below meth c _ _ _ _ _ (F0 m 51 ls [.int (iI 1)])
          refine x_ifF_eq (tgt := 65) X (by decide) (by decide) (by decide) dX2_borrowOrJoin_51 ?_
          refine x_al_n X hl 0 rfl rfl dX2_borrowOrJoin_54 ?_
          refine x_il_n X hl 1 rfl rfl dX2_borrowOrJoin_55 ?_
          refine x_il_n X hl 1 rfl rfl dX2_borrowOrJoin_56 ?_
          refine x_iconst X dX2_borrowOrJoin_57 ?_
          refine x_iadd X dX2_borrowOrJoin_58 ?_
          refine x_callV (As := [.int (iI pg), .int (iI (pg + 1))]) (rest := []) (c1 := 0) (s1 := 0) X w hA (c_X2_move l D cs L f0 pr sz k z pg (pg + 1) ⟨_, hR, hz⟩ (by omega) hz4) k_X2_borrowOrJoin_X2_move (by decide) hR.mp hR.fp rfl rfl rfl hl rfl (Nat.le_of_ble_eq_true rfl) (by decide) rfl rfl dX2_borrowOrJoin_59 (fun v L1 f1 H locs w hp => ?_)
          obtain ⟨rfl, rfl, hfr, zz59, hR, hz59⟩ := hp
          have fr := fr.tr hfr
          show W p l e _ s m _ below meth c _ _ _ _ _ (F0 m 62 ls [])
          refine x_goto (tgt := 73) X (by decide) dX2_borrowOrJoin_62 ?_
          refine x_vret X w hr hlk ⟨by decide, by decide⟩ dX2_borrowOrJoin_73 ?_
          have hc1 : ¬ (pg + 1 < k ∧ 3 ≤ z (pg + 1)) := by omega
          have hc2 : ¬ (0 < pg ∧ 3 ≤ z (pg - 1)) := by omega
          have hc3 : pg + 1 < k := by omega
          rw [(bjA_3 hc1 hc2 hc3).1, (bjA_3 hc1 hc2 hc3).2]
          exact ⟨rfl, rfl, fr, _, hR, hz59⟩
        · show W p l e _ s m _ below meth c _ _ _ _ _ (F0 m 51 ls [.int (iI 0)])
          refine x_ifT_eq (tgt := 65) X (by decide) (by decide) (by decide) dX2_borrowOrJoin_51 ?_
          refine x_al_n X hl 0 rfl rfl dX2_borrowOrJoin_65 ?_
          refine x_il_n X hl 1 rfl rfl dX2_borrowOrJoin_66 ?_
          refine x_il_n X hl 1 rfl rfl dX2_borrowOrJoin_67 ?_
          refine x_iconst X dX2_borrowOrJoin_68 ?_
          refine x_isub X dX2_borrowOrJoin_69 ?_
          refine x_callV (As := [.int (iI pg), .int (iI (pg - 1))]) (rest := []) (c1 := 0) (s1 := 0) X w hA (c_X2_move l D cs L f0 pr sz k z pg (pg - 1) ⟨_, hR, hz⟩ (by omega) hz4) k_X2_borrowOrJoin_X2_move (by decide) hR.mp hR.fp rfl rfl rfl hl rfl (Nat.le_of_ble_eq_true rfl) (by decide) rfl rfl dX2_borrowOrJoin_70 (fun v L1 f1 H locs w hp => ?_)
          obtain ⟨rfl, rfl, hfr, zz70, hR, hz70⟩ := hp
          have fr := fr.tr hfr
          show W p l e _ s m _ below meth c _ _ _ _ _ (F0 m 73 ls [])
          refine x_vret X w hr hlk ⟨by decide, by decide⟩ dX2_borrowOrJoin_73 ?_
          have hc1 : ¬ (pg + 1 < k ∧ 3 ≤ z (pg + 1)) := by omega
          have hc2 : ¬ (0 < pg ∧ 3 ≤ z (pg - 1)) := by omega
          have hc3 : ¬ pg + 1 < k := by omega
          rw [(bjA_4 hc1 hc2 hc3).1, (bjA_4 hc1 hc2 hc3).2]
          exact ⟨rfl, rfl, fr, _, hR, hz70⟩
    · refine x_al_n X hl 0 rfl rfl dX2_borrowOrJoin_11 ?_
      refine x_il_n X hl 1 rfl rfl dX2_borrowOrJoin_12 ?_
      refine x_iconst X dX2_borrowOrJoin_13 ?_
      refine x_iadd X dX2_borrowOrJoin_14 ?_
      refine x_il_n X hl 1 rfl rfl dX2_borrowOrJoin_15 ?_
      refine x_callV (As := [.int (iI (pg + 1)), .int (iI pg)]) (rest := []) (c1 := 0) (s1 := 0) X w hA (c_X2_move l D cs L f0 pr sz k z (pg + 1) pg ⟨_, hR, hz⟩ (by omega) hz4) k_X2_borrowOrJoin_X2_move (by decide) hR.mp hR.fp rfl rfl rfl hl rfl (Nat.le_of_ble_eq_true rfl) (by decide) rfl rfl dX2_borrowOrJoin_16 (fun v L1 f1 H locs w hp => ?_)
      obtain ⟨rfl, rfl, hfr, zz16, hR, hz16⟩ := hp
      have fr := fr.tr hfr
      show W p l e _ s m _ below meth c _ _ _ _ _ (F0 m 19 ls [])
      refine x_goto (tgt := 73) X (by decide) dX2_borrowOrJoin_19 ?_
      refine x_vret X w hr hlk ⟨by decide, by decide⟩ dX2_borrowOrJoin_73 ?_
      have hc1 : (pg + 1 < k ∧ 3 ≤ z (pg + 1)) := by omega
      rw [(bjA_1 hc1).1, (bjA_1 hc1).2]
      exact ⟨rfl, rfl, fr, _, hR, hz16⟩
  · show W p l e _ s m _ below meth c _ _ _ _ _ (F0 m 7 ls [.int (iI 0)])
    refine x_iconst X dX2_borrowOrJoin_7 ?_
    refine x_icmpT_lt (tgt := 22) X (by decide) (by decide) (by decide) dX2_borrowOrJoin_8 ?_
    refine x_al_n X hl 0 rfl rfl dX2_borrowOrJoin_22 ?_
    refine x_il_n X hl 1 rfl rfl dX2_borrowOrJoin_23 ?_
    refine x_iconst X dX2_borrowOrJoin_24 ?_
    refine x_isub X dX2_borrowOrJoin_25 ?_
    refine x_callV (As := [.int (iI (pg - 1))]) (rest := []) (c1 := 0) (s1 := 0) X w hA (c_X2_sizeOf l D cs L f0 pr sz k z (pg - 1) ⟨_, hR, hz⟩ (by omega)) k_X2_borrowOrJoin_X2_sizeOf (by decide) hR.mp hR.fp rfl rfl rfl hl rfl (Nat.le_of_ble_eq_true rfl) (by decide) rfl rfl dX2_borrowOrJoin_26 (fun v L1 f1 H locs w hp => ?_)
    obtain ⟨rfl, rfl, hp⟩ := hp
    rcases hp with ⟨rfl, hq26⟩ | ⟨rfl, hq26⟩
    · show W p l e _ s m _ below meth c _ _ _ _ _ (F0 m 29 ls [.int (iI (z (pg - 1)))])
      refine x_iconst X dX2_borrowOrJoin_29 ?_
      refine x_icmp_lt (tgt := 44) X (by omega) (by decide) dX2_borrowOrJoin_30 (fun hb30 => ?_) (fun hb30 => ?_)
      · refine x_al_n X hl 0 rfl rfl dX2_borrowOrJoin_44 ?_
        refine x_il_n X hl 1 rfl rfl dX2_borrowOrJoin_45 ?_
        refine x_iconst X dX2_borrowOrJoin_46 ?_
        refine x_iadd X dX2_borrowOrJoin_47 ?_
        refine x_callV (As := [.int (iI (pg + 1))]) (rest := []) (c1 := 0) (s1 := 0) X w hA (c_X2_has l D cs L f0 pr sz k z (pg + 1) ⟨_, hR, hz⟩ (by omega)) k_X2_borrowOrJoin_X2_has (by decide) hR.mp hR.fp rfl rfl rfl hl rfl (Nat.le_of_ble_eq_true rfl) (by decide) rfl rfl dX2_borrowOrJoin_48 (fun v L1 f1 H locs w hp => ?_)
        obtain ⟨rfl, rfl, hp⟩ := hp
        rcases hp with ⟨rfl, hq48⟩ | ⟨rfl, hq48⟩
        · show W p l e _ s m _ below meth c _ _ _ _ _ (F0 m 51 ls [.int (iI 1)])
          refine x_ifF_eq (tgt := 65) X (by decide) (by decide) (by decide) dX2_borrowOrJoin_51 ?_
          refine x_al_n X hl 0 rfl rfl dX2_borrowOrJoin_54 ?_
          refine x_il_n X hl 1 rfl rfl dX2_borrowOrJoin_55 ?_
          refine x_il_n X hl 1 rfl rfl dX2_borrowOrJoin_56 ?_
          refine x_iconst X dX2_borrowOrJoin_57 ?_
          refine x_iadd X dX2_borrowOrJoin_58 ?_
          refine x_callV (As := [.int (iI pg), .int (iI (pg + 1))]) (rest := []) (c1 := 0) (s1 := 0) X w hA (c_X2_move l D cs L f0 pr sz k z pg (pg + 1) ⟨_, hR, hz⟩ (by omega) hz4) k_X2_borrowOrJoin_X2_move (by decide) hR.mp hR.fp rfl rfl rfl hl rfl (Nat.le_of_ble_eq_true rfl) (by decide) rfl rfl dX2_borrowOrJoin_59 (fun v L1 f1 H locs w hp => ?_)
          obtain ⟨rfl, rfl, hfr, zz59, hR, hz59⟩ := hp
          have fr := fr.tr hfr
          show W p l e _ s m _ below meth c _ _ _ _ _ (F0 m 62 ls [])
          refine x_goto (tgt := 73) X (by decide) dX2_borrowOrJoin_62 ?_
          refine x_vret X w hr hlk ⟨by decide, by decide⟩ dX2_borrowOrJoin_73 ?_
          have hc1 : ¬ (pg + 1 < k ∧ 3 ≤ z (pg + 1)) := by omega
          have hc2 : ¬ (0 < pg ∧ 3 ≤ z (pg - 1)) := by omega
          have hc3 : pg + 1 < k := by omega
          rw [(bjA_3 hc1 hc2 hc3).1, (bjA_3 hc1 hc2 hc3).2]
          exact ⟨rfl, rfl, fr, _, hR, hz59⟩
        · show W p l e _ s m _ below meth c _ _ _ _ _ (F0 m 51 ls [.int (iI 0)])
          refine x_ifT_eq (tgt := 65) X (by decide) (by decide) (by decide) dX2_borrowOrJoin_51 ?_
          refine x_al_n X hl 0 rfl rfl dX2_borrowOrJoin_65 ?_
          refine x_il_n X hl 1 rfl rfl dX2_borrowOrJoin_66 ?_
          refine x_il_n X hl 1 rfl rfl dX2_borrowOrJoin_67 ?_
          refine x_iconst X dX2_borrowOrJoin_68 ?_
          refine x_isub X dX2_borrowOrJoin_69 ?_
          refine x_callV (As := [.int (iI pg), .int (iI (pg - 1))]) (rest := []) (c1 := 0) (s1 := 0) X w hA (c_X2_move l D cs L f0 pr sz k z pg (pg - 1) ⟨_, hR, hz⟩ (by omega) hz4) k_X2_borrowOrJoin_X2_move (by decide) hR.mp hR.fp rfl rfl rfl hl rfl (Nat.le_of_ble_eq_true rfl) (by decide) rfl rfl dX2_borrowOrJoin_70 (fun v L1 f1 H locs w hp => ?_)
          obtain ⟨rfl, rfl, hfr, zz70, hR, hz70⟩ := hp
          have fr := fr.tr hfr
          show W p l e _ s m _ below meth c _ _ _ _ _ (F0 m 73 ls [])
          refine x_vret X w hr hlk ⟨by decide, by decide⟩ dX2_borrowOrJoin_73 ?_
          have hc1 : ¬ (pg + 1 < k ∧ 3 ≤ z (pg + 1)) := by omega
          have hc2 : ¬ (0 < pg ∧ 3 ≤ z (pg - 1)) := by omega
          have hc3 : ¬ pg + 1 < k := by omega
          rw [(bjA_4 hc1 hc2 hc3).1, (bjA_4 hc1 hc2 hc3).2]
          exact ⟨rfl, rfl, fr, _, hR, hz70⟩
      · refine x_al_n X hl 0 rfl rfl dX2_borrowOrJoin_33 ?_
        refine x_il_n X hl 1 rfl rfl dX2_borrowOrJoin_34 ?_
        refine x_iconst X dX2_borrowOrJoin_35 ?_
        refine x_isub X dX2_borrowOrJoin_36 ?_
        refine x_il_n X hl 1 rfl rfl dX2_borrowOrJoin_37 ?_
        refine x_callV (As := [.int (iI (pg - 1)), .int (iI pg)]) (rest := []) (c1 := 0) (s1 := 0) X w hA (c_X2_move l D cs L f0 pr sz k z (pg - 1) pg ⟨_, hR, hz⟩ (by omega) hz4) k_X2_borrowOrJoin_X2_move (by decide) hR.mp hR.fp rfl rfl rfl hl rfl (Nat.le_of_ble_eq_true rfl) (by decide) rfl rfl dX2_borrowOrJoin_38 (fun v L1 f1 H locs w hp => ?_)
        obtain ⟨rfl, rfl, hfr, zz38, hR, hz38⟩ := hp
        have fr := fr.tr hfr
        show W p l e _ s m _ below meth c _ _ _ _ _ (F0 m 41 ls [])
        refine x_goto (tgt := 73) X (by decide) dX2_borrowOrJoin_41 ?_
        refine x_vret X w hr hlk ⟨by decide, by decide⟩ dX2_borrowOrJoin_73 ?_
        have hc1 : ¬ (pg + 1 < k ∧ 3 ≤ z (pg + 1)) := by omega
        have hc2 : (0 < pg ∧ 3 ≤ z (pg - 1)) := by omega
        rw [(bjA_2 hc1 hc2).1, (bjA_2 hc1 hc2).2]
        exact ⟨rfl, rfl, fr, _, hR, hz38⟩
    · show W p l e _ s m _ below meth c _ _ _ _ _ (F0 m 29 ls [.int (iI 0)])
      refine x_iconst X dX2_borrowOrJoin_29 ?_
      refine x_icmpT_lt (tgt := 44) X (by decide) (by decide) (by decide) dX2_borrowOrJoin_30 ?_
      refine x_al_n X hl 0 rfl rfl dX2_borrowOrJoin_44 ?_
      refine x_il_n X hl 1 rfl rfl dX2_borrowOrJoin_45 ?_
      refine x_iconst X dX2_borrowOrJoin_46 ?_
      refine x_iadd X dX2_borrowOrJoin_47 ?_
      refine x_callV (As := [.int (iI (pg + 1))]) (rest := []) (c1 := 0) (s1 := 0) X w hA (c_X2_has l D cs L f0 pr sz k z (pg + 1) ⟨_, hR, hz⟩ (by omega)) k_X2_borrowOrJoin_X2_has (by decide) hR.mp hR.fp rfl rfl rfl hl rfl (Nat.le_of_ble_eq_true rfl) (by decide) rfl rfl dX2_borrowOrJoin_48 (fun v L1 f1 H locs w hp => ?_)
      obtain ⟨rfl, rfl, hp⟩ := hp
      rcases hp with ⟨rfl, hq48⟩ | ⟨rfl, hq48⟩
      · show W p l e _ s m _ below meth c _ _ _ _ _ (F0 m 51 ls [.int (iI 1)])
        refine x_ifF_eq (tgt := 65) X (by decide) (by decide) (by decide) dX2_borrowOrJoin_51 ?_
        refine x_al_n X hl 0 rfl rfl dX2_borrowOrJoin_54 ?_
        refine x_il_n X hl 1 rfl rfl dX2_borrowOrJoin_55 ?_
        refine x_il_n X hl 1 rfl rfl dX2_borrowOrJoin_56 ?_
        refine x_iconst X dX2_borrowOrJoin_57 ?_
        refine x_iadd X dX2_borrowOrJoin_58 ?_
        refine x_callV (As := [.int (iI pg), .int (iI (pg + 1))]) (rest := []) (c1 := 0) (s1 := 0) X w hA (c_X2_move l D cs L f0 pr sz k z pg (pg + 1) ⟨_, hR, hz⟩ (by omega) hz4) k_X2_borrowOrJoin_X2_move (by decide) hR.mp hR.fp rfl rfl rfl hl rfl (Nat.le_of_ble_eq_true rfl) (by decide) rfl rfl dX2_borrowOrJoin_59 (fun v L1 f1 H locs w hp => ?_)
        obtain ⟨rfl, rfl, hfr, zz59, hR, hz59⟩ := hp
        have fr := fr.tr hfr
        show W p l e _ s m _ below meth c _ _ _ _ _ (F0 m 62 ls [])
        refine x_goto (tgt := 73) X (by decide) dX2_borrowOrJoin_62 ?_
        refine x_vret X w hr hlk ⟨by decide, by decide⟩ dX2_borrowOrJoin_73 ?_
        have hc1 : ¬ (pg + 1 < k ∧ 3 ≤ z (pg + 1)) := by omega
        have hc2 : ¬ (0 < pg ∧ 3 ≤ z (pg - 1)) := by omega
        have hc3 : pg + 1 < k := by omega
        rw [(bjA_3 hc1 hc2 hc3).1, (bjA_3 hc1 hc2 hc3).2]
        exact ⟨rfl, rfl, fr, _, hR, hz59⟩
      · show W p l e _ s m _ below meth c _ _ _ _ _ (F0 m 51 ls [.int (iI 0)])
        refine x_ifT_eq (tgt := 65) X (by decide) (by decide) (by decide) dX2_borrowOrJoin_51 ?_
        refine x_al_n X hl 0 rfl rfl dX2_borrowOrJoin_65 ?_
        refine x_il_n X hl 1 rfl rfl dX2_borrowOrJoin_66 ?_
        refine x_il_n X hl 1 rfl rfl dX2_borrowOrJoin_67 ?_
        refine x_iconst X dX2_borrowOrJoin_68 ?_
        refine x_isub X dX2_borrowOrJoin_69 ?_
        refine x_callV (As := [.int (iI pg), .int (iI (pg - 1))]) (rest := []) (c1 := 0) (s1 := 0) X w hA (c_X2_move l D cs L f0 pr sz k z pg (pg - 1) ⟨_, hR, hz⟩ (by omega) hz4) k_X2_borrowOrJoin_X2_move (by decide) hR.mp hR.fp rfl rfl rfl hl rfl (Nat.le_of_ble_eq_true rfl) (by decide) rfl rfl dX2_borrowOrJoin_70 (fun v L1 f1 H locs w hp => ?_)
        obtain ⟨rfl, rfl, hfr, zz70, hR, hz70⟩ := hp
        have fr := fr.tr hfr
        show W p l e _ s m _ below meth c _ _ _ _ _ (F0 m 73 ls [])
        refine x_vret X w hr hlk ⟨by decide, by decide⟩ dX2_borrowOrJoin_73 ?_
        have hc1 : ¬ (pg + 1 < k ∧ 3 ≤ z (pg + 1)) := by omega
        have hc2 : ¬ (0 < pg ∧ 3 ≤ z (pg - 1)) := by omega
        have hc3 : ¬ pg + 1 < k := by omega
        rw [(bjA_4 hc1 hc2 hc3).1, (bjA_4 hc1 hc2 hc3).2]
        exact ⟨rfl, rfl, fr, _, hR, hz70⟩

theorem k_X2_takeFrom_X2_has : XV wsX2_takeFrom RX2 19 RX2 yX2_has cX2_has 2 (some .boolean) wsX2_has 1 := ⟨gX2_takeFrom_X2_has, ⟨_, rfl⟩, rfl, by decide, by decide, by decide +kernel⟩
theorem iw_X2_takeFrom_X2 : ∀ w ∈ wsX20, w ∈ wsX2_takeFrom := by decide +kernel
theorem fq_X2_takeFrom_9 : XF wsX2_takeFrom RX2 9 2 0 := ⟨RX2, TX2, 2, iw_X2_takeFrom_X2, rfl, by decide, by decide +kernel⟩
theorem fq_X2_takeFrom_15 : XF wsX2_takeFrom RX2 15 2 1 := ⟨RX2, TX2, 2, iw_X2_takeFrom_X2, rfl, by decide, by decide +kernel⟩
theorem k_X2_takeFrom_X2_borrowOrJoin : XV wsX2_takeFrom RX2 31 RX2 yX2_borrowOrJoin cX2_borrowOrJoin 2 none wsX2_borrowOrJoin 1 := ⟨gX2_takeFrom_X2_borrowOrJoin, ⟨_, rfl⟩, rfl, by decide, by decide, by decide +kernel⟩
theorem k_X2_takeFrom_X2_remove : XV wsX2_takeFrom RX2 27 RX2 yX2_remove cX2_remove 3 none wsX2_remove 1 := ⟨gX2_takeFrom_X2_remove, ⟨_, rfl⟩, rfl, by decide, by decide, by decide +kernel⟩
set_option maxHeartbeats 4000000 in
set_option maxRecDepth 100000 in
theorem c_X2_takeFrom (l : Launch) (D : va_G) (cs : ClassId × ClassId × ClassId) (L : List Nat) (f0 : Nat → va_E) (pr sz : Nat) (k : Int) (z : Int → Int) (pg : Int) (hP : PP cs L f0 pr sz k z) (hpg : (0 ≤ k ∧ k ≤ 80) ∧ 0 ≤ pg ∧ pg < k) (hz4 : ∀ j, 0 ≤ j → j < k → 0 ≤ z j ∧ z j ≤ 4) : C0 l yX2_takeFrom wsX2_takeFrom ({ frames := 5, cells := 0, slots := 0, locals := 98 } : Room) D cs [.ref pr, .int (iI pg)] L f0 (fun v L1 f1 => v = none ∧ L = L1 ∧ FR f0 f1 pr sz ∧ PP cs L1 f1 pr sz (tkK z k pg) (tkZ z k pg)) := by
  refine C0.of (cc := cX2_takeFrom) (maxL := 2) (ret := none) (by decide) rfl (Nat.le_of_ble_eq_true rfl) ?_
  intro p e s m below meth c X hr hlk hin A hA w ls hl
  have hl : lv_has ls 2 [(0, .ref pr), (1, .int (iI pg))] := hl
  obtain ⟨zz, hR, hz⟩ := hP
  have fr : FR f0 f0 pr sz := FR.rf _ _ _
  have hq9 := hz4 pg (by omega) (by omega)
  refine x_al_n X hl 0 rfl rfl dX2_takeFrom_0 ?_
  refine x_il_n X hl 1 rfl rfl dX2_takeFrom_1 ?_
  refine x_callV (As := [.int (iI pg)]) (rest := []) (c1 := 0) (s1 := 0) X w hA (c_X2_has l D cs L f0 pr sz k z pg ⟨_, hR, hz⟩ (by omega)) k_X2_takeFrom_X2_has (by decide) hR.mp hR.fp rfl rfl rfl hl rfl (Nat.le_of_ble_eq_true rfl) (by decide) rfl rfl dX2_takeFrom_2 (fun v L1 f1 H locs w hp => ?_)
  obtain ⟨rfl, rfl, hp⟩ := hp
  rcases hp with ⟨rfl, hq2⟩ | ⟨rfl, hq2⟩
  · show W p l e _ s m _ below meth c _ _ _ _ _ (F0 m 5 ls [.int (iI 1)])
    refine x_ifT_ne (tgt := 9) X (by decide) (by decide) (by decide) dX2_takeFrom_5 ?_
    refine x_al_n X hl 0 rfl rfl dX2_takeFrom_9 ?_
    refine x_get X w hR.mp hR.fp fq_X2_takeFrom_9 rfl dX2_takeFrom_10 ?_
    refine x_il_n X hl 1 rfl rfl dX2_takeFrom_13 ?_
    refine x_dup2 X rfl rfl dX2_takeFrom_14 ?_
    refine x_ialdv (v := z pg) X w hR.ms hR.fs (by omega) (hz pg (by omega) (by omega)) dX2_takeFrom_15 ?_
    refine x_iconst X dX2_takeFrom_16 ?_
    refine x_isub X dX2_takeFrom_17 ?_
    refine x_iast X w hR.ms hR.fs (by omega) dX2_takeFrom_18 (fun H locs w => ?_)
    obtain ⟨f19, zz19, w, hR, fr, hz19⟩ : ∃ f9 z9, XW D A s.heap L f9 H locs ∧ RR cs L f9 pr sz (k) z9 ∧ FR f0 f9 pr sz ∧ (∀ j, 0 ≤ j → j < k → z9 j = (uI z pg ((z pg) - 1)) j) := ⟨_, _, w, hR.row _, fr.up2, ag_u hz⟩
    refine x_al_n X hl 0 rfl rfl dX2_takeFrom_19 ?_
    refine x_get X w hR.mp hR.fp fq_X2_takeFrom_9 rfl dX2_takeFrom_20 ?_
    refine x_il_n X hl 1 rfl rfl dX2_takeFrom_23 ?_
    refine x_ialdv (v := (z pg) - 1) X w hR.ms hR.fs (by omega) ((hz19 pg (by omega) (by omega)).trans (uI_s _ _ _)) dX2_takeFrom_24 ?_
    refine x_if_ne (tgt := 36) X (by omega) (by decide) dX2_takeFrom_25 (fun hb25 => ?_) (fun hb25 => ?_)
    · refine x_al_n X hl 0 rfl rfl dX2_takeFrom_36 ?_
      refine x_get X w hR.mp hR.fp fq_X2_takeFrom_9 rfl dX2_takeFrom_37 ?_
      refine x_il_n X hl 1 rfl rfl dX2_takeFrom_40 ?_
      refine x_ialdv (v := (z pg) - 1) X w hR.ms hR.fs (by omega) ((hz19 pg (by omega) (by omega)).trans (uI_s _ _ _)) dX2_takeFrom_41 ?_
      refine x_iconst X dX2_takeFrom_42 ?_
      refine x_icmp_ne (tgt := 59) X (by omega) (by decide) dX2_takeFrom_43 (fun hb43 => ?_) (fun hb43 => ?_)
      · refine x_vret X w hr hlk ⟨by decide, by decide⟩ dX2_takeFrom_59 ?_
        have hc1 : ¬ (z pg - 1 = 1 ∧ 1 < k) := by omega
        unfold tkK tkZ; rw [if_neg hb25, if_neg hb25, if_neg hc1, if_neg hc1]
        exact ⟨rfl, rfl, fr, _, hR, hz19⟩
      · refine x_al_n X hl 0 rfl rfl dX2_takeFrom_46 ?_
        refine x_get X w hR.mp hR.fp fq_X2_takeFrom_15 rfl dX2_takeFrom_47 ?_
        refine x_iconst X dX2_takeFrom_50 ?_
        refine x_icmp_le (tgt := 59) X (by omega) (by decide) dX2_takeFrom_51 (fun hb51 => ?_) (fun hb51 => ?_)
        · refine x_vret X w hr hlk ⟨by decide, by decide⟩ dX2_takeFrom_59 ?_
          have hc1 : ¬ (z pg - 1 = 1 ∧ 1 < k) := by omega
          unfold tkK tkZ; rw [if_neg hb25, if_neg hb25, if_neg hc1, if_neg hc1]
          exact ⟨rfl, rfl, fr, _, hR, hz19⟩
        · have hz4b : ∀ j, 0 ≤ j → j < k → 0 ≤ uI z pg (z pg - 1) j ∧ uI z pg (z pg - 1) j ≤ 4 := by
            intro j h1 h2
            by_cases h3 : j = pg
            · subst h3; rw [uI_s]; omega
            · rw [uI_n _ _ h3]; exact hz4 j h1 h2
          refine x_al_n X hl 0 rfl rfl dX2_takeFrom_54 ?_
          refine x_il_n X hl 1 rfl rfl dX2_takeFrom_55 ?_
          refine x_callV (As := [.int (iI pg)]) (rest := []) (c1 := 0) (s1 := 0) X w hA (c_X2_borrowOrJoin l D cs L f19 pr sz k (uI z pg ((z pg) - 1)) pg ⟨_, hR, hz19⟩ (by omega) hz4b) k_X2_takeFrom_X2_borrowOrJoin (by decide) hR.mp hR.fp rfl rfl rfl hl rfl (Nat.le_of_ble_eq_true rfl) (by decide) rfl rfl dX2_takeFrom_56 (fun v L1 f1 H locs w hp => ?_)
          obtain ⟨rfl, rfl, hfr, zz56, hR, hz56⟩ := hp
          have fr := fr.tr hfr
          show W p l e _ s m _ below meth c _ _ _ _ _ (F0 m 59 ls [])
          refine x_vret X w hr hlk ⟨by decide, by decide⟩ dX2_takeFrom_59 ?_
          have hc1 : z pg - 1 = 1 ∧ 1 < k := by omega
          unfold tkK tkZ; rw [if_neg hb25, if_neg hb25, if_pos hc1, if_pos hc1]
          exact ⟨rfl, rfl, fr, _, hR, hz56⟩
    · refine x_al_n X hl 0 rfl rfl dX2_takeFrom_28 ?_
      refine x_il_n X hl 1 rfl rfl dX2_takeFrom_29 ?_
      refine x_callV (As := [.int (iI pg)]) (rest := []) (c1 := 0) (s1 := 0) X w hA (c_X2_remove l D cs L f19 pr sz k (uI z pg ((z pg) - 1)) pg ⟨_, hR, hz19⟩ (by omega)) k_X2_takeFrom_X2_remove (by decide) hR.mp hR.fp rfl rfl rfl hl rfl (Nat.le_of_ble_eq_true rfl) (by decide) rfl rfl dX2_takeFrom_30 (fun v L1 f1 H locs w hp => ?_)
      obtain ⟨rfl, rfl, hfr, zz30, hR, hz30⟩ := hp
      have fr := fr.tr hfr
      show W p l e _ s m _ below meth c _ _ _ _ _ (F0 m 33 ls [])
      refine x_goto (tgt := 59) X (by decide) dX2_takeFrom_33 ?_
      refine x_vret X w hr hlk ⟨by decide, by decide⟩ dX2_takeFrom_59 ?_
      unfold tkK tkZ; rw [if_pos hb25, if_pos hb25]
      exact ⟨rfl, rfl, fr, _, hR, hz30⟩
  · exfalso; omega
end
section
/-! a record, the row of records: what they hold, and their methods -/
def bR (g : Nat → Int) : va_E := .inr (0, [.int (iI (g 0)), .int (iI (g 1)), .int (iI (g 2)), .int (iI (g 3)), .int (iI (g 4))])
def BO2 (L : List Nat) (f : Nat → va_E) (n : Int) (r : Int → Option Nat) (R : Rc) : Prop := ∀ j : Int, 0 ≤ j → j < n → ∃ a, r j = some a ∧ a ∈ L ∧ f a = bR (R j)
theorem bR_ne {g : Nat → Int} {fs : List Value} {k : Nat} (hk : k ≠ 0) {f : Nat → va_E} {a b : Nat} (h1 : f a = bR g) (h2 : f b = .inr (k, fs)) : a ≠ b := by
  intro he; rw [he, h2] at h1; unfold bR at h1; injection h1 with h3; injection h3 with h4 h5; exact hk h4
theorem bR_nl {g : Nat → Int} {x : ClassId × vp_A} {f : Nat → va_E} {a b : Nat} (h1 : f a = bR g) (h2 : f b = .inl x) : a ≠ b := by
  intro he; rw [he, h2] at h1; unfold bR at h1; cases h1
theorem BO2.fr {L : List Nat} {f f1 : Nat → va_E} {n : Int} {r : Int → Option Nat} {R : Rc} {br ba : Nat} {fs : List Value} {x : ClassId × vp_A} {k : Nat} (hk : k ≠ 0) (h : BO2 L f n r R) (e1 : f br = .inr (k, fs)) (e2 : f ba = .inl x) (hf : FR f f1 br ba) : BO2 L f1 n r R := by
  intro j h1 h2
  obtain ⟨a, h3, h4, h5⟩ := h j h1 h2
  exact ⟨a, h3, h4, (hf a (bR_ne hk h5 e1) (bR_nl h5 e2)).trans h5⟩
theorem ovP_t {t : Int} {g : Nat → Int} (h : g 4 ≠ -1 ∧ g 4 + 14 < t) : ovP t g = true := decide_eq_true ⟨h.1, h.2⟩
theorem ovP_f {t : Int} {g : Nat → Int} (h : ¬ (g 4 ≠ -1 ∧ g 4 + 14 < t)) : ovP t g = false := decide_eq_false (fun h2 => h ⟨h2.1, h2.2⟩)
theorem amP_t {su dy : Int} {g : Nat → Int} (h : g 4 = -1 ∧ g 1 ≤ su ∧ g 3 ≤ dy) : amP su dy g = true := decide_eq_true h
theorem amP_f {su dy : Int} {g : Nat → Int} (h : ¬ (g 4 = -1 ∧ g 1 ≤ su ∧ g 3 ≤ dy)) : amP su dy g = false := decide_eq_false h
theorem fd_ni {R : Rc} {n v : Int} (h : ¬ (0 ≤ fd R n v ∧ fd R n v < n)) : fd R n v = -1 := by
  rcases fd_or (R := R) (n := n) (v := v) with h1 | h1
  · exact absurd ⟨h1.1, h1.2.1⟩ h
  · exact h1.1
theorem BO2.ins {L : List Nat} {f : Nat → va_E} {n pl : Int} {r r1 r2 : Int → Option Nat} {R : Rc} {a : Nat} {g : Nat → Int} (h : BO2 L f n r R) (hp : 0 ≤ pl ∧ pl ≤ n) (h1 : ∀ j, j ≤ pl → r1 j = r j) (h2 : ∀ j, pl < j → j ≤ n → r1 j = r (j - 1)) (e2 : r2 = uI r1 pl (some a)) (ha : a ∈ L) (hfa : f a = bR g) : BO2 L f (n + 1) r2 (ins R pl g) := by
  intro j h8 h9
  show ∃ b, _ ∧ _ ∧ f b = bR (if j < pl then R j else if j = pl then g else R (j - 1))
  by_cases h3 : j = pl
  · subst h3
    exact ⟨a, by rw [e2, uI_s], ha, by rw [if_neg (by omega), if_pos rfl]; exact hfa⟩
  · rw [e2, uI_n _ _ h3]
    by_cases h4 : j < pl
    · rw [if_pos h4, h1 j (by omega)]; exact h j h8 (by omega)
    · rw [if_neg h4, if_neg h3, h2 j (by omega) (by omega)]; exact h (j - 1) (by omega) (by omega)
theorem BO2.del {L : List Nat} {f : Nat → va_E} {n pl : Int} {r r1 r2 : Int → Option Nat} {R : Rc} (h : BO2 L f n r R) (hp : 0 ≤ pl ∧ pl < n) (h2 : ∀ j, j < n - 1 → r1 j = del r pl j) (e2 : r2 = uI r1 (n - 1) none) : BO2 L f (n - 1) r2 (del R pl) := by
  intro j h8 h9
  rw [e2, uI_n _ _ (by omega), h2 j h9]
  show ∃ b, (if j < pl then r j else r (j + 1)) = some b ∧ _ ∧ f b = bR (if j < pl then R j else R (j + 1))
  by_cases h4 : j < pl
  · rw [if_pos h4, if_pos h4]; exact h j h8 (by omega)
  · rw [if_neg h4, if_neg h4]; exact h (j + 1) (by omega) (by omega)

theorem iw_X0_hasForfeitDay_X0 : ∀ w ∈ wsX00, w ∈ wsX0_hasForfeitDay := by decide +kernel
theorem fq_X0_hasForfeitDay_24 : XF wsX0_hasForfeitDay RX0 24 0 4 := ⟨RX0, TX0, 5, iw_X0_hasForfeitDay_X0, rfl, by decide, by decide +kernel⟩
set_option maxHeartbeats 4000000 in
set_option maxRecDepth 100000 in
theorem c_X0_hasForfeitDay (l : Launch) (D : va_G) (cs : ClassId × ClassId × ClassId) (L : List Nat) (f0 : Nat → va_E) (a : Nat) (g : Nat → Int) (ma : a ∈ L) (fa : f0 a = bR g) (hb4 : -1 ≤ g 4 ∧ g 4 ≤ 5000) : C0 l yX0_hasForfeitDay wsX0_hasForfeitDay ({ frames := 1, cells := 0, slots := 0, locals := 12 } : Room) D cs [.ref a] L f0 (fun v L1 f1 => L = L1 ∧ f0 = f1 ∧ ((v = some (.int (iI 1)) ∧ g 4 ≠ -1) ∨ (v = some (.int (iI 0)) ∧ g 4 = -1))) := by
  refine C0.of (cc := cX0_hasForfeitDay) (maxL := 1) (ret := (some .boolean)) (by decide) rfl (Nat.le_of_ble_eq_true rfl) ?_
  intro p e s m below meth c X hr hlk hin A hA w ls hl
  have hl : lv_has ls 1 [(0, .ref a)] := hl
  refine x_al_n X hl 0 rfl rfl dX0_hasForfeitDay_0 ?_
  refine x_get X w ma fa fq_X0_hasForfeitDay_24 rfl dX0_hasForfeitDay_1 ?_
  refine x_iconst X dX0_hasForfeitDay_4 ?_
  refine x_icmp_eq (tgt := 12) X (by omega) (by decide) dX0_hasForfeitDay_5 (fun hb5 => ?_) (fun hb5 => ?_)
  · refine x_iconst X dX0_hasForfeitDay_12 ?_
    refine x_zret X w hr hlk ⟨by decide, by decide⟩ (by omega) dX0_hasForfeitDay_13 ?_
    exact ⟨rfl, rfl, Or.inr ⟨rfl, by omega⟩⟩
  · refine x_iconst X dX0_hasForfeitDay_8 ?_
    refine x_goto (tgt := 13) X (by decide) dX0_hasForfeitDay_9 ?_
    refine x_zret X w hr hlk ⟨by decide, by decide⟩ (by omega) dX0_hasForfeitDay_13 ?_
    exact ⟨rfl, rfl, Or.inl ⟨rfl, by omega⟩⟩

theorem k_X0_isOverdue_X0_hasForfeitDay : XV wsX0_isOverdue RX0 27 RX0 yX0_hasForfeitDay cX0_hasForfeitDay 1 (some .boolean) wsX0_hasForfeitDay 0 := ⟨gX0_isOverdue_X0_hasForfeitDay, ⟨_, rfl⟩, rfl, by decide, by decide, by decide +kernel⟩
theorem iw_X0_isOverdue_X0 : ∀ w ∈ wsX00, w ∈ wsX0_isOverdue := by decide +kernel
theorem fq_X0_isOverdue_24 : XF wsX0_isOverdue RX0 24 0 4 := ⟨RX0, TX0, 5, iw_X0_isOverdue_X0, rfl, by decide, by decide +kernel⟩
set_option maxHeartbeats 4000000 in
set_option maxRecDepth 100000 in
theorem c_X0_isOverdue (l : Launch) (D : va_G) (cs : ClassId × ClassId × ClassId) (L : List Nat) (f0 : Nat → va_E) (a : Nat) (g : Nat → Int) (t : Int) (ma : a ∈ L) (fa : f0 a = bR g) (hb4 : (-1 ≤ g 4 ∧ g 4 ≤ 5000) ∧ 0 ≤ t ∧ t ≤ 6000) : C0 l yX0_isOverdue wsX0_isOverdue ({ frames := 2, cells := 0, slots := 0, locals := 32 } : Room) D cs [.ref a, .int (iI t)] L f0 (fun v L1 f1 => L = L1 ∧ f0 = f1 ∧ ((v = some (.int (iI 1)) ∧ ovP t g = true) ∨ (v = some (.int (iI 0)) ∧ ovP t g = false))) := by
  refine C0.of (cc := cX0_isOverdue) (maxL := 2) (ret := (some .boolean)) (by decide) rfl (Nat.le_of_ble_eq_true rfl) ?_
  intro p e s m below meth c X hr hlk hin A hA w ls hl
  have hl : lv_has ls 2 [(0, .ref a), (1, .int (iI t))] := hl
  refine x_al_n X hl 0 rfl rfl dX0_isOverdue_0 ?_
  refine x_callV (As := []) (rest := []) (c1 := 0) (s1 := 0) X w hA (c_X0_hasForfeitDay l D cs L f0 a g ma fa (by omega)) k_X0_isOverdue_X0_hasForfeitDay (by decide) ma fa rfl rfl rfl hl rfl (Nat.le_of_ble_eq_true rfl) (by decide) rfl rfl dX0_isOverdue_1 (fun v L1 f1 H locs w hp => ?_)
  obtain ⟨rfl, rfl, hp⟩ := hp
  rcases hp with ⟨rfl, hq1⟩ | ⟨rfl, hq1⟩
  · show W p l e _ s m _ below meth c _ _ _ _ _ (F0 m 4 ls [.int (iI 1)])
    refine x_ifF_eq (tgt := 22) X (by decide) (by decide) (by decide) dX0_isOverdue_4 ?_
    refine x_il_n X hl 1 rfl rfl dX0_isOverdue_7 ?_
    refine x_al_n X hl 0 rfl rfl dX0_isOverdue_8 ?_
    refine x_get X w ma fa fq_X0_isOverdue_24 rfl dX0_isOverdue_9 ?_
    refine x_bipush X (by decide) dX0_isOverdue_12 ?_
    refine x_iadd X dX0_isOverdue_14 ?_
    refine x_icmp_le (tgt := 22) X (by omega) (by decide) dX0_isOverdue_15 (fun hb15 => ?_) (fun hb15 => ?_)
    · refine x_iconst X dX0_isOverdue_22 ?_
      refine x_zret X w hr hlk ⟨by decide, by decide⟩ (by omega) dX0_isOverdue_23 ?_
      exact ⟨rfl, rfl, Or.inr ⟨rfl, ovP_f (by omega)⟩⟩
    · refine x_iconst X dX0_isOverdue_18 ?_
      refine x_goto (tgt := 23) X (by decide) dX0_isOverdue_19 ?_
      refine x_zret X w hr hlk ⟨by decide, by decide⟩ (by omega) dX0_isOverdue_23 ?_
      exact ⟨rfl, rfl, Or.inl ⟨rfl, ovP_t (by omega)⟩⟩
  · show W p l e _ s m _ below meth c _ _ _ _ _ (F0 m 4 ls [.int (iI 0)])
    refine x_ifT_eq (tgt := 22) X (by decide) (by decide) (by decide) dX0_isOverdue_4 ?_
    refine x_iconst X dX0_isOverdue_22 ?_
    refine x_zret X w hr hlk ⟨by decide, by decide⟩ (by omega) dX0_isOverdue_23 ?_
    exact ⟨rfl, rfl, Or.inr ⟨rfl, ovP_f (by omega)⟩⟩

theorem k_X0_isUnder_X0_hasForfeitDay : XV wsX0_isUnder RX0 27 RX0 yX0_hasForfeitDay cX0_hasForfeitDay 1 (some .boolean) wsX0_hasForfeitDay 0 := ⟨gX0_isUnder_X0_hasForfeitDay, ⟨_, rfl⟩, rfl, by decide, by decide, by decide +kernel⟩
theorem iw_X0_isUnder_X0 : ∀ w ∈ wsX00, w ∈ wsX0_isUnder := by decide +kernel
theorem fq_X0_isUnder_15 : XF wsX0_isUnder RX0 15 0 1 := ⟨RX0, TX0, 5, iw_X0_isUnder_X0, rfl, by decide, by decide +kernel⟩
theorem fq_X0_isUnder_21 : XF wsX0_isUnder RX0 21 0 3 := ⟨RX0, TX0, 5, iw_X0_isUnder_X0, rfl, by decide, by decide +kernel⟩
set_option maxHeartbeats 4000000 in
set_option maxRecDepth 100000 in
theorem c_X0_isUnder (l : Launch) (D : va_G) (cs : ClassId × ClassId × ClassId) (L : List Nat) (f0 : Nat → va_E) (a : Nat) (g : Nat → Int) (su dy : Int) (ma : a ∈ L) (fa : f0 a = bR g) (hb4 : (-1 ≤ g 4 ∧ g 4 ≤ 5000) ∧ (1 ≤ g 1 ∧ g 1 ≤ 10000) ∧ (0 ≤ g 3 ∧ g 3 ≤ 5000) ∧ (0 ≤ su ∧ su ≤ 10000) ∧ 0 ≤ dy ∧ dy ≤ 5000) : C0 l yX0_isUnder wsX0_isUnder ({ frames := 2, cells := 0, slots := 0, locals := 32 } : Room) D cs [.ref a, .int (iI su), .int (iI dy)] L f0 (fun v L1 f1 => L = L1 ∧ f0 = f1 ∧ ((v = some (.int (iI 1)) ∧ amP su dy g = true) ∨ (v = some (.int (iI 0)) ∧ amP su dy g = false))) := by
  refine C0.of (cc := cX0_isUnder) (maxL := 3) (ret := (some .boolean)) (by decide) rfl (Nat.le_of_ble_eq_true rfl) ?_
  intro p e s m below meth c X hr hlk hin A hA w ls hl
  have hl : lv_has ls 3 [(0, .ref a), (1, .int (iI su)), (2, .int (iI dy))] := hl
  refine x_al_n X hl 0 rfl rfl dX0_isUnder_0 ?_
  refine x_callV (As := []) (rest := []) (c1 := 0) (s1 := 0) X w hA (c_X0_hasForfeitDay l D cs L f0 a g ma fa (by omega)) k_X0_isUnder_X0_hasForfeitDay (by decide) ma fa rfl rfl rfl hl rfl (Nat.le_of_ble_eq_true rfl) (by decide) rfl rfl dX0_isUnder_1 (fun v L1 f1 H locs w hp => ?_)
  obtain ⟨rfl, rfl, hp⟩ := hp
  rcases hp with ⟨rfl, hq1⟩ | ⟨rfl, hq1⟩
  · show W p l e _ s m _ below meth c _ _ _ _ _ (F0 m 4 ls [.int (iI 1)])
    refine x_ifT_ne (tgt := 27) X (by decide) (by decide) (by decide) dX0_isUnder_4 ?_
    refine x_iconst X dX0_isUnder_27 ?_
    refine x_zret X w hr hlk ⟨by decide, by decide⟩ (by omega) dX0_isUnder_28 ?_
    exact ⟨rfl, rfl, Or.inr ⟨rfl, amP_f (by omega)⟩⟩
  · show W p l e _ s m _ below meth c _ _ _ _ _ (F0 m 4 ls [.int (iI 0)])
    refine x_ifF_ne (tgt := 27) X (by decide) (by decide) (by decide) dX0_isUnder_4 ?_
    refine x_al_n X hl 0 rfl rfl dX0_isUnder_7 ?_
    refine x_get X w ma fa fq_X0_isUnder_15 rfl dX0_isUnder_8 ?_
    refine x_il_n X hl 1 rfl rfl dX0_isUnder_11 ?_
    refine x_icmp_gt (tgt := 27) X (by omega) (by decide) dX0_isUnder_12 (fun hb12 => ?_) (fun hb12 => ?_)
    · refine x_iconst X dX0_isUnder_27 ?_
      refine x_zret X w hr hlk ⟨by decide, by decide⟩ (by omega) dX0_isUnder_28 ?_
      exact ⟨rfl, rfl, Or.inr ⟨rfl, amP_f (by omega)⟩⟩
    · refine x_al_n X hl 0 rfl rfl dX0_isUnder_15 ?_
      refine x_get X w ma fa fq_X0_isUnder_21 rfl dX0_isUnder_16 ?_
      refine x_il_n X hl 2 rfl rfl dX0_isUnder_19 ?_
      refine x_icmp_gt (tgt := 27) X (by omega) (by decide) dX0_isUnder_20 (fun hb20 => ?_) (fun hb20 => ?_)
      · refine x_iconst X dX0_isUnder_27 ?_
        refine x_zret X w hr hlk ⟨by decide, by decide⟩ (by omega) dX0_isUnder_28 ?_
        exact ⟨rfl, rfl, Or.inr ⟨rfl, amP_f (by omega)⟩⟩
      · refine x_iconst X dX0_isUnder_23 ?_
        refine x_goto (tgt := 28) X (by decide) dX0_isUnder_24 ?_
        refine x_zret X w hr hlk ⟨by decide, by decide⟩ (by omega) dX0_isUnder_28 ?_
        exact ⟨rfl, rfl, Or.inl ⟨rfl, amP_t (by omega)⟩⟩

theorem iw_X1_count_X1 : ∀ w ∈ wsX10, w ∈ wsX1_count := by decide +kernel
theorem fq_X1_count_17 : XF wsX1_count RX1 17 1 1 := ⟨RX1, TX1, 2, iw_X1_count_X1, rfl, by decide, by decide +kernel⟩
set_option maxHeartbeats 4000000 in
set_option maxRecDepth 100000 in
theorem c_X1_count (l : Launch) (D : va_G) (cs : ClassId × ClassId × ClassId) (L : List Nat) (f0 : Nat → va_E) (br ba : Nat) (n : Int) (r : Int → Option Nat) (R : Rc) (hR : RB cs L f0 br ba n r) (hO : BO2 L f0 n r R) : C0 l yX1_count wsX1_count ({ frames := 1, cells := 0, slots := 0, locals := 12 } : Room) D cs [.ref br] L f0 (fun v L1 f1 => L = L1 ∧ f0 = f1 ∧ v = some (.int (iI n))) := by
  refine C0.of (cc := cX1_count) (maxL := 1) (ret := (some .int)) (by decide) rfl (Nat.le_of_ble_eq_true rfl) ?_
  intro p e s m below meth c X hr hlk hin A hA w ls hl
  have hl : lv_has ls 1 [(0, .ref br)] := hl
  refine x_al_n X hl 0 rfl rfl dX1_count_0 ?_
  refine x_get X w hR.mp hR.fp fq_X1_count_17 rfl dX1_count_1 ?_
  refine x_iret X w hr hlk ⟨by decide, by decide⟩ dX1_count_4 ?_
  exact ⟨rfl, rfl, rfl⟩

theorem iw_X1_bailAt_X1 : ∀ w ∈ wsX10, w ∈ wsX1_bailAt := by decide +kernel
theorem fq_X1_bailAt_17 : XF wsX1_bailAt RX1 17 1 1 := ⟨RX1, TX1, 2, iw_X1_bailAt_X1, rfl, by decide, by decide +kernel⟩
theorem fq_X1_bailAt_11 : XF wsX1_bailAt RX1 11 1 0 := ⟨RX1, TX1, 2, iw_X1_bailAt_X1, rfl, by decide, by decide +kernel⟩
set_option maxHeartbeats 4000000 in
set_option maxRecDepth 100000 in
theorem c_X1_bailAt (l : Launch) (D : va_G) (cs : ClassId × ClassId × ClassId) (L : List Nat) (f0 : Nat → va_E) (br ba : Nat) (n : Int) (r : Int → Option Nat) (R : Rc) (pl : Int) (hR : RB cs L f0 br ba n r) (hO : BO2 L f0 n r R) (hpl : (0 ≤ n ∧ n ≤ 80) ∧ -2147483648 ≤ pl ∧ pl < 2147483648) : C0 l yX1_bailAt wsX1_bailAt ({ frames := 1, cells := 0, slots := 0, locals := 12 } : Room) D cs [.ref br, .int (iI pl)] L f0 (fun v L1 f1 => L = L1 ∧ f0 = f1 ∧ ((∃ a, v = some (.ref a) ∧ r pl = some a ∧ a ∈ L ∧ f0 a = bR (R pl) ∧ 0 ≤ pl ∧ pl < n) ∨ (v = some .null ∧ ¬ (0 ≤ pl ∧ pl < n)))) := by
  refine C0.of (cc := cX1_bailAt) (maxL := 2) (ret := (some (.object "PageBail$Bail"))) (by decide) rfl (Nat.le_of_ble_eq_true rfl) ?_
  intro p e s m below meth c X hr hlk hin A hA w ls hl
  have hl : lv_has ls 2 [(0, .ref br), (1, .int (iI pl))] := hl
  refine x_il_n X hl 1 rfl rfl dX1_bailAt_0 ?_
  refine x_if_lt (tgt := 30) X (by omega) (by decide) dX1_bailAt_1 (fun hb1 => ?_) (fun hb1 => ?_)
  · refine x_null X dX1_bailAt_30 ?_
    show W p l e _ s m _ below meth c _ _ _ _ _ (F0 m 31 ls [va_rf none])
    refine x_nret X w hr hlk ⟨by decide, by decide⟩ dX1_bailAt_31 ?_
    exact ⟨rfl, rfl, Or.inr ⟨rfl, by omega⟩⟩
  · refine x_il_n X hl 1 rfl rfl dX1_bailAt_4 ?_
    refine x_al_n X hl 0 rfl rfl dX1_bailAt_5 ?_
    refine x_get X w hR.mp hR.fp fq_X1_bailAt_17 rfl dX1_bailAt_6 ?_
    refine x_icmp_ge (tgt := 30) X (by omega) (by decide) dX1_bailAt_9 (fun hb9 => ?_) (fun hb9 => ?_)
    · refine x_null X dX1_bailAt_30 ?_
      show W p l e _ s m _ below meth c _ _ _ _ _ (F0 m 31 ls [va_rf none])
      refine x_nret X w hr hlk ⟨by decide, by decide⟩ dX1_bailAt_31 ?_
      exact ⟨rfl, rfl, Or.inr ⟨rfl, by omega⟩⟩
    · refine x_il_n X hl 1 rfl rfl dX1_bailAt_12 ?_
      refine x_al_n X hl 0 rfl rfl dX1_bailAt_13 ?_
      refine x_get X w hR.mp hR.fp fq_X1_bailAt_11 rfl dX1_bailAt_14 ?_
      refine x_alenR X w hR.ms hR.fs dX1_bailAt_17 ?_
      refine x_icmpF_ge (tgt := 30) X (by omega) (by omega) (by decide) dX1_bailAt_18 ?_
      refine x_al_n X hl 0 rfl rfl dX1_bailAt_21 ?_
      refine x_get X w hR.mp hR.fp fq_X1_bailAt_11 rfl dX1_bailAt_22 ?_
      refine x_il_n X hl 1 rfl rfl dX1_bailAt_25 ?_
      obtain ⟨a26, ha26, hm26, hf26⟩ := hO (pl) (by omega) (by omega)
      refine x_aaldv (b := a26) X w hR.ms hR.fs (by omega) (ha26) dX1_bailAt_26 ?_
      refine x_goto (tgt := 31) X (by decide) dX1_bailAt_27 ?_
      show W p l e _ s m _ below meth c _ _ _ _ _ (F0 m 31 ls [va_rf (some a26)])
      refine x_nret X w hr hlk ⟨by decide, by decide⟩ dX1_bailAt_31 ?_
      exact ⟨rfl, rfl, Or.inl ⟨_, rfl, ha26, hm26, hf26, by omega⟩⟩

theorem k_X1_numberAt_X1_bailAt : XV wsX1_numberAt RX1 21 RX1 yX1_bailAt cX1_bailAt 2 (some (.object "PageBail$Bail")) wsX1_bailAt 1 := ⟨gX1_numberAt_X1_bailAt, ⟨_, rfl⟩, rfl, by decide, by decide, by decide +kernel⟩
theorem iw_X1_numberAt_X0 : ∀ w ∈ wsX00, w ∈ wsX1_numberAt := by decide +kernel
theorem fq_X1_numberAt_25 : XF wsX1_numberAt RX1 25 0 0 := ⟨RX0, TX0, 5, iw_X1_numberAt_X0, rfl, by decide, by decide +kernel⟩
set_option maxHeartbeats 4000000 in
set_option maxRecDepth 100000 in
theorem c_X1_numberAt (l : Launch) (D : va_G) (cs : ClassId × ClassId × ClassId) (L : List Nat) (f0 : Nat → va_E) (br ba : Nat) (n : Int) (r : Int → Option Nat) (R : Rc) (pl : Int) (hR : RB cs L f0 br ba n r) (hO : BO2 L f0 n r R) (hpl : (0 ≤ n ∧ n ≤ 80) ∧ -2147483648 ≤ pl ∧ pl < 2147483648) : C0 l yX1_numberAt wsX1_numberAt ({ frames := 2, cells := 0, slots := 0, locals := 33 } : Room) D cs [.ref br, .int (iI pl)] L f0 (fun v L1 f1 => L = L1 ∧ f0 = f1 ∧ ((v = some (.int (iI (R pl 0))) ∧ 0 ≤ pl ∧ pl < n) ∨ (v = some (.int (iI (-1))) ∧ ¬ (0 ≤ pl ∧ pl < n)))) := by
  refine C0.of (cc := cX1_numberAt) (maxL := 3) (ret := (some .int)) (by decide) rfl (Nat.le_of_ble_eq_true rfl) ?_
  intro p e s m below meth c X hr hlk hin A hA w ls hl
  have hl : lv_has ls 3 [(0, .ref br), (1, .int (iI pl))] := hl
  refine x_al_n X hl 0 rfl rfl dX1_numberAt_0 ?_
  refine x_il_n X hl 1 rfl rfl dX1_numberAt_1 ?_
  refine x_callV (As := [.int (iI pl)]) (rest := []) (c1 := 0) (s1 := 0) X w hA (c_X1_bailAt l D cs L f0 br ba n r R pl hR hO (by omega)) k_X1_numberAt_X1_bailAt (by decide) hR.mp hR.fp rfl rfl rfl hl rfl (Nat.le_of_ble_eq_true rfl) (by decide) rfl rfl dX1_numberAt_2 (fun v L1 f1 H locs w hp => ?_)
  obtain ⟨rfl, rfl, hp⟩ := hp
  rcases hp with ⟨a2, rfl, ha2, hm2, hf2, hq2⟩ | ⟨rfl, hq2⟩
  · show W p l e _ s m _ below meth c _ _ _ _ _ (F0 m 5 ls [.ref a2])
    refine x_as_n (lv' := [(2, .ref a2), (0, .ref br), (1, .int (iI pl))]) X hl rfl (by decide) rfl dX1_numberAt_5 (fun ls hl => ?_)
    refine x_al_n X hl 0 rfl rfl dX1_numberAt_6 ?_
    refine x_ifnonnull_r (tgt := 14) X (by decide) dX1_numberAt_7 ?_
    refine x_al_n X hl 0 rfl rfl dX1_numberAt_14 ?_
    refine x_get X w hm2 hf2 fq_X1_numberAt_25 rfl dX1_numberAt_15 ?_
    refine x_iret X w hr hlk ⟨by decide, by decide⟩ dX1_numberAt_18 ?_
    exact ⟨rfl, rfl, Or.inl ⟨rfl, by omega⟩⟩
  · show W p l e _ s m _ below meth c _ _ _ _ _ (F0 m 5 ls [.null])
    refine x_asN_n (lv' := [(2, .null), (0, .ref br), (1, .int (iI pl))]) X hl rfl (by decide) rfl dX1_numberAt_5 (fun ls hl => ?_)
    refine x_alN_n X hl 0 rfl rfl dX1_numberAt_6 ?_
    refine x_ifnonnull_n X dX1_numberAt_7 ?_
    refine x_iconst X dX1_numberAt_10 ?_
    refine x_goto (tgt := 18) X (by decide) dX1_numberAt_11 ?_
    refine x_iret X w hr hlk ⟨by decide, by decide⟩ dX1_numberAt_18 ?_
    exact ⟨rfl, rfl, Or.inr ⟨rfl, by omega⟩⟩

theorem iw_X1_countUpTo_X1 : ∀ w ∈ wsX10, w ∈ wsX1_countUpTo := by decide +kernel
theorem fq_X1_countUpTo_17 : XF wsX1_countUpTo RX1 17 1 1 := ⟨RX1, TX1, 2, iw_X1_countUpTo_X1, rfl, by decide, by decide +kernel⟩
theorem k_X1_countUpTo_X1_numberAt : XV wsX1_countUpTo RX1 28 RX1 yX1_numberAt cX1_numberAt 3 (some .int) wsX1_numberAt 1 := ⟨gX1_countUpTo_X1_numberAt, ⟨_, rfl⟩, rfl, by decide, by decide, by decide +kernel⟩
set_option maxHeartbeats 4000000 in
set_option maxRecDepth 100000 in
theorem c_X1_countUpTo (l : Launch) (D : va_G) (cs : ClassId × ClassId × ClassId) (L : List Nat) (f0 : Nat → va_E) (br ba : Nat) (n : Int) (r : Int → Option Nat) (R : Rc) (pl : Int) (hR : RB cs L f0 br ba n r) (hO : BO2 L f0 n r R) (hpl : (0 ≤ n ∧ n ≤ 80) ∧ -2147483648 ≤ pl ∧ pl < 2147483648) (hR0 : ∀ j, 0 ≤ j → j < n → 0 ≤ R j 0 ∧ R j 0 ≤ 999) : C0 l yX1_countUpTo wsX1_countUpTo ({ frames := 3, cells := 0, slots := 0, locals := 55 } : Room) D cs [.ref br, .int (iI pl)] L f0 (fun v L1 f1 => L = L1 ∧ f0 = f1 ∧ v = some (.int (iI (cu R n pl)))) := by
  refine C0.of (cc := cX1_countUpTo) (maxL := 3) (ret := (some .int)) (by decide) rfl (Nat.le_of_ble_eq_true rfl) ?_
  intro p e s m below meth c X hr hlk hin A hA w ls hl
  have hl : lv_has ls 3 [(0, .ref br), (1, .int (iI pl))] := hl
  refine x_iconst X dX1_countUpTo_0 ?_
  refine x_is_n (lv' := [(2, .int (iI 0)), (0, .ref br), (1, .int (iI pl))]) X hl rfl (by decide) rfl dX1_countUpTo_1 (fun ls hl => ?_)
  have loop2 : ∀ (N9 : Nat) (i : Int) (H : Heap) (locs : List Loc) (ls : Array Slot), (n - i).toNat < N9 → (0 ≤ i ∧ i ≤ n) → (∀ j, 0 ≤ j → j < i → R j 0 ≤ pl) → XW D A s.heap L f0 H locs → lv_has ls 3 [(0, .ref br), (1, .int (iI pl)), (2, .int (iI i))] → W p l e ({ frames := 3, cells := 0, slots := 0, locals := 55 } : Room) s m ([.ref br, .int (iI pl)] : List Value).toArray below meth c H locs 0 0 (MQ below (CQ D cs A (fun v L1 f1 => L = L1 ∧ f0 = f1 ∧ v = some (.int (iI (cu R n pl))))) ([.ref br, .int (iI pl)] : List Value).toArray s 0 0 A) (F0 m 2 ls []) := by
    intro N9
    induction N9 with
    | zero => intro i H locs ls h9; exact absurd h9 (Nat.not_lt_zero _)
    | succ N9 ih2 =>
      intro i H locs ls h9 hi hj w hl
      refine x_il_n X hl 2 rfl rfl dX1_countUpTo_2 ?_
      refine x_al_n X hl 0 rfl rfl dX1_countUpTo_3 ?_
      refine x_get X w hR.mp hR.fp fq_X1_countUpTo_17 rfl dX1_countUpTo_4 ?_
      refine x_icmp_ge (tgt := 25) X (by omega) (by decide) dX1_countUpTo_7 (fun hb7 => ?_) (fun hb7 => ?_)
      · refine x_il_n X hl 2 rfl rfl dX1_countUpTo_25 ?_
        refine x_iret X w hr hlk ⟨by decide, by decide⟩ dX1_countUpTo_26 ?_
        have he9 : cu R n pl = i := cu_eq ⟨by omega, by omega, hj, fun h9 => by omega⟩
        exact ⟨rfl, rfl, by rw [he9]⟩
      · refine x_al_n X hl 0 rfl rfl dX1_countUpTo_10 ?_
        refine x_il_n X hl 2 rfl rfl dX1_countUpTo_11 ?_
        refine x_callV (As := [.int (iI i)]) (rest := []) (c1 := 0) (s1 := 0) X w hA (c_X1_numberAt l D cs L f0 br ba n r R i hR hO (by omega)) k_X1_countUpTo_X1_numberAt (by decide) hR.mp hR.fp rfl rfl rfl hl rfl (Nat.le_of_ble_eq_true rfl) (by decide) rfl rfl dX1_countUpTo_12 (fun v L1 f1 H locs w hp => ?_)
        obtain ⟨rfl, rfl, hp⟩ := hp
        rcases hp with ⟨rfl, hq12⟩ | ⟨rfl, hq12⟩
        · show W p l e _ s m _ below meth c _ _ _ _ _ (F0 m 15 ls [.int (iI (R i 0))])
          have hq0 := hR0 i (by omega) (by omega)
          refine x_il_n X hl 1 rfl rfl dX1_countUpTo_15 ?_
          refine x_icmp_gt (tgt := 25) X (by omega) (by decide) dX1_countUpTo_16 (fun hb16 => ?_) (fun hb16 => ?_)
          · refine x_il_n X hl 2 rfl rfl dX1_countUpTo_25 ?_
            refine x_iret X w hr hlk ⟨by decide, by decide⟩ dX1_countUpTo_26 ?_
            have he9 : cu R n pl = i := cu_eq ⟨by omega, by omega, hj, fun h9 => by omega⟩
            exact ⟨rfl, rfl, by rw [he9]⟩
          · refine x_iinc (lv' := [(2, .int (iI (i + 1))), (0, .ref br), (1, .int (iI pl))]) X hl 2 rfl (by decide) rfl dX1_countUpTo_19 (fun ls hl => ?_)
            refine x_goto (tgt := 2) X (by decide) dX1_countUpTo_22 ?_
            refine ih2 (i + 1) _ _ _ (by omega) (by omega) ?_ w (lv_sub hl [1, 2, 0] rfl)
            · intro j h1 h2
              by_cases h3 : j = i
              · subst h3; omega
              · exact hj j h1 (by omega)
        · exfalso; omega
  refine loop2 _ 0 _ _ _ (Nat.lt_succ_self _) (by omega) (fun j h1 h2 => absurd h2 (by omega)) w (lv_sub hl [1, 2, 0] rfl)

theorem k_X1_placeOf_X1_countUpTo : XV wsX1_placeOf RX1 32 RX1 yX1_countUpTo cX1_countUpTo 3 (some .int) wsX1_countUpTo 1 := ⟨gX1_placeOf_X1_countUpTo, ⟨_, rfl⟩, rfl, by decide, by decide, by decide +kernel⟩
theorem k_X1_placeOf_X1_numberAt : XV wsX1_placeOf RX1 28 RX1 yX1_numberAt cX1_numberAt 3 (some .int) wsX1_numberAt 1 := ⟨gX1_placeOf_X1_numberAt, ⟨_, rfl⟩, rfl, by decide, by decide, by decide +kernel⟩
set_option maxHeartbeats 4000000 in
set_option maxRecDepth 100000 in
theorem c_X1_placeOf (l : Launch) (D : va_G) (cs : ClassId × ClassId × ClassId) (L : List Nat) (f0 : Nat → va_E) (br ba : Nat) (n : Int) (r : Int → Option Nat) (R : Rc) (pl : Int) (hR : RB cs L f0 br ba n r) (hO : BO2 L f0 n r R) (hpl : (0 ≤ n ∧ n ≤ 80) ∧ -2147483648 ≤ pl ∧ pl < 2147483648) (hR0 : ∀ j, 0 ≤ j → j < n → 0 ≤ R j 0 ∧ R j 0 ≤ 999) (hso : so R n) : C0 l yX1_placeOf wsX1_placeOf ({ frames := 4, cells := 0, slots := 0, locals := 77 } : Room) D cs [.ref br, .int (iI pl)] L f0 (fun v L1 f1 => L = L1 ∧ f0 = f1 ∧ v = some (.int (iI (fd R n pl)))) := by
  refine C0.of (cc := cX1_placeOf) (maxL := 3) (ret := (some .int)) (by decide) rfl (Nat.le_of_ble_eq_true rfl) ?_
  intro p e s m below meth c X hr hlk hin A hA w ls hl
  have hl : lv_has ls 3 [(0, .ref br), (1, .int (iI pl))] := hl
  refine x_al_n X hl 0 rfl rfl dX1_placeOf_0 ?_
  refine x_il_n X hl 1 rfl rfl dX1_placeOf_1 ?_
  refine x_callV (As := [.int (iI pl)]) (rest := []) (c1 := 0) (s1 := 0) X w hA (c_X1_countUpTo l D cs L f0 br ba n r R pl hR hO (by omega) hR0) k_X1_placeOf_X1_countUpTo (by decide) hR.mp hR.fp rfl rfl rfl hl rfl (Nat.le_of_ble_eq_true rfl) (by decide) rfl rfl dX1_placeOf_2 (fun v L1 f1 H locs w hp => ?_)
  obtain ⟨rfl, rfl, hp⟩ := hp
  subst hp
  show W p l e _ s m _ below meth c _ _ _ _ _ (F0 m 5 ls [.int (iI (cu R n pl))])
  have hcu := cu_is R (n := n) pl (by omega)
  have hcu1 := hcu.1
  have hcu2 := hcu.2.1
  refine x_iconst X dX1_placeOf_5 ?_
  refine x_isub X dX1_placeOf_6 ?_
  refine x_is_n (lv' := [(2, .int (iI ((cu R n pl) - 1))), (0, .ref br), (1, .int (iI pl))]) X hl rfl (by decide) rfl dX1_placeOf_7 (fun ls hl => ?_)
  refine x_il_n X hl 0 rfl rfl dX1_placeOf_8 ?_
  refine x_if_lt (tgt := 25) X (by omega) (by decide) dX1_placeOf_9 (fun hb9 => ?_) (fun hb9 => ?_)
  · refine x_iconst X dX1_placeOf_25 ?_
    refine x_iret X w hr hlk ⟨by decide, by decide⟩ dX1_placeOf_26 ?_
    rcases cu_fd hso hcu with ⟨h1, h2, h3⟩ | ⟨h1, h3⟩
    · exfalso; omega
    · exact ⟨rfl, rfl, by rw [h3]⟩
  · refine x_al_n X hl 1 rfl rfl dX1_placeOf_12 ?_
    refine x_il_n X hl 0 rfl rfl dX1_placeOf_13 ?_
    refine x_callV (As := [.int (iI ((cu R n pl) - 1))]) (rest := []) (c1 := 0) (s1 := 0) X w hA (c_X1_numberAt l D cs L f0 br ba n r R ((cu R n pl) - 1) hR hO (by omega)) k_X1_placeOf_X1_numberAt (by decide) hR.mp hR.fp rfl rfl rfl hl rfl (Nat.le_of_ble_eq_true rfl) (by decide) rfl rfl dX1_placeOf_14 (fun v L1 f1 H locs w hp => ?_)
    obtain ⟨rfl, rfl, hp⟩ := hp
    rcases hp with ⟨rfl, hq14⟩ | ⟨rfl, hq14⟩
    · show W p l e _ s m _ below meth c _ _ _ _ _ (F0 m 17 ls [.int (iI (R ((cu R n pl) - 1) 0))])
      have hq0 := hR0 (cu R n pl - 1) (by omega) (by omega)
      refine x_il_n X hl 2 rfl rfl dX1_placeOf_17 ?_
      refine x_icmp_ne (tgt := 25) X (by omega) (by decide) dX1_placeOf_18 (fun hb18 => ?_) (fun hb18 => ?_)
      · refine x_iconst X dX1_placeOf_25 ?_
        refine x_iret X w hr hlk ⟨by decide, by decide⟩ dX1_placeOf_26 ?_
        rcases cu_fd hso hcu with ⟨h1, h2, h3⟩ | ⟨h1, h3⟩
        · exact absurd h2 hb18
        · exact ⟨rfl, rfl, by rw [h3]⟩
      · refine x_il_n X hl 0 rfl rfl dX1_placeOf_21 ?_
        refine x_goto (tgt := 26) X (by decide) dX1_placeOf_22 ?_
        refine x_iret X w hr hlk ⟨by decide, by decide⟩ dX1_placeOf_26 ?_
        rcases cu_fd hso hcu with ⟨h1, h2, h3⟩ | ⟨h1, h3⟩
        · exact ⟨rfl, rfl, by rw [h3]⟩
        · rcases h1 with h1 | h1
          · exfalso; omega
          · exact absurd hb18 h1
    · exfalso; omega

theorem k_X1_find_X1_placeOf : XV wsX1_find RX1 35 RX1 yX1_placeOf cX1_placeOf 3 (some .int) wsX1_placeOf 1 := ⟨gX1_find_X1_placeOf, ⟨_, rfl⟩, rfl, by decide, by decide, by decide +kernel⟩
theorem k_X1_find_X1_bailAt : XV wsX1_find RX1 21 RX1 yX1_bailAt cX1_bailAt 2 (some (.object "PageBail$Bail")) wsX1_bailAt 1 := ⟨gX1_find_X1_bailAt, ⟨_, rfl⟩, rfl, by decide, by decide, by decide +kernel⟩
set_option maxHeartbeats 4000000 in
set_option maxRecDepth 100000 in
theorem c_X1_find (l : Launch) (D : va_G) (cs : ClassId × ClassId × ClassId) (L : List Nat) (f0 : Nat → va_E) (br ba : Nat) (n : Int) (r : Int → Option Nat) (R : Rc) (pl : Int) (hR : RB cs L f0 br ba n r) (hO : BO2 L f0 n r R) (hpl : (0 ≤ n ∧ n ≤ 80) ∧ -2147483648 ≤ pl ∧ pl < 2147483648) (hR0 : ∀ j, 0 ≤ j → j < n → 0 ≤ R j 0 ∧ R j 0 ≤ 999) (hso : so R n) : C0 l yX1_find wsX1_find ({ frames := 5, cells := 0, slots := 0, locals := 99 } : Room) D cs [.ref br, .int (iI pl)] L f0 (fun v L1 f1 => L = L1 ∧ f0 = f1 ∧ ((∃ a, v = some (.ref a) ∧ r (fd R n pl) = some a ∧ a ∈ L ∧ f0 a = bR (R (fd R n pl)) ∧ 0 ≤ fd R n pl ∧ fd R n pl < n) ∨ (v = some .null ∧ fd R n pl = -1))) := by
  refine C0.of (cc := cX1_find) (maxL := 2) (ret := (some (.object "PageBail$Bail"))) (by decide) rfl (Nat.le_of_ble_eq_true rfl) ?_
  intro p e s m below meth c X hr hlk hin A hA w ls hl
  have hl : lv_has ls 2 [(0, .ref br), (1, .int (iI pl))] := hl
  refine x_al_n X hl 0 rfl rfl dX1_find_0 ?_
  refine x_al_n X hl 0 rfl rfl dX1_find_1 ?_
  refine x_il_n X hl 1 rfl rfl dX1_find_2 ?_
  refine x_callV (As := [.int (iI pl)]) (rest := [.ref br]) (c1 := 0) (s1 := 0) X w hA (c_X1_placeOf l D cs L f0 br ba n r R pl hR hO (by omega) hR0 hso) k_X1_find_X1_placeOf (by decide) hR.mp hR.fp rfl rfl rfl hl rfl (Nat.le_of_ble_eq_true rfl) (by decide) rfl rfl dX1_find_3 (fun v L1 f1 H locs w hp => ?_)
  obtain ⟨rfl, rfl, hp⟩ := hp
  subst hp
  show W p l e _ s m _ below meth c _ _ _ _ _ (F0 m 6 ls [.int (iI (fd R n pl)), .ref br])
  have hfr := fd_rg (R := R) (n := n) (v := pl) (by omega)
  refine x_callV (As := [.int (iI (fd R n pl))]) (rest := []) (c1 := 0) (s1 := 0) X w hA (c_X1_bailAt l D cs L f0 br ba n r R (fd R n pl) hR hO (by omega)) k_X1_find_X1_bailAt (by decide) hR.mp hR.fp rfl rfl rfl hl rfl (Nat.le_of_ble_eq_true rfl) (by decide) rfl rfl dX1_find_6 (fun v L1 f1 H locs w hp => ?_)
  obtain ⟨rfl, rfl, hp⟩ := hp
  rcases hp with ⟨a6, rfl, ha6, hm6, hf6, hq6⟩ | ⟨rfl, hq6⟩
  · show W p l e _ s m _ below meth c _ _ _ _ _ (F0 m 9 ls [.ref a6])
    show W p l e _ s m _ below meth c _ _ _ _ _ (F0 m 9 ls [va_rf (some a6)])
    refine x_nret X w hr hlk ⟨by decide, by decide⟩ dX1_find_9 ?_
    exact ⟨rfl, rfl, Or.inl ⟨_, rfl, ha6, hm6, hf6, hq6⟩⟩
  · show W p l e _ s m _ below meth c _ _ _ _ _ (F0 m 9 ls [.null])
    show W p l e _ s m _ below meth c _ _ _ _ _ (F0 m 9 ls [va_rf none])
    refine x_nret X w hr hlk ⟨by decide, by decide⟩ dX1_find_9 ?_
    exact ⟨rfl, rfl, Or.inr ⟨rfl, fd_ni hq6⟩⟩

theorem iw_X1_sumOfSurety_X1 : ∀ w ∈ wsX10, w ∈ wsX1_sumOfSurety := by decide +kernel
theorem fq_X1_sumOfSurety_17 : XF wsX1_sumOfSurety RX1 17 1 1 := ⟨RX1, TX1, 2, iw_X1_sumOfSurety_X1, rfl, by decide, by decide +kernel⟩
theorem k_X1_sumOfSurety_X1_bailAt : XV wsX1_sumOfSurety RX1 21 RX1 yX1_bailAt cX1_bailAt 2 (some (.object "PageBail$Bail")) wsX1_bailAt 1 := ⟨gX1_sumOfSurety_X1_bailAt, ⟨_, rfl⟩, rfl, by decide, by decide, by decide +kernel⟩
theorem iw_X1_sumOfSurety_X0 : ∀ w ∈ wsX00, w ∈ wsX1_sumOfSurety := by decide +kernel
theorem fq_X1_sumOfSurety_38 : XF wsX1_sumOfSurety RX1 38 0 2 := ⟨RX0, TX0, 5, iw_X1_sumOfSurety_X0, rfl, by decide, by decide +kernel⟩
theorem fq_X1_sumOfSurety_41 : XF wsX1_sumOfSurety RX1 41 0 1 := ⟨RX0, TX0, 5, iw_X1_sumOfSurety_X0, rfl, by decide, by decide +kernel⟩
set_option maxHeartbeats 4000000 in
set_option maxRecDepth 100000 in
theorem c_X1_sumOfSurety (l : Launch) (D : va_G) (cs : ClassId × ClassId × ClassId) (L : List Nat) (f0 : Nat → va_E) (br ba : Nat) (n : Int) (r : Int → Option Nat) (R : Rc) (pl : Int) (hR : RB cs L f0 br ba n r) (hO : BO2 L f0 n r R) (hpl : (0 ≤ n ∧ n ≤ 80) ∧ -2147483648 ≤ pl ∧ pl < 2147483648) (hR2 : ∀ j, 0 ≤ j → j < n → 0 ≤ R j 2 ∧ R j 2 ≤ 9) : C0 l yX1_sumOfSurety wsX1_sumOfSurety ({ frames := 2, cells := 0, slots := 0, locals := 33 } : Room) D cs [.ref br, .int (iI pl)] L f0 (fun v L1 f1 => L = L1 ∧ f0 = f1 ∧ v = some (.int (iI (hs R pl n)))) := by
  refine C0.of (cc := cX1_sumOfSurety) (maxL := 5) (ret := (some .int)) (by decide) rfl (Nat.le_of_ble_eq_true rfl) ?_
  intro p e s m below meth c X hr hlk hin A hA w ls hl
  have hl : lv_has ls 5 [(0, .ref br), (1, .int (iI pl))] := hl
  refine x_iconst X dX1_sumOfSurety_0 ?_
  refine x_is_n (lv' := [(2, .int (iI 0)), (0, .ref br), (1, .int (iI pl))]) X hl rfl (by decide) rfl dX1_sumOfSurety_1 (fun ls hl => ?_)
  refine x_iconst X dX1_sumOfSurety_2 ?_
  refine x_is_n (lv' := [(3, .int (iI 0)), (2, .int (iI 0)), (0, .ref br), (1, .int (iI pl))]) X hl rfl (by decide) rfl dX1_sumOfSurety_3 (fun ls hl => ?_)
  have loop4 : ∀ (N9 : Nat) (i : Int) (H : Heap) (locs : List Loc) (ls : Array Slot), (n - i).toNat < N9 → (0 ≤ i ∧ i ≤ n) → XW D A s.heap L f0 H locs → lv_has ls 5 [(0, .ref br), (1, .int (iI pl)), (2, .int (iI (hs R pl i))), (3, .int (iI i))] → W p l e ({ frames := 2, cells := 0, slots := 0, locals := 33 } : Room) s m ([.ref br, .int (iI pl)] : List Value).toArray below meth c H locs 0 0 (MQ below (CQ D cs A (fun v L1 f1 => L = L1 ∧ f0 = f1 ∧ v = some (.int (iI (hs R pl n))))) ([.ref br, .int (iI pl)] : List Value).toArray s 0 0 A) (F0 m 4 ls []) := by
    intro N9
    induction N9 with
    | zero => intro i H locs ls h9; exact absurd h9 (Nat.not_lt_zero _)
    | succ N9 ih4 =>
      intro i H locs ls h9 hi w hl
      refine x_il_n X hl 3 rfl rfl dX1_sumOfSurety_4 ?_
      refine x_al_n X hl 0 rfl rfl dX1_sumOfSurety_5 ?_
      refine x_get X w hR.mp hR.fp fq_X1_sumOfSurety_17 rfl dX1_sumOfSurety_6 ?_
      refine x_icmp_ge (tgt := 47) X (by omega) (by decide) dX1_sumOfSurety_9 (fun hb9 => ?_) (fun hb9 => ?_)
      · refine x_il_n X hl 2 rfl rfl dX1_sumOfSurety_47 ?_
        refine x_iret X w hr hlk ⟨by decide, by decide⟩ dX1_sumOfSurety_48 ?_
        have he9 : i = n := by omega
        subst he9
        exact ⟨rfl, rfl, rfl⟩
      · refine x_al_n X hl 0 rfl rfl dX1_sumOfSurety_12 ?_
        refine x_il_n X hl 3 rfl rfl dX1_sumOfSurety_13 ?_
        refine x_callV (As := [.int (iI i)]) (rest := []) (c1 := 0) (s1 := 0) X w hA (c_X1_bailAt l D cs L f0 br ba n r R i hR hO (by omega)) k_X1_sumOfSurety_X1_bailAt (by decide) hR.mp hR.fp rfl rfl rfl hl rfl (Nat.le_of_ble_eq_true rfl) (by decide) rfl rfl dX1_sumOfSurety_14 (fun v L1 f1 H locs w hp => ?_)
        obtain ⟨rfl, rfl, hp⟩ := hp
        rcases hp with ⟨a14, rfl, ha14, hm14, hf14, hq14⟩ | ⟨rfl, hq14⟩
        · show W p l e _ s m _ below meth c _ _ _ _ _ (F0 m 17 ls [.ref a14])
          refine x_as (lv' := [(4, .ref a14), (0, .ref br), (1, .int (iI pl)), (2, .int (iI (hs R pl i))), (3, .int (iI i))]) X hl (by decide) rfl dX1_sumOfSurety_17 (fun ls hl => ?_)
          refine x_al X hl 0 rfl dX1_sumOfSurety_19 ?_
          refine x_ifnull_r X dX1_sumOfSurety_21 ?_
          refine x_al X hl 0 rfl dX1_sumOfSurety_24 ?_
          refine x_get X w hm14 hf14 fq_X1_sumOfSurety_38 rfl dX1_sumOfSurety_26 ?_
          have hq2 := hR2 i (by omega) (by omega)
          refine x_il_n X hl 2 rfl rfl dX1_sumOfSurety_29 ?_
          refine x_icmp_ne (tgt := 41) X (by omega) (by decide) dX1_sumOfSurety_30 (fun hb30 => ?_) (fun hb30 => ?_)
          · rw [show hs R pl i = hs R pl (i + 1) from by rw [hs_s R pl (by omega), if_neg hb30, Int.add_zero]] at hl
            refine x_iinc (lv' := [(3, .int (iI (i + 1))), (4, .ref a14), (0, .ref br), (1, .int (iI pl)), (2, .int (iI (hs R pl (i + 1))))]) X hl 4 rfl (by decide) rfl dX1_sumOfSurety_41 (fun ls hl => ?_)
            refine x_goto (tgt := 4) X (by decide) dX1_sumOfSurety_44 ?_
            refine ih4 (i + 1) _ _ _ (by omega) (by omega) w (lv_sub hl [2, 3, 4, 0] rfl)
          · refine x_il_n X hl 3 rfl rfl dX1_sumOfSurety_33 ?_
            refine x_al X hl 0 rfl dX1_sumOfSurety_34 ?_
            refine x_get X w hm14 hf14 fq_X1_sumOfSurety_41 rfl dX1_sumOfSurety_36 ?_
            refine x_iadd X dX1_sumOfSurety_39 ?_
            refine x_is_n (lv' := [(2, .int (iI ((hs R pl i) + (R i 1)))), (4, .ref a14), (0, .ref br), (1, .int (iI pl)), (3, .int (iI i))]) X hl rfl (by decide) rfl dX1_sumOfSurety_40 (fun ls hl => ?_)
            rw [show (hs R pl i) + (R i 1) = hs R pl (i + 1) from by rw [hs_s R pl (by omega), if_pos hb30]] at hl
            refine x_iinc (lv' := [(3, .int (iI (i + 1))), (2, .int (iI (hs R pl (i + 1)))), (4, .ref a14), (0, .ref br), (1, .int (iI pl))]) X hl 4 rfl (by decide) rfl dX1_sumOfSurety_41 (fun ls hl => ?_)
            refine x_goto (tgt := 4) X (by decide) dX1_sumOfSurety_44 ?_
            refine ih4 (i + 1) _ _ _ (by omega) (by omega) w (lv_sub hl [3, 4, 1, 0] rfl)
        · exfalso; omega
  refine loop4 _ 0 _ _ _ (Nat.lt_succ_self _) (by omega) w (lv_sub hl [2, 3, 1, 0] rfl)

theorem iw_X1_insert_X1 : ∀ w ∈ wsX10, w ∈ wsX1_insert := by decide +kernel
theorem fq_X1_insert_17 : XF wsX1_insert RX1 17 1 1 := ⟨RX1, TX1, 2, iw_X1_insert_X1, rfl, by decide, by decide +kernel⟩
theorem fq_X1_insert_11 : XF wsX1_insert RX1 11 1 0 := ⟨RX1, TX1, 2, iw_X1_insert_X1, rfl, by decide, by decide +kernel⟩
theorem fp_X1_insert_17 : XGn wsX1_insert RX1 17 1 1 (tyX1 1) := ⟨RX1, TX1, 2, tyX1, iw_X1_insert_X1, rfl, by decide, by decide +kernel, tyX1_ok, nmX1, rfl, by decide +kernel⟩
set_option maxHeartbeats 4000000 in
set_option maxRecDepth 100000 in
theorem c_X1_insert (l : Launch) (D : va_G) (cs : ClassId × ClassId × ClassId) (L : List Nat) (f0 : Nat → va_E) (br ba : Nat) (n : Int) (r : Int → Option Nat) (R : Rc) (pl : Int) (a : Nat) (g : Nat → Int) (hR : RB cs L f0 br ba n r) (hO : BO2 L f0 n r R) (hpl : (0 ≤ n ∧ n < 80) ∧ 0 ≤ pl ∧ pl ≤ n) (ma : a ∈ L) (fa : f0 a = bR g) : C0 l yX1_insert wsX1_insert ({ frames := 1, cells := 0, slots := 0, locals := 12 } : Room) D cs [.ref br, .int (iI pl), .ref a] L f0 (fun v L1 f1 => v = none ∧ L = L1 ∧ FR f0 f1 br ba ∧ ∃ r1, RB cs L1 f1 br ba (n + 1) r1 ∧ BO2 L1 f1 (n + 1) r1 (ins R pl g)) := by
  refine C0.of (cc := cX1_insert) (maxL := 4) (ret := none) (by decide) rfl (Nat.le_of_ble_eq_true rfl) ?_
  intro p e s m below meth c X hr hlk hin A hA w ls hl
  have hl : lv_has ls 4 [(0, .ref br), (1, .int (iI pl)), (2, .ref a)] := hl
  have fr : FR f0 f0 br ba := FR.rf _ _ _
  have hR0 := hR
  refine x_il_n X hl 1 rfl rfl dX1_insert_0 ?_
  refine x_ifF_lt (tgt := 24) X (by omega) (by omega) (by decide) dX1_insert_1 ?_
  refine x_il_n X hl 1 rfl rfl dX1_insert_4 ?_
  refine x_al_n X hl 0 rfl rfl dX1_insert_5 ?_
  refine x_get X w hR.mp hR.fp fq_X1_insert_17 rfl dX1_insert_6 ?_
  refine x_icmpF_gt (tgt := 24) X (by omega) (by omega) (by decide) dX1_insert_9 ?_
  refine x_al_n X hl 0 rfl rfl dX1_insert_12 ?_
  refine x_get X w hR.mp hR.fp fq_X1_insert_17 rfl dX1_insert_13 ?_
  refine x_al_n X hl 0 rfl rfl dX1_insert_16 ?_
  refine x_get X w hR.mp hR.fp fq_X1_insert_11 rfl dX1_insert_17 ?_
  refine x_alenR X w hR.ms hR.fs dX1_insert_20 ?_
  refine x_icmpT_lt (tgt := 25) X (by omega) (by omega) (by decide) dX1_insert_21 ?_
  refine x_al_n X hl 0 rfl rfl dX1_insert_25 ?_
  refine x_get X w hR.mp hR.fp fq_X1_insert_17 rfl dX1_insert_26 ?_
  refine x_is_n (lv' := [(3, .int (iI n)), (0, .ref br), (1, .int (iI pl)), (2, .ref a)]) X hl rfl (by decide) rfl dX1_insert_29 (fun ls hl => ?_)
  have loop30 : ∀ (N9 : Nat) (i : Int) (f1 : Nat → va_E) (r1 : Int → Option Nat) (H : Heap) (locs : List Loc) (ls : Array Slot), (i - pl + 1).toNat < N9 → (pl ≤ i ∧ i ≤ n) → (RB cs L f1 br ba n r1) → (FR f0 f1 br ba) → (BO2 L f1 n r R) → (f1 a = bR g) → (∀ j, j ≤ i → r1 j = r j) → (∀ j, i < j → j ≤ n → r1 j = r (j - 1)) → XW D A s.heap L f1 H locs → lv_has ls 4 [(0, .ref br), (1, .int (iI pl)), (2, .ref a), (3, .int (iI i))] → W p l e ({ frames := 1, cells := 0, slots := 0, locals := 12 } : Room) s m ([.ref br, .int (iI pl), .ref a] : List Value).toArray below meth c H locs 0 0 (MQ below (CQ D cs A (fun v L1 f1 => v = none ∧ L = L1 ∧ FR f0 f1 br ba ∧ ∃ r1, RB cs L1 f1 br ba (n + 1) r1 ∧ BO2 L1 f1 (n + 1) r1 (ins R pl g))) ([.ref br, .int (iI pl), .ref a] : List Value).toArray s 0 0 A) (F0 m 30 ls []) := by
    intro N9
    induction N9 with
    | zero => intro i f1 r1 H locs ls h9; exact absurd h9 (Nat.not_lt_zero _)
    | succ N9 ih30 =>
      intro i f1 r1 H locs ls h9 hi hR fr hO fa1 h1 h2 w hl
      refine x_il_n X hl 3 rfl rfl dX1_insert_30 ?_
      refine x_il_n X hl 1 rfl rfl dX1_insert_31 ?_
      refine x_icmp_le (tgt := 55) X (by omega) (by decide) dX1_insert_32 (fun hb32 => ?_) (fun hb32 => ?_)
      · refine x_al_n X hl 0 rfl rfl dX1_insert_55 ?_
        refine x_get X w hR.mp hR.fp fq_X1_insert_11 rfl dX1_insert_56 ?_
        refine x_il_n X hl 1 rfl rfl dX1_insert_59 ?_
        refine x_al_n X hl 2 rfl rfl dX1_insert_60 ?_
        refine x_aast X w hR.ms hR.fs ma fa1 (by omega) dX1_insert_61 (fun H locs w => ?_)
        obtain ⟨f62, r62, w, hR, fr, hO, hz62⟩ : ∃ f9 r9, XW D A s.heap L f9 H locs ∧ RB cs L f9 br ba (n) r9 ∧ FR f0 f9 br ba ∧ BO2 L f9 n r R ∧ r9 = uI r1 pl (some a) := ⟨_, _, w, hR.row _, fr.up2, hO.fr (by decide) hR.fp hR.fs (FR.up2 (FR.rf _ _ _)), rfl⟩
        refine x_al_n X hl 0 rfl rfl dX1_insert_62 ?_
        refine x_dup X rfl dX1_insert_63 ?_
        refine x_get X w hR.mp hR.fp fq_X1_insert_17 rfl dX1_insert_64 ?_
        refine x_iconst X dX1_insert_67 ?_
        refine x_iadd X dX1_insert_68 ?_
        refine x_put X w hR.mp hR.fp fp_X1_insert_17 rfl rfl (Nat.le_of_ble_eq_true rfl) rfl dX1_insert_69 (fun H locs w => ?_)
        obtain ⟨f72, w, hR, fr, hO⟩ : ∃ f9, XW D A s.heap L f9 H locs ∧ RB cs L f9 br ba (n + 1) r62 ∧ FR f0 f9 br ba ∧ BO2 L f9 n r R := ⟨_, w, hR.cnt _, fr.up1, hO.fr (by decide) hR.fp hR.fs (FR.up1 (FR.rf _ _ _))⟩
        refine x_vret X w hr hlk ⟨by decide, by decide⟩ dX1_insert_72 ?_
        have he9 : i = pl := by omega
        subst he9
        exact ⟨rfl, rfl, fr, _, hR, hO.ins (by omega) h1 h2 hz62 ma ((fr a (bR_ne (by decide) fa hR0.fp) (bR_nl fa hR0.fs)).trans fa)⟩
      · refine x_al_n X hl 0 rfl rfl dX1_insert_35 ?_
        refine x_get X w hR.mp hR.fp fq_X1_insert_11 rfl dX1_insert_36 ?_
        refine x_il_n X hl 3 rfl rfl dX1_insert_39 ?_
        refine x_al_n X hl 0 rfl rfl dX1_insert_40 ?_
        refine x_get X w hR.mp hR.fp fq_X1_insert_11 rfl dX1_insert_41 ?_
        refine x_il_n X hl 3 rfl rfl dX1_insert_44 ?_
        refine x_iconst X dX1_insert_45 ?_
        refine x_isub X dX1_insert_46 ?_
        obtain ⟨a47, ha47, hm47, hf47⟩ := hO (i - 1) (by omega) (by omega)
        refine x_aaldv (b := a47) X w hR.ms hR.fs (by omega) ((h1 (i - 1) (by omega)).trans ha47) dX1_insert_47 ?_
        refine x_aast X w hR.ms hR.fs hm47 hf47 (by omega) dX1_insert_48 (fun H locs w => ?_)
        obtain ⟨f49, r49, w, hR, fr, hO, hz49⟩ : ∃ f9 r9, XW D A s.heap L f9 H locs ∧ RB cs L f9 br ba (n) r9 ∧ FR f0 f9 br ba ∧ BO2 L f9 n r R ∧ r9 = uI r1 i (some a47) := ⟨_, _, w, hR.row _, fr.up2, hO.fr (by decide) hR.fp hR.fs (FR.up2 (FR.rf _ _ _)), rfl⟩
        have fa2 : f49 a = bR g := (fr a (bR_ne (by decide) fa hR0.fp) (bR_nl fa hR0.fs)).trans fa
        refine x_iinc (lv' := [(3, .int (iI (i + (-1)))), (0, .ref br), (1, .int (iI pl)), (2, .ref a)]) X hl 3 rfl (by decide) rfl dX1_insert_49 (fun ls hl => ?_)
        refine x_goto (tgt := 30) X (by decide) dX1_insert_52 ?_
        refine ih30 (i + (-1)) f49 r49 _ _ _ (by omega) (by omega) hR fr hO fa2 ?_ ?_ w (lv_sub hl [1, 2, 3, 0] rfl)
        · intro j h8
          subst hz49
          rw [uI_n _ _ (by omega)]; exact h1 j (by omega)
        · intro j h8 h9
          subst hz49
          by_cases h7 : j = i
          · subst h7; rw [uI_s]; exact ha47.symm
          · rw [uI_n _ _ h7]; exact h2 j (by omega) h9
  refine loop30 _ n f0 r _ _ _ (Nat.lt_succ_self _) (by omega) hR fr hO fa (fun _ _ => rfl) (fun j h8 h9 => absurd h9 (by omega)) w (lv_sub hl [1, 2, 3, 0] rfl)

theorem k_X1_remove_X1_bailAt : XV wsX1_remove RX1 21 RX1 yX1_bailAt cX1_bailAt 2 (some (.object "PageBail$Bail")) wsX1_bailAt 1 := ⟨gX1_remove_X1_bailAt, ⟨_, rfl⟩, rfl, by decide, by decide, by decide +kernel⟩
theorem iw_X1_remove_X1 : ∀ w ∈ wsX10, w ∈ wsX1_remove := by decide +kernel
theorem fq_X1_remove_17 : XF wsX1_remove RX1 17 1 1 := ⟨RX1, TX1, 2, iw_X1_remove_X1, rfl, by decide, by decide +kernel⟩
theorem fp_X1_remove_17 : XGn wsX1_remove RX1 17 1 1 (tyX1 1) := ⟨RX1, TX1, 2, tyX1, iw_X1_remove_X1, rfl, by decide, by decide +kernel, tyX1_ok, nmX1, rfl, by decide +kernel⟩
theorem fq_X1_remove_11 : XF wsX1_remove RX1 11 1 0 := ⟨RX1, TX1, 2, iw_X1_remove_X1, rfl, by decide, by decide +kernel⟩
set_option maxHeartbeats 4000000 in
set_option maxRecDepth 100000 in
theorem c_X1_remove (l : Launch) (D : va_G) (cs : ClassId × ClassId × ClassId) (L : List Nat) (f0 : Nat → va_E) (br ba : Nat) (n : Int) (r : Int → Option Nat) (R : Rc) (pl : Int) (hR : RB cs L f0 br ba n r) (hO : BO2 L f0 n r R) (hpl : (0 ≤ n ∧ n ≤ 80) ∧ 0 ≤ pl ∧ pl < n) : C0 l yX1_remove wsX1_remove ({ frames := 2, cells := 0, slots := 0, locals := 33 } : Room) D cs [.ref br, .int (iI pl)] L f0 (fun v L1 f1 => v = none ∧ L = L1 ∧ FR f0 f1 br ba ∧ ∃ r1, RB cs L1 f1 br ba (n - 1) r1 ∧ BO2 L1 f1 (n - 1) r1 (del R pl)) := by
  refine C0.of (cc := cX1_remove) (maxL := 3) (ret := none) (by decide) rfl (Nat.le_of_ble_eq_true rfl) ?_
  intro p e s m below meth c X hr hlk hin A hA w ls hl
  have hl : lv_has ls 3 [(0, .ref br), (1, .int (iI pl))] := hl
  have fr : FR f0 f0 br ba := FR.rf _ _ _
  refine x_al_n X hl 0 rfl rfl dX1_remove_0 ?_
  refine x_il_n X hl 1 rfl rfl dX1_remove_1 ?_
  refine x_callV (As := [.int (iI pl)]) (rest := []) (c1 := 0) (s1 := 0) X w hA (c_X1_bailAt l D cs L f0 br ba n r R pl hR hO (by omega)) k_X1_remove_X1_bailAt (by decide) hR.mp hR.fp rfl rfl rfl hl rfl (Nat.le_of_ble_eq_true rfl) (by decide) rfl rfl dX1_remove_2 (fun v L1 f1 H locs w hp => ?_)
  obtain ⟨rfl, rfl, hp⟩ := hp
  rcases hp with ⟨a2, rfl, ha2, hm2, hf2, hq2⟩ | ⟨rfl, hq2⟩
  · show W p l e _ s m _ below meth c _ _ _ _ _ (F0 m 5 ls [.ref a2])
    refine x_ifnonnull_r (tgt := 9) X (by decide) dX1_remove_5 ?_
    refine x_al_n X hl 0 rfl rfl dX1_remove_9 ?_
    refine x_dup X rfl dX1_remove_10 ?_
    refine x_get X w hR.mp hR.fp fq_X1_remove_17 rfl dX1_remove_11 ?_
    refine x_iconst X dX1_remove_14 ?_
    refine x_isub X dX1_remove_15 ?_
    refine x_put X w hR.mp hR.fp fp_X1_remove_17 rfl rfl (Nat.le_of_ble_eq_true rfl) rfl dX1_remove_16 (fun H locs w => ?_)
    obtain ⟨f19, w, hR, fr, hO⟩ : ∃ f9, XW D A s.heap L f9 H locs ∧ RB cs L f9 br ba (n - 1) r ∧ FR f0 f9 br ba ∧ BO2 L f9 n r R := ⟨_, w, hR.cnt _, fr.up1, hO.fr (by decide) hR.fp hR.fs (FR.up1 (FR.rf _ _ _))⟩
    refine x_il_n X hl 1 rfl rfl dX1_remove_19 ?_
    refine x_is_n (lv' := [(2, .int (iI pl)), (0, .ref br), (1, .int (iI pl))]) X hl rfl (by decide) rfl dX1_remove_20 (fun ls hl => ?_)
    have loop21 : ∀ (N9 : Nat) (i : Int) (f1 : Nat → va_E) (r1 : Int → Option Nat) (H : Heap) (locs : List Loc) (ls : Array Slot), (n - i).toNat < N9 → (pl ≤ i ∧ i ≤ n - 1) → (RB cs L f1 br ba (n - 1) r1) → (FR f0 f1 br ba) → (BO2 L f1 n r R) → (∀ j, i ≤ j → r1 j = r j) → (∀ j, j < i → r1 j = del r pl j) → XW D A s.heap L f1 H locs → lv_has ls 3 [(0, .ref br), (1, .int (iI pl)), (2, .int (iI i))] → W p l e ({ frames := 2, cells := 0, slots := 0, locals := 33 } : Room) s m ([.ref br, .int (iI pl)] : List Value).toArray below meth c H locs 0 0 (MQ below (CQ D cs A (fun v L1 f1 => v = none ∧ L = L1 ∧ FR f0 f1 br ba ∧ ∃ r1, RB cs L1 f1 br ba (n - 1) r1 ∧ BO2 L1 f1 (n - 1) r1 (del R pl))) ([.ref br, .int (iI pl)] : List Value).toArray s 0 0 A) (F0 m 21 ls []) := by
      intro N9
      induction N9 with
      | zero => intro i f1 r1 H locs ls h9; exact absurd h9 (Nat.not_lt_zero _)
      | succ N9 ih21 =>
        intro i f1 r1 H locs ls h9 hi hR fr hO h1 h2 w hl
        refine x_il_n X hl 2 rfl rfl dX1_remove_21 ?_
        refine x_al_n X hl 0 rfl rfl dX1_remove_22 ?_
        refine x_get X w hR.mp hR.fp fq_X1_remove_17 rfl dX1_remove_23 ?_
        refine x_icmp_ge (tgt := 49) X (by omega) (by decide) dX1_remove_26 (fun hb26 => ?_) (fun hb26 => ?_)
        · refine x_al_n X hl 0 rfl rfl dX1_remove_49 ?_
          refine x_get X w hR.mp hR.fp fq_X1_remove_11 rfl dX1_remove_50 ?_
          refine x_al_n X hl 0 rfl rfl dX1_remove_53 ?_
          refine x_get X w hR.mp hR.fp fq_X1_remove_17 rfl dX1_remove_54 ?_
          refine x_null X dX1_remove_57 ?_
          refine x_aastN X w hR.ms hR.fs (by omega) dX1_remove_58 (fun H locs w => ?_)
          obtain ⟨f59, r59, w, hR, fr, hO, hz59⟩ : ∃ f9 r9, XW D A s.heap L f9 H locs ∧ RB cs L f9 br ba (n - 1) r9 ∧ FR f0 f9 br ba ∧ BO2 L f9 n r R ∧ r9 = uI r1 (n - 1) none := ⟨_, _, w, hR.row _, fr.up2, hO.fr (by decide) hR.fp hR.fs (FR.up2 (FR.rf _ _ _)), rfl⟩
          refine x_vret X w hr hlk ⟨by decide, by decide⟩ dX1_remove_59 ?_
          exact ⟨rfl, rfl, fr, _, hR, hO.del (by omega) (fun j h8 => h2 j (by omega)) hz59⟩
        · refine x_al_n X hl 0 rfl rfl dX1_remove_29 ?_
          refine x_get X w hR.mp hR.fp fq_X1_remove_11 rfl dX1_remove_30 ?_
          refine x_il_n X hl 2 rfl rfl dX1_remove_33 ?_
          refine x_al_n X hl 0 rfl rfl dX1_remove_34 ?_
          refine x_get X w hR.mp hR.fp fq_X1_remove_11 rfl dX1_remove_35 ?_
          refine x_il_n X hl 2 rfl rfl dX1_remove_38 ?_
          refine x_iconst X dX1_remove_39 ?_
          refine x_iadd X dX1_remove_40 ?_
          obtain ⟨a41, ha41, hm41, hf41⟩ := hO (i + 1) (by omega) (by omega)
          refine x_aaldv (b := a41) X w hR.ms hR.fs (by omega) ((h1 (i + 1) (by omega)).trans ha41) dX1_remove_41 ?_
          refine x_aast X w hR.ms hR.fs hm41 hf41 (by omega) dX1_remove_42 (fun H locs w => ?_)
          obtain ⟨f43, r43, w, hR, fr, hO, hz43⟩ : ∃ f9 r9, XW D A s.heap L f9 H locs ∧ RB cs L f9 br ba (n - 1) r9 ∧ FR f0 f9 br ba ∧ BO2 L f9 n r R ∧ r9 = uI r1 i (some a41) := ⟨_, _, w, hR.row _, fr.up2, hO.fr (by decide) hR.fp hR.fs (FR.up2 (FR.rf _ _ _)), rfl⟩
          refine x_iinc (lv' := [(2, .int (iI (i + 1))), (0, .ref br), (1, .int (iI pl))]) X hl 2 rfl (by decide) rfl dX1_remove_43 (fun ls hl => ?_)
          refine x_goto (tgt := 21) X (by decide) dX1_remove_46 ?_
          refine ih21 (i + 1) f43 r43 _ _ _ (by omega) (by omega) hR fr hO ?_ ?_ w (lv_sub hl [1, 2, 0] rfl)
          · intro j h8
            subst hz43
            rw [uI_n _ _ (by omega)]; exact h1 j (by omega)
          · intro j h8
            subst hz43
            by_cases h7 : j = i
            · subst h7; rw [uI_s]; show _ = (if j < pl then r j else r (j + 1)); rw [if_neg (by omega)]; exact ha41.symm
            · rw [uI_n _ _ h7]; exact h2 j (by omega)
    refine loop21 _ pl f19 r _ _ _ (Nat.lt_succ_self _) (by omega) hR fr hO (fun _ _ => rfl) (fun j h8 => (if_pos h8).symm) w (lv_sub hl [1, 2, 0] rfl)
  · exfalso; omega
end
section
/-! the class's picture: its cells and the register that they stand for -/
def CX (cs : ClassId × ClassId × ClassId) (L : List Nat) (f : Nat → va_E) (x br ba pr sz lr : Nat) (n : Int) (R : Rc) (k : Int) (z : Int → Int) (td kp pb sw : Int) (w : Int → Int) : Prop :=
  x ∈ L ∧ f x = .inr (3, [.ref br, .ref pr, .ref lr, .int (iI td), .int (iI kp), .int (iI pb), .int (iI sw)]) ∧ lr ∈ L ∧ (∃ ww, f lr = .inl (cs.1, 4, .inl (aI ww)) ∧ ∀ j, 0 ≤ j → j < 4 → ww j = w j) ∧ lr ≠ sz ∧ PP cs L f pr sz k z ∧ ∃ r, RB cs L f br ba n r ∧ BO2 L f n r R
abbrev CC (cs : ClassId × ClassId × ClassId) (L : List Nat) (f : Nat → va_E) (x br ba pr sz lr : Nat) (σ : Sg) : Prop := CX cs L f x br ba pr sz lr (gN σ) (gR σ) (gK σ) (gZ σ) (gT σ) (gP σ) (gB σ) (gS σ) (gW σ)
/-- nothing else has changed: no cell but the class's own six and records -/
def FC (L : List Nat) (f0 f1 : Nat → va_E) (x br ba pr sz lr : Nat) : Prop := ∀ a, a ∈ L → a ≠ x → a ≠ br → a ≠ ba → a ≠ pr → a ≠ sz → a ≠ lr → (∀ v, f0 a ≠ .inr (0, v)) → f1 a = f0 a
section CXS
variable {cs : ClassId × ClassId × ClassId} {L : List Nat} {f f1 : Nat → va_E} {x br ba pr sz lr : Nat} {n : Int} {R : Rc} {k : Int} {z : Int → Int} {td kp pb sw : Int} {w : Int → Int}
theorem PP.mp (h : PP cs L f pr sz k z) : pr ∈ L := h.elim (fun _ q => q.1.mp)
theorem PP.fp (h : PP cs L f pr sz k z) : f pr = .inr (2, [.ref sz, .int (iI k)]) := h.elim (fun _ q => q.1.fp)
theorem PP.ms (h : PP cs L f pr sz k z) : sz ∈ L := h.elim (fun _ q => q.1.ms)
theorem PP.fs (h : PP cs L f pr sz k z) : ∃ zz, f sz = .inl (cs.1, 80, .inl (aI zz)) := h.elim (fun zz q => ⟨zz, q.1.fs⟩)
theorem PP.fr {a b : Nat} (h : PP cs L f pr sz k z) (hf : FR f f1 a b) (h1 : pr ≠ a ∧ pr ≠ b) (h2 : sz ≠ a ∧ sz ≠ b) : PP cs L f1 pr sz k z := by
  obtain ⟨zz, q, hz⟩ := h
  exact ⟨zz, ⟨q.mp, q.ms, (hf pr h1.1 h1.2).trans q.fp, (hf sz h2.1 h2.2).trans q.fs⟩, hz⟩
theorem RB.fr {r : Int → Option Nat} {a b : Nat} (h : RB cs L f br ba n r) (hf : FR f f1 a b) (h1 : br ≠ a ∧ br ≠ b) (h2 : ba ≠ a ∧ ba ≠ b) : RB cs L f1 br ba n r :=
  ⟨h.mp, h.ms, (hf br h1.1 h1.2).trans h.fp, (hf ba h2.1 h2.2).trans h.fs⟩
theorem BO2.fr2 {r : Int → Option Nat} {a b : Nat} (h : BO2 L f n r R) (hf : FR f f1 a b) (h1 : ∀ c g, f c = bR g → c ≠ a ∧ c ≠ b) : BO2 L f1 n r R := by
  intro j a1 a2
  obtain ⟨c, h3, h4, h5⟩ := h j a1 a2
  exact ⟨c, h3, h4, (hf c (h1 c _ h5).1 (h1 c _ h5).2).trans h5⟩
theorem ne_kk {a b i j : Nat} {u v : List Value} (hij : i ≠ j) (h1 : f a = .inr (i, u)) (h2 : f b = .inr (j, v)) : a ≠ b := by
  intro he; rw [he, h2] at h1; injection h1 with h3; injection h3 with h4 h5; exact hij h4.symm
theorem ne_kl {a b i : Nat} {u : List Value} {v : ClassId × vp_A} (h1 : f a = .inr (i, u)) (h2 : f b = .inl v) : a ≠ b := by
  intro he; rw [he, h2] at h1; cases h1
theorem ne_lr {a b m q : Nat} {c d : ClassId} {g : Nat → Int32} {r : Nat → Option Nat} (h1 : f a = .inl (c, m, .inl g)) (h2 : f b = .inl (d, q, .inr (.inr (.inr (.inr r))))) : a ≠ b := by
  intro he; rw [he, h2] at h1; injection h1 with h3; injection h3 with h4 h5; injection h5 with h6 h7; cases h7
theorem CX.mx (h : CX cs L f x br ba pr sz lr n R k z td kp pb sw w) : x ∈ L := h.1
theorem CX.fx (h : CX cs L f x br ba pr sz lr n R k z td kp pb sw w) : f x = .inr (3, [.ref br, .ref pr, .ref lr, .int (iI td), .int (iI kp), .int (iI pb), .int (iI sw)]) := h.2.1
theorem CX.ml (h : CX cs L f x br ba pr sz lr n R k z td kp pb sw w) : lr ∈ L := h.2.2.1
theorem CX.fl (h : CX cs L f x br ba pr sz lr n R k z td kp pb sw w) : ∃ ww, f lr = .inl (cs.1, 4, .inl (aI ww)) ∧ ∀ j, 0 ≤ j → j < 4 → ww j = w j := h.2.2.2.1
theorem CX.ns (h : CX cs L f x br ba pr sz lr n R k z td kp pb sw w) : lr ≠ sz := h.2.2.2.2.1
theorem CX.pp (h : CX cs L f x br ba pr sz lr n R k z td kp pb sw w) : PP cs L f pr sz k z := h.2.2.2.2.2.1
theorem CX.rb (h : CX cs L f x br ba pr sz lr n R k z td kp pb sw w) : ∃ r, RB cs L f br ba n r ∧ BO2 L f n r R := h.2.2.2.2.2.2
theorem CX.mb (h : CX cs L f x br ba pr sz lr n R k z td kp pb sw w) : br ∈ L := h.rb.elim (fun _ q => q.1.mp)
theorem CX.fb (h : CX cs L f x br ba pr sz lr n R k z td kp pb sw w) : f br = .inr (1, [.ref ba, .int (iI n)]) := h.rb.elim (fun _ q => q.1.fp)
theorem CX.fa (h : CX cs L f x br ba pr sz lr n R k z td kp pb sw w) : ∃ r, f ba = .inl (cs.2.1, 80, .inr (.inr (.inr (.inr (aR r))))) := h.rb.elim (fun r q => ⟨r, q.1.fs⟩)
/-- a number of the class's object is written -/
theorem CX.fld (h : CX cs L f x br ba pr sz lr n R k z td kp pb sw w) (td1 kp1 pb1 sw1 : Int) : CX cs L (va_up f x (.inr (3, [.ref br, .ref pr, .ref lr, .int (iI td1), .int (iI kp1), .int (iI pb1), .int (iI sw1)]))) x br ba pr sz lr n R k z td1 kp1 pb1 sw1 w := by
  obtain ⟨ww, hl1, hl2⟩ := h.fl
  obtain ⟨r, hb1, hb2⟩ := h.rb
  obtain ⟨zz, hzz⟩ := h.pp.fs
  have hf : ∀ a, a ≠ x → va_up f x (.inr (3, [.ref br, .ref pr, .ref lr, .int (iI td1), .int (iI kp1), .int (iI pb1), .int (iI sw1)])) a = f a := fun a q => va_up_ne f _ q
  have hfr : FR f (va_up f x (.inr (3, [.ref br, .ref pr, .ref lr, .int (iI td1), .int (iI kp1), .int (iI pb1), .int (iI sw1)]))) x x := fun a q _ => hf a q
  have n1 : br ≠ x := ne_kk (by decide) h.fb h.fx
  have n2 : ba ≠ x := (ne_kl h.fx hb1.fs).symm
  have n3 : pr ≠ x := ne_kk (by decide) h.pp.fp h.fx
  have n4 : sz ≠ x := (ne_kl h.fx hzz).symm
  have n5 : lr ≠ x := (ne_kl h.fx hl1).symm
  exact ⟨h.mx, va_up_self _ _ _, h.ml, ⟨ww, (hf lr n5).trans hl1, hl2⟩, h.ns, h.pp.fr hfr ⟨n3, n3⟩ ⟨n4, n4⟩, r, hb1.fr hfr ⟨n1, n1⟩ ⟨n2, n2⟩, hb2.fr2 hfr (fun c g q => ⟨bR_ne (by decide) q h.fx, bR_ne (by decide) q h.fx⟩)⟩
/-- the pages have changed -/
theorem CX.p {k1 : Int} {z1 : Int → Int} (h : CX cs L f x br ba pr sz lr n R k z td kp pb sw w) (hp : PP cs L f1 pr sz k1 z1) (hfr : FR f f1 pr sz) : CX cs L f1 x br ba pr sz lr n R k1 z1 td kp pb sw w := by
  obtain ⟨ww, hl1, hl2⟩ := h.fl
  obtain ⟨r, hb1, hb2⟩ := h.rb
  obtain ⟨zz, hzz⟩ := h.pp.fs
  have n1 : br ≠ pr := ne_kk (by decide) h.fb h.pp.fp
  have n2 : br ≠ sz := ne_kl h.fb hzz
  have n3 : ba ≠ pr := (ne_kl h.pp.fp hb1.fs).symm
  have n4 : ba ≠ sz := (ne_lr hzz hb1.fs).symm
  have n5 : x ≠ pr := ne_kk (by decide) h.fx h.pp.fp
  have n6 : x ≠ sz := ne_kl h.fx hzz
  have n7 : lr ≠ pr := (ne_kl h.pp.fp hl1).symm
  exact ⟨h.mx, (hfr x n5 n6).trans h.fx, h.ml, ⟨ww, (hfr lr n7 h.ns).trans hl1, hl2⟩, h.ns, hp, r, hb1.fr hfr ⟨n1, n2⟩ ⟨n3, n4⟩, hb2.fr2 hfr (fun c g q => ⟨bR_ne (by decide) q h.pp.fp, bR_nl q hzz⟩)⟩
/-- the row of records has changed -/
theorem CX.b {n1 : Int} {r1 : Int → Option Nat} {R1 : Rc} (h : CX cs L f x br ba pr sz lr n R k z td kp pb sw w) (hb1 : RB cs L f1 br ba n1 r1) (hb2 : BO2 L f1 n1 r1 R1) (hfr : FR f f1 br ba) : CX cs L f1 x br ba pr sz lr n1 R1 k z td kp pb sw w := by
  obtain ⟨ww, hl1, hl2⟩ := h.fl
  obtain ⟨r, hr⟩ := h.fa
  obtain ⟨zz, hzz⟩ := h.pp.fs
  have n1 : pr ≠ br := ne_kk (by decide) h.pp.fp h.fb
  have n2 : sz ≠ br := (ne_kl h.fb hzz).symm
  have n3 : pr ≠ ba := ne_kl h.pp.fp hr
  have n4 : sz ≠ ba := ne_lr hzz hr
  have n5 : x ≠ br := ne_kk (by decide) h.fx h.fb
  have n6 : x ≠ ba := ne_kl h.fx hr
  have n7 : lr ≠ br := (ne_kl h.fb hl1).symm
  have n8 : lr ≠ ba := ne_lr hl1 hr
  exact ⟨h.mx, (hfr x n5 n6).trans h.fx, h.ml, ⟨ww, (hfr lr n7 n8).trans hl1, hl2⟩, h.ns, h.pp.fr hfr ⟨n1, n3⟩ ⟨n2, n4⟩, r1, hb1, hb2⟩
/-- a reader has come on -/
theorem CX.rd {i v : Int} {ww : Int → Int} (h : CX cs L f x br ba pr sz lr n R k z td kp pb sw w) (hl1 : f lr = .inl (cs.1, 4, .inl (aI ww))) (hl2 : ∀ j, 0 ≤ j → j < 4 → ww j = w j) : CX cs L (va_up f lr (.inl (cs.1, 4, .inl (aI (uI ww i v))))) x br ba pr sz lr n R k z td kp pb sw (uI w i v) := by
  obtain ⟨r, hb1, hb2⟩ := h.rb
  obtain ⟨zz, hzz⟩ := h.pp.fs
  have hfr : FR f (va_up f lr (.inl (cs.1, 4, .inl (aI (uI ww i v))))) lr lr := fun a q _ => va_up_ne f _ q
  have n1 : br ≠ lr := ne_kl h.fb hl1
  have n2 : ba ≠ lr := (ne_lr hl1 hb1.fs).symm
  have n3 : pr ≠ lr := ne_kl h.pp.fp hl1
  have n5 : x ≠ lr := ne_kl h.fx hl1
  exact ⟨h.mx, (hfr x n5 n5).trans h.fx, h.ml, ⟨_, va_up_self _ _ _, ag_u hl2⟩, h.ns, h.pp.fr hfr ⟨n3, n3⟩ ⟨h.ns.symm, h.ns.symm⟩, r, hb1.fr hfr ⟨n1, n1⟩ ⟨n2, n2⟩, hb2.fr2 hfr (fun c g q => ⟨bR_nl q hl1, bR_nl q hl1⟩)⟩
/-- a record's own cell is written -/
theorem CX.rec {r : Int → Option Nat} {p : Int} {a : Nat} {g : Nat → Int} (h : CX cs L f x br ba pr sz lr n R k z td kp pb sw w) (hb1 : RB cs L f br ba n r) (hb2 : BO2 L f n r R) (hp : 0 ≤ p ∧ p < n) (hr : r p = some a) (hso : so R n) (h0 : ∀ j, 0 ≤ j → j < n → 0 ≤ R j 0 ∧ R j 0 ≤ 999) : CX cs L (va_up f a (bR g)) x br ba pr sz lr n (uI R p g) k z td kp pb sw w := by
  obtain ⟨ww, hl1, hl2⟩ := h.fl
  obtain ⟨zz, hzz⟩ := h.pp.fs
  obtain ⟨a2, e1, ha, hfa⟩ := hb2 p hp.1 hp.2
  have e2 : a2 = a := by rw [hr] at e1; exact (Option.some.inj e1).symm
  subst e2
  have hfr : FR f (va_up f a2 (bR g)) a2 a2 := fun b q _ => va_up_ne f _ q
  have m1 : ∀ {b i u}, i ≠ 0 → f b = .inr (i, u) → b ≠ a2 := fun hi q => (bR_ne hi hfa q).symm
  have m2 : ∀ {b u}, f b = .inl u → b ≠ a2 := fun q => (bR_nl hfa q).symm
  have n1 := m1 (by decide) h.fb
  have n2 := m2 hb1.fs
  have n3 := m1 (by decide) h.pp.fp
  have n4 := m2 hzz
  have n5 := m1 (by decide) h.fx
  have n6 := m2 hl1
  refine ⟨h.mx, (hfr x n5 n5).trans h.fx, h.ml, ⟨ww, (hfr lr n6 n6).trans hl1, hl2⟩, h.ns, h.pp.fr hfr ⟨n3, n3⟩ ⟨n4, n4⟩, r, hb1.fr hfr ⟨n1, n1⟩ ⟨n2, n2⟩, fun j a1 a2' => ?_⟩
  by_cases c : j = p
  · subst c
    exact ⟨a2, hr, ha, by rw [uI_s]; exact va_up_self _ _ _⟩
  · obtain ⟨b, q1, q2, q3⟩ := hb2 j a1 a2'
    refine ⟨b, q1, q2, ?_⟩
    rw [uI_n _ _ c]
    refine (hfr b ?_ ?_).trans q3 <;>
    · intro he
      rw [he, hfa] at q3
      unfold bR at q3
      injection q3 with q4; injection q4 with q5 q6; injection q6 with q7 q8; injection q7 with q9
      have r1 := h0 j a1 a2'; have r2 := h0 p hp.1 hp.2
      have q10 := (iI_eq (by omega) (by omega)).mp q9
      exact c (hso.inj ⟨a1, a2'⟩ hp q10.symm)
/-- a new cell -/
theorem CX.new {q : Nat} {e : va_E} (h : CX cs L f x br ba pr sz lr n R k z td kp pb sw w) (hq : q ∉ L) : CX cs (L ++ [q]) (va_up f q e) x br ba pr sz lr n R k z td kp pb sw w := by
  obtain ⟨ww, hl1, hl2⟩ := h.fl
  obtain ⟨r, hb1, hb2⟩ := h.rb
  obtain ⟨zz, hzR, hzz⟩ := h.pp
  have hm : ∀ {a}, a ∈ L → a ∈ L ++ [q] := fun ha => List.mem_append_left _ ha
  have hf : ∀ {a}, a ∈ L → va_up f q e a = f a := fun ha => va_up_ne f _ (fun he => hq (he ▸ ha))
  refine ⟨hm h.mx, (hf h.mx).trans h.fx, hm h.ml, ⟨ww, (hf h.ml).trans hl1, hl2⟩, h.ns, ⟨zz, ⟨hm hzR.mp, hm hzR.ms, (hf hzR.mp).trans hzR.fp, (hf hzR.ms).trans hzR.fs⟩, hzz⟩, r, ⟨hm hb1.mp, hm hb1.ms, (hf hb1.mp).trans hb1.fp, (hf hb1.ms).trans hb1.fs⟩, fun j a1 a2 => ?_⟩
  obtain ⟨b, q1, q2, q3⟩ := hb2 j a1 a2
  exact ⟨b, q1, hm q2, (hf q2).trans q3⟩
/-! the frame -/
theorem FC.rf (L : List Nat) (f : Nat → va_E) (x br ba pr sz lr : Nat) : FC L f f x br ba pr sz lr := fun _ _ _ _ _ _ _ _ _ => rfl
theorem FC.xx {f0 : Nat → va_E} {e : va_E} (h : FC L f0 f x br ba pr sz lr) : FC L f0 (va_up f x e) x br ba pr sz lr := fun a m a1 a2 a3 a4 a5 a6 a7 => (va_up_ne f e a1).trans (h a m a1 a2 a3 a4 a5 a6 a7)
theorem FC.l {f0 : Nat → va_E} {e : va_E} (h : FC L f0 f x br ba pr sz lr) : FC L f0 (va_up f lr e) x br ba pr sz lr := fun a m a1 a2 a3 a4 a5 a6 a7 => (va_up_ne f e a6).trans (h a m a1 a2 a3 a4 a5 a6 a7)
theorem FC.p {f0 : Nat → va_E} (h : FC L f0 f x br ba pr sz lr) (g : FR f f1 pr sz) : FC L f0 f1 x br ba pr sz lr := fun a m a1 a2 a3 a4 a5 a6 a7 => (g a a4 a5).trans (h a m a1 a2 a3 a4 a5 a6 a7)
theorem FC.b {f0 : Nat → va_E} (h : FC L f0 f x br ba pr sz lr) (g : FR f f1 br ba) : FC L f0 f1 x br ba pr sz lr := fun a m a1 a2 a3 a4 a5 a6 a7 => (g a a2 a3).trans (h a m a1 a2 a3 a4 a5 a6 a7)
theorem FC.tr {f0 : Nat → va_E} (h : FC L f0 f x br ba pr sz lr) (g : FC L f f1 x br ba pr sz lr) : FC L f0 f1 x br ba pr sz lr := fun a m a1 a2 a3 a4 a5 a6 a7 =>
  have e := h a m a1 a2 a3 a4 a5 a6 a7
  (g a m a1 a2 a3 a4 a5 a6 (by rw [e]; exact a7)).trans e
theorem FC.rec {f0 : Nat → va_E} {b : Nat} {g : Nat → Int} {e : va_E} (h : FC L f0 f x br ba pr sz lr) (hb : f b = bR g) : FC L f0 (va_up f b e) x br ba pr sz lr := fun a m a1 a2 a3 a4 a5 a6 a7 =>
  have e1 := h a m a1 a2 a3 a4 a5 a6 a7
  (va_up_ne f e (fun he => a7 [.int (iI (g 0)), .int (iI (g 1)), .int (iI (g 2)), .int (iI (g 3)), .int (iI (g 4))] (by rw [← e1, he]; exact hb))).trans e1
theorem FC.new {f0 : Nat → va_E} {q : Nat} {e : va_E} (h : FC L f0 f x br ba pr sz lr) (hq : q ∉ L) : FC L f0 (va_up f q e) x br ba pr sz lr := fun a m a1 a2 a3 a4 a5 a6 a7 => (va_up_ne f e (fun he => hq (by rw [← he]; exact m))).trans (h a m a1 a2 a3 a4 a5 a6 a7)
theorem FC.sub {f0 : Nat → va_E} {L2 : List Nat} (h : FC L2 f0 f x br ba pr sz lr) (hs : ∀ a ∈ L, a ∈ L2) : FC L f0 f x br ba pr sz lr := fun a m => h a (hs a m)
end CXS
/-- what a call of the class leaves: the place of what it throws is 0, its answer, the register then -/
def CPi (cs : ClassId × ClassId × ClassId) (L : List Nat) (f0 : Nat → va_E) (x br ba pr sz lr : Nat) (o : Int × Int × Sg) (v : Option Value) (L1 : List Nat) (f1 : Nat → va_E) : Prop := o.1 = 0 ∧ v = some (.int (iI o.2.1)) ∧ CC cs L1 f1 x br ba pr sz lr o.2.2 ∧ (∀ a ∈ L, a ∈ L1) ∧ FC L f0 f1 x br ba pr sz lr
def CPv (cs : ClassId × ClassId × ClassId) (L : List Nat) (f0 : Nat → va_E) (x br ba pr sz lr : Nat) (o : Int × Int × Sg) (v : Option Value) (L1 : List Nat) (f1 : Nat → va_E) : Prop := o.1 = 0 ∧ v = none ∧ CC cs L1 f1 x br ba pr sz lr o.2.2 ∧ (∀ a ∈ L, a ∈ L1) ∧ FC L f0 f1 x br ba pr sz lr
def PXA (o : Int × Int × Sg) (E : String) : Prop := (o.1 = 1 ∧ E = XIA) ∨ (o.1 = 2 ∧ E = XIS)
def PXO (o : Int × Int × Sg) (E : String) : Prop := o.1 = 1 ∧ E = XIO
def PXS (o : Int × Int × Sg) (E : String) : Prop := o.1 = 1 ∧ E = XIS
end
section
/-! new objects, constructors; a record's constructor -/
section XNEW
variable {p : Program} {l : Launch} {e : Env} {R : Room} {s : State} {m : MethodId} {args : Array Value} {below : List Frame} {meth : Method} {c : Code} {H : Heap} {locs : List Loc} {cells slots c1 s1 : Nat} {Q : State → Prop}
variable {cc : ByteArray} {nL pc : Nat} {ls : Array Slot} {rest st : List Value} {Ts : List Cond} {own : String} {D : va_G} {cs : ClassId × ClassId × ClassId} {A : Nat → Prop} {H0 : Heap} {L : List Nat} {f : Nat → va_E} {lv lv' : List (Nat × Value)}
variable {y : MethodName} {ws : List Cond} {bytes : ByteArray} {maxL : Nat} {rm : Room} {index n : Nat} {As : List Value} {post : Option Value → List Nat → (Nat → va_E) → Prop}
theorem xw_push {q : Nat} {e : va_E} (hP : va_P D vwCl (va_pl L f ++ [(q, e)]) H) (hD : va_D A (va_pl L f ++ [(q, e)])) (hS : va_S A H0 H locs) : q ∉ L ∧ XW D A H0 (L ++ [q]) (va_up f q e) H locs := by
  have hq : q ∉ L := by
    intro hm
    obtain ⟨i, hi⟩ := va_pl_get (X := []) (f := f) hm
    rw [List.nil_append] at hi
    have hlt : i < (va_pl L f).length := (List.getElem?_eq_some_iff.mp hi).1
    have h1 : (va_pl L f ++ [(q, e)])[i]? = some (q, f q) := by rw [List.getElem?_append_left hlt]; exact hi
    have h2 : (va_pl L f ++ [(q, e)])[(va_pl L f).length]? = some (q, e) := by rw [List.getElem?_append_right (Nat.le_refl _), Nat.sub_self]; rfl
    have h3 := hD.1 i (va_pl L f).length _ _ h1 h2 rfl
    omega
  rw [va_pl_push hq] at hP hD
  exact ⟨hq, hP, hD, hS⟩
theorem x_newO {C : String} {T : u_T} {N ci : Nat} {fs : List Value} {ty0 : Nat → FieldType} (X : XX p m c cc nL s args Ts own D cs) (w : XW D A H0 L f H locs) (hA : ∀ q, H0.size ≤ q → A q) (hin : ∀ w ∈ u_ws C T N, w ∈ Ts) (hty : ∀ k, k < N → parseFieldDescriptor (T k).2.2.1 = some (ty0 k)) (h1 : Cond.classLink own index C ∈ Ts ∧ Cond.instantiable C N ∈ Ts ∧ Cond.initialized C ∈ Ts) (hc : vwCl[ci]? = some (C, T, N)) (hfs : ∀ j, j < N → defaultValue (ty0 j) = vp_V fs j) (hR : cells + 1 ≤ R.cells ∧ slots + N ≤ R.slots) (hc1 : cells + 1 = c1) (hs1 : slots + N = s1) (hdg : decode cc pc = .ok (.new index, 3))
    (kk : ∀ (q : Nat) (H : Heap) (locs : List Loc), q ∉ L → XW D A H0 (L ++ [q]) (va_up f q (.inr (ci, fs))) H locs → W p l e R s m args below meth c H locs c1 s1 Q (F0 m (pc + 3) ls (.ref q :: rest))) : W p l e R s m args below meth c H locs cells slots Q (F0 m pc ls rest) := by
  subst hc1; subst hs1
  have ht := X.1.2.2.2.2
  refine va_new X.1.1 X.1.2.1 ht hin ty0 hty X.1.2.2.2.1 (ht _ h1.1) (ht _ h1.2.1) (ht _ h1.2.2) X.2 w.1 w.2.1 w.2.2 hA hc hfs hR.1 hR.2 hdg (fun q H1 hP hD hS => ?_)
  obtain ⟨hq, w1⟩ := xw_push hP hD hS
  exact kk q H1 _ hq w1
theorem x_objI (X : XX p m c cc nL s args Ts own D cs) {a : Nat} (hl : lv_has ls nL lv) (h1 : Cond.methodLink own index objectInit ∈ Ts ∧ Cond.instanceMethod objectInit ∈ Ts ∧ Cond.code objectInit ⟨#[0xb1]⟩ 1 none ∈ Ts) (hR : 1 ≤ R.frames ∧ (rest.map fun v => v.category).sum + 12 ≤ R.locals) (hdg : decode cc pc = .ok (.invokespecial index, 3))
    (kk : W p l e R s m args below meth c H locs cells slots Q (F0 m (pc + 3) ls rest)) : W p l e R s m args below meth c H locs cells slots Q (F0 m pc ls (.ref a :: rest)) := by
  have ht := X.1.2.2.2.2
  refine W.objInit X.1.1 X.1.2.1 X.1.2.2.2.1 (ht _ h1.1) (ht _ h1.2.1) (ht _ h1.2.2) rfl (hl.1.trans X.1.2.2.1.symm) rfl hdg hR.1 (by have h9 := hR.2; show 2 * 0 + _ + 12 ≤ _; omega) ?_
  exact W.eq (g2 := F0 m (pc + 3) ls rest) rfl kk
def XI (Ts : List Cond) (own : String) (index : Nat) (y : MethodName) (bytes : ByteArray) (maxL : Nat) (ws : List Cond) (n : Nat) : Prop := GoodIn Ts ws ∧ (∃ ws', ws = Cond.code y bytes maxL none :: ws') ∧ (Cond.initialized y.cls ∈ Ts ∧ Cond.methodLink own index y ∈ Ts ∧ Cond.instanceMethod y ∈ Ts) ∧ y.name = "<init>" ∧ (y.cls ≠ "java/lang/invoke/MethodHandle" ∧ y.cls ≠ "java/lang/invoke/VarHandle" ∧ (parseMethodDescriptor y.desc).map (fun d => d.parameters.length) = some n)
theorem x_callI {b : Nat} (X : XX p m c cc nL s args Ts own D cs) (w : XW D A H0 L f H locs) (hA : ∀ q, H0.size ≤ q → A q) (hC : C0 l y ws rm D cs (.ref b :: As) L f post) (hk : XI Ts own index y bytes maxL ws n) (hR : rm.frames + 1 ≤ R.frames ∧ 8 + (maxL + 11) + rm.locals ≤ R.locals) (hn : As.length = n) (hl : lv_has ls nL lv) (hst : st = As.reverse ++ .ref b :: rest) (hrm : (rest.map fun v => v.category).sum ≤ 8) (hcs : cells + rm.cells ≤ R.cells ∧ slots + rm.slots ≤ R.slots) (hc1 : cells + rm.cells = c1) (hs1 : slots + rm.slots = s1) (hdg : decode cc pc = .ok (.invokespecial index, 3))
    (kk : ∀ (v : Option Value) (L : List Nat) (f : Nat → va_E) (H : Heap) (locs : List Loc), XW D A H0 L f H locs → post v L f → W p l e R s m args below meth c H locs c1 s1 Q (F0 m (pc + 3) ls (v.toList ++ rest))) : W p l e R s m args below meth c H locs cells slots Q (F0 m pc ls st) := by
  subst hst
  obtain ⟨hG, ⟨ws', hw⟩, hd1, hy, hd⟩ := hk
  have ht := X.1.2.2.2.2
  exact x_run w hA (va_runI (As := As) (rest := rest) X.1 (hC H.size) (cwI n ht hG hw rfl rfl (ht _ hd1.1) (ht _ hd1.2.1) (ht _ hd1.2.2) hy hd hR) ⟨cp_blind, x_pre X w⟩ rfl hn hl.1 rfl (lv_room hrm) hdg hcs) hc1 hs1 kk
end XNEW
theorem df_X0 : ∀ j, j < 5 → defaultValue (tyX0 j) = vp_V [.int (iI 0), .int (iI 0), .int (iI 0), .int (iI 0), .int (iI 0)] j := by
  intro j hj
  rcases (show j = 0 ∨ j = 1 ∨ j = 2 ∨ j = 3 ∨ j = 4 by omega) with rfl | rfl | rfl | rfl | rfl <;> rfl

theorem iw_X0_init_X0 : ∀ w ∈ wsX00, w ∈ wsX0_init := by decide +kernel
theorem fz_X0_init_9 : XG wsX0_init RX0 9 0 0 true (tyX0 0) := ⟨RX0, TX0, 5, tyX0, iw_X0_init_X0, rfl, by decide, by decide +kernel, tyX0_ok, nmX0, rfl, rfl, by decide +kernel⟩
theorem fz_X0_init_15 : XG wsX0_init RX0 15 0 1 true (tyX0 1) := ⟨RX0, TX0, 5, tyX0, iw_X0_init_X0, rfl, by decide, by decide +kernel, tyX0_ok, nmX0, rfl, rfl, by decide +kernel⟩
theorem fz_X0_init_18 : XG wsX0_init RX0 18 0 2 true (tyX0 2) := ⟨RX0, TX0, 5, tyX0, iw_X0_init_X0, rfl, by decide, by decide +kernel, tyX0_ok, nmX0, rfl, rfl, by decide +kernel⟩
theorem fz_X0_init_21 : XG wsX0_init RX0 21 0 3 true (tyX0 3) := ⟨RX0, TX0, 5, tyX0, iw_X0_init_X0, rfl, by decide, by decide +kernel, tyX0_ok, nmX0, rfl, rfl, by decide +kernel⟩
theorem fp_X0_init_24 : XGn wsX0_init RX0 24 0 4 (tyX0 4) := ⟨RX0, TX0, 5, tyX0, iw_X0_init_X0, rfl, by decide, by decide +kernel, tyX0_ok, nmX0, rfl, by decide +kernel⟩
set_option maxHeartbeats 4000000 in
set_option maxRecDepth 100000 in
theorem c_X0_init (l : Launch) (D : va_G) (cs : ClassId × ClassId × ClassId) (L : List Nat) (f0 : Nat → va_E) (a : Nat) (nu su sy pd : Int) (ma : a ∈ L) (fa : f0 a = .inr (0, [.int (iI 0), .int (iI 0), .int (iI 0), .int (iI 0), .int (iI 0)])) : C0 l yX0_init wsX0_init ({ frames := 1, cells := 0, slots := 0, locals := 21 } : Room) D cs [.ref a, .int (iI nu), .int (iI su), .int (iI sy), .int (iI pd)] L f0 (fun v L1 f1 => v = none ∧ L = L1 ∧ f1 a = bR (nR nu su sy pd) ∧ FR f0 f1 a a) := by
  refine C0.of (cc := cX0_init) (maxL := 5) (ret := none) (by decide) rfl (Nat.le_of_ble_eq_true rfl) ?_
  intro p e s m below meth c X hr hlk hin A hA w ls hl
  have hl : lv_has ls 5 [(0, .ref a), (1, .int (iI nu)), (2, .int (iI su)), (3, .int (iI sy)), (4, .int (iI pd))] := hl
  have fr : FR f0 f0 a a := FR.rf _ _ _
  refine x_al_n X hl 0 rfl rfl dX0_init_0 ?_
  refine x_objI X hl ⟨by decide +kernel, by decide +kernel, by decide +kernel⟩ ⟨by decide, (Nat.le_of_ble_eq_true rfl)⟩ dX0_init_1 ?_
  refine x_al_n X hl 0 rfl rfl dX0_init_4 ?_
  refine x_il_n X hl 1 rfl rfl dX0_init_5 ?_
  refine x_putF X w ma fa fz_X0_init_9 hin rfl rfl (Nat.le_of_ble_eq_true rfl) rfl dX0_init_6 (fun H locs w => ?_)
  obtain ⟨f9, w, fa, fr⟩ : ∃ f9, XW D A s.heap L f9 H locs ∧ f9 a = .inr (0, [.int (iI nu), .int (iI 0), .int (iI 0), .int (iI 0), .int (iI 0)]) ∧ FR f0 f9 a a := ⟨_, w, va_up_self _ _ _, fr.up1⟩
  refine x_al_n X hl 0 rfl rfl dX0_init_9 ?_
  refine x_il_n X hl 2 rfl rfl dX0_init_10 ?_
  refine x_putF X w ma fa fz_X0_init_15 hin rfl rfl (Nat.le_of_ble_eq_true rfl) rfl dX0_init_11 (fun H locs w => ?_)
  obtain ⟨f14, w, fa, fr⟩ : ∃ f9, XW D A s.heap L f9 H locs ∧ f9 a = .inr (0, [.int (iI nu), .int (iI su), .int (iI 0), .int (iI 0), .int (iI 0)]) ∧ FR f0 f9 a a := ⟨_, w, va_up_self _ _ _, fr.up1⟩
  refine x_al_n X hl 0 rfl rfl dX0_init_14 ?_
  refine x_il_n X hl 3 rfl rfl dX0_init_15 ?_
  refine x_putF X w ma fa fz_X0_init_18 hin rfl rfl (Nat.le_of_ble_eq_true rfl) rfl dX0_init_16 (fun H locs w => ?_)
  obtain ⟨f19, w, fa, fr⟩ : ∃ f9, XW D A s.heap L f9 H locs ∧ f9 a = .inr (0, [.int (iI nu), .int (iI su), .int (iI sy), .int (iI 0), .int (iI 0)]) ∧ FR f0 f9 a a := ⟨_, w, va_up_self _ _ _, fr.up1⟩
  refine x_al_n X hl 0 rfl rfl dX0_init_19 ?_
  refine x_il X hl 4 rfl dX0_init_20 ?_
  refine x_putF X w ma fa fz_X0_init_21 hin rfl rfl (Nat.le_of_ble_eq_true rfl) rfl dX0_init_22 (fun H locs w => ?_)
  obtain ⟨f25, w, fa, fr⟩ : ∃ f9, XW D A s.heap L f9 H locs ∧ f9 a = .inr (0, [.int (iI nu), .int (iI su), .int (iI sy), .int (iI pd), .int (iI 0)]) ∧ FR f0 f9 a a := ⟨_, w, va_up_self _ _ _, fr.up1⟩
  refine x_al_n X hl 0 rfl rfl dX0_init_25 ?_
  refine x_iconst X dX0_init_26 ?_
  refine x_put X w ma fa fp_X0_init_24 rfl rfl (Nat.le_of_ble_eq_true rfl) rfl dX0_init_27 (fun H locs w => ?_)
  obtain ⟨f30, w, fa, fr⟩ : ∃ f9, XW D A s.heap L f9 H locs ∧ f9 a = .inr (0, [.int (iI nu), .int (iI su), .int (iI sy), .int (iI pd), .int (iI (-1))]) ∧ FR f0 f9 a a := ⟨_, w, va_up_self _ _ _, fr.up1⟩
  refine x_vret X w hr hlk ⟨by decide, by decide⟩ dX0_init_30 ?_
  exact ⟨rfl, rfl, fa, fr⟩
end
section
/-! the class's methods -/
def FT (f0 f1 : Nat → va_E) (x br ba pr sz : Nat) : Prop := ∀ a, a ≠ x → a ≠ br → a ≠ ba → a ≠ pr → a ≠ sz → f1 a = f0 a
section FTS
variable {cs : ClassId × ClassId × ClassId} {L : List Nat} {f0 f f1 : Nat → va_E} {x br ba pr sz lr : Nat} {n : Int} {R : Rc} {k : Int} {z : Int → Int} {td kp pb sw : Int} {w : Int → Int}
theorem FT.rf (f : Nat → va_E) (x br ba pr sz : Nat) : FT f f x br ba pr sz := fun _ _ _ _ _ _ => rfl
theorem FT.xx {e : va_E} (h : FT f0 f x br ba pr sz) : FT f0 (va_up f x e) x br ba pr sz := fun a a1 a2 a3 a4 a5 => (va_up_ne f e a1).trans (h a a1 a2 a3 a4 a5)
theorem FT.p (h : FT f0 f x br ba pr sz) (g : FR f f1 pr sz) : FT f0 f1 x br ba pr sz := fun a a1 a2 a3 a4 a5 => (g a a4 a5).trans (h a a1 a2 a3 a4 a5)
theorem FT.b (h : FT f0 f x br ba pr sz) (g : FR f f1 br ba) : FT f0 f1 x br ba pr sz := fun a a1 a2 a3 a4 a5 => (g a a2 a3).trans (h a a1 a2 a3 a4 a5)
theorem FT.tr (h : FT f0 f x br ba pr sz) (g : FT f f1 x br ba pr sz) : FT f0 f1 x br ba pr sz := fun a a1 a2 a3 a4 a5 => (g a a1 a2 a3 a4 a5).trans (h a a1 a2 a3 a4 a5)
theorem FC.t (h : FC L f0 f x br ba pr sz lr) (g : FT f f1 x br ba pr sz) : FC L f0 f1 x br ba pr sz lr := fun a m a1 a2 a3 a4 a5 a6 a7 => (g a a1 a2 a3 a4 a5).trans (h a m a1 a2 a3 a4 a5 a6 a7)
theorem FT.bail {a : Nat} {g : Nat → Int} (h : CX cs L f x br ba pr sz lr n R k z td kp pb sw w) (hg : FT f f1 x br ba pr sz) (hf : f a = bR g) : f1 a = bR g := by
  obtain ⟨r, hr⟩ := h.fa
  obtain ⟨zz, hzz⟩ := h.pp.fs
  exact (hg a (bR_ne (by decide) hf h.fx) (bR_ne (by decide) hf h.fb) (bR_nl hf hr) (bR_ne (by decide) hf h.pp.fp) (bR_nl hf hzz)).trans hf
end FTS
theorem oLoop_t {P : (Nat → Int) → Bool} {b : Bool} {m : Nat} {p : Int} {σ : Sg} (h : P (gR σ p) = true) : oLoop P b (m + 1) p σ = ((oLoop P b m p (oTake p (oAdd b (gR σ p 1) σ))).1 + 1, (oLoop P b m p (oTake p (oAdd b (gR σ p 1) σ))).2) := if_pos h
theorem oLoop_f {P : (Nat → Int) → Bool} {b : Bool} {m : Nat} {p : Int} {σ : Sg} (h : P (gR σ p) = false) : oLoop P b (m + 1) p σ = oLoop P b m (p + 1) σ := if_neg (by rw [h]; decide)
theorem oSteps_n {m : Nat} {σ : Sg} (h : gS σ ≠ -1) : oSteps (m + 1) σ = ((oSw σ).1 + (oSteps m (oSw σ).2).1, (oSteps m (oSw σ).2).2) := if_neg h
theorem oSteps_0 {m : Nat} {σ : Sg} (h : gS σ = -1) : oSteps m σ = (0, σ) := by
  cases m with
  | zero => rfl
  | succ m => exact if_pos h
theorem pp1_m (p : Int) : (if p - 1 < 0 then 0 else p - 1) = pp1 p := by
  unfold pp1
  by_cases h9 : 1 ≤ p
  · rw [if_neg (by omega), if_pos h9]
  · rw [if_neg h9]
    by_cases h8 : p - 1 < 0
    · rw [if_pos h8]
    · rw [if_neg h8]; omega
theorem pp1_b {p n : Int} (h : 0 ≤ p ∧ p ≤ n) : 0 ≤ pp1 p ∧ pp1 p ≤ n := by
  unfold pp1
  by_cases h9 : 1 ≤ p
  · rw [if_pos h9]; omega
  · rw [if_neg h9]; omega

set_option maxHeartbeats 4000000 in
set_option maxRecDepth 100000 in
theorem c_X3_isIn (l : Launch) (D : va_G) (cs : ClassId × ClassId × ClassId) (L : List Nat) (f0 : Nat → va_E) (v lo hi : Int) (hrg : (-2147483648 ≤ v ∧ v < 2147483648) ∧ (-2147483648 ≤ lo ∧ lo < 2147483648) ∧ -2147483648 ≤ hi ∧ hi < 2147483648) : C0 l yX3_isIn wsX3_isIn ({ frames := 1, cells := 0, slots := 0, locals := 12 } : Room) D cs [.int (iI v), .int (iI lo), .int (iI hi)] L f0 (fun u L1 f1 => L = L1 ∧ f0 = f1 ∧ ((u = some (.int (iI 1)) ∧ lo ≤ v ∧ v ≤ hi) ∨ (u = some (.int (iI 0)) ∧ ¬ (lo ≤ v ∧ v ≤ hi)))) := by
  refine C0.of (cc := cX3_isIn) (maxL := 3) (ret := (some .boolean)) (by decide) rfl (Nat.le_of_ble_eq_true rfl) ?_
  intro p e s m below meth c X hr hlk hin A hA w ls hl
  have hl : lv_has ls 3 [(0, .int (iI v)), (1, .int (iI lo)), (2, .int (iI hi))] := hl
  refine x_il_n X hl 0 rfl rfl dX3_isIn_0 ?_
  refine x_il_n X hl 1 rfl rfl dX3_isIn_1 ?_
  refine x_icmp_lt (tgt := 14) X (by omega) (by decide) dX3_isIn_2 (fun hb2 => ?_) (fun hb2 => ?_)
  · refine x_iconst X dX3_isIn_14 ?_
    refine x_zret X w hr hlk ⟨by decide, by decide⟩ (by omega) dX3_isIn_15 ?_
    exact ⟨rfl, rfl, Or.inr ⟨rfl, by omega⟩⟩
  · refine x_il_n X hl 0 rfl rfl dX3_isIn_5 ?_
    refine x_il_n X hl 2 rfl rfl dX3_isIn_6 ?_
    refine x_icmp_gt (tgt := 14) X (by omega) (by decide) dX3_isIn_7 (fun hb7 => ?_) (fun hb7 => ?_)
    · refine x_iconst X dX3_isIn_14 ?_
      refine x_zret X w hr hlk ⟨by decide, by decide⟩ (by omega) dX3_isIn_15 ?_
      exact ⟨rfl, rfl, Or.inr ⟨rfl, by omega⟩⟩
    · refine x_iconst X dX3_isIn_10 ?_
      refine x_goto (tgt := 15) X (by decide) dX3_isIn_11 ?_
      refine x_zret X w hr hlk ⟨by decide, by decide⟩ (by omega) dX3_isIn_15 ?_
      exact ⟨rfl, rfl, Or.inl ⟨rfl, by omega⟩⟩

theorem k_X3_requireCase_X3_isIn : XS wsX3_requireCase RX3 35 yX3_isIn cX3_isIn 3 (some .boolean) wsX3_isIn 3 := ⟨gX3_requireCase_X3_isIn, ⟨_, rfl⟩, by decide, by decide, by decide +kernel⟩
theorem xt_X3_requireCase_166 : XT wsX3_requireCase RX3 39 166 43 XIA "case out of range" := ⟨by decide +kernel, by decide +kernel, by decide +kernel, by decide, xt_g43.1, xt_g43.2, by decide, rfl⟩
set_option maxHeartbeats 4000000 in
set_option maxRecDepth 100000 in
theorem c_X3_requireCase (l : Launch) (D : va_G) (cs : ClassId × ClassId × ClassId) (hl9 : l.stackTraces = false) (L : List Nat) (f0 : Nat → va_E) (nu : Int) (hrg : -2147483648 ≤ nu ∧ nu < 2147483648) : C1 l yX3_requireCase wsX3_requireCase ({ frames := 6, cells := 1, slots := 6, locals := 90 } : Room) D cs [.int (iI nu)] L f0 (fun v L1 f1 => v = none ∧ L = L1 ∧ f0 = f1 ∧ 0 ≤ nu ∧ nu ≤ 999) (fun E => ¬ (0 ≤ nu ∧ nu ≤ 999) ∧ E = XIA) := by
  refine C1.of (cc := cX3_requireCase) (maxL := 1) (ret := none) (by decide) rfl (Nat.le_of_ble_eq_true rfl) ?_
  intro p e s m below meth c X hr hlk hout hV A hA hZ w ls hl
  have hl : lv_has ls 1 [(0, .int (iI nu))] := hl
  refine x_il_n X hl 0 rfl rfl dX3_requireCase_0 ?_
  refine x_iconst X dX3_requireCase_1 ?_
  refine x_sipush X (by decide) dX3_requireCase_2 ?_
  refine x_callS (As := [.int (iI nu), .int (iI 0), .int (iI 999)]) (rest := []) (c1 := 0) (s1 := 0) X w hA (c_X3_isIn l D cs L f0 nu 0 999 (by omega)) k_X3_requireCase_X3_isIn (by decide) rfl hl rfl (Nat.le_of_ble_eq_true rfl) (by decide) rfl rfl dX3_requireCase_5 (fun v L1 f1 H locs w hp => ?_)
  obtain ⟨rfl, rfl, hp⟩ := hp
  rcases hp with ⟨rfl, hq5⟩ | ⟨rfl, hq5⟩
  · show W p l e _ s m _ below meth c _ _ _ _ _ (F0 m 8 ls [.int (iI 1)])
    refine x_ifT_ne (tgt := 21) X (by decide) (by decide) (by decide) dX3_requireCase_8 ?_
    refine vx_ret ?_
    refine x_vret X w hr hlk ⟨by decide, by decide⟩ dX3_requireCase_21 ?_
    exact ⟨rfl, rfl, rfl, by omega⟩
  · show W p l e _ s m _ below meth c _ _ _ _ _ (F0 m 8 ls [.int (iI 0)])
    refine x_ifF_ne (tgt := 21) X (by decide) (by decide) (by decide) dX3_requireCase_8 ?_
    refine x_throw X w hl9 hV hZ hlk hout hl xt_X3_requireCase_166 dX3_requireCase_11 dX3_requireCase_14 dX3_requireCase_15 dX3_requireCase_17 dX3_requireCase_20 ⟨by decide, (Nat.le_of_ble_eq_true rfl), by decide, by decide⟩ ⟨by decide, by decide⟩ ?_
    exact ⟨by omega, rfl⟩

theorem iw_X3_pageToPutOn_X3 : ∀ w ∈ wsX30, w ∈ wsX3_pageToPutOn := by decide +kernel
theorem fq_X3_pageToPutOn_19 : XF wsX3_pageToPutOn RX3 19 3 1 := ⟨RX3, TX3, 7, iw_X3_pageToPutOn_X3, rfl, by decide, by decide +kernel⟩
theorem k_X3_pageToPutOn_X2_pageWith : XV wsX3_pageToPutOn RX3 152 RX2 yX2_pageWith cX2_pageWith 4 (some .int) wsX2_pageWith 1 := ⟨gX3_pageToPutOn_X2_pageWith, ⟨_, rfl⟩, rfl, by decide, by decide, by decide +kernel⟩
set_option maxHeartbeats 4000000 in
set_option maxRecDepth 100000 in
theorem c_X3_pageToPutOn (l : Launch) (D : va_G) (cs : ClassId × ClassId × ClassId) (L : List Nat) (f0 : Nat → va_E) (x br ba pr sz lr : Nat) (k : Int) (z : Int → Int) (td kp pb sw pl : Int) (hmx : x ∈ L) (hfx : f0 x = .inr (3, [.ref br, .ref pr, .ref lr, .int (iI td), .int (iI kp), .int (iI pb), .int (iI sw)])) (hPP : PP cs L f0 pr sz k z) (hpl : (0 ≤ k ∧ k ≤ 80) ∧ 0 ≤ pl ∧ pl ≤ 1000) (hz4 : ∀ j, 0 ≤ j → j < k → 0 ≤ z j ∧ z j ≤ 4) : C0 l yX3_pageToPutOn wsX3_pageToPutOn ({ frames := 4, cells := 0, slots := 0, locals := 77 } : Room) D cs [.ref x, .int (iI pl)] L f0 (fun v L1 f1 => L = L1 ∧ f0 = f1 ∧ v = some (.int (iI (pw z k (pp1 pl))))) := by
  refine C0.of (cc := cX3_pageToPutOn) (maxL := 2) (ret := (some .int)) (by decide) rfl (Nat.le_of_ble_eq_true rfl) ?_
  intro p e s m below meth c X hr hlk hin A hA w ls hl
  have hl : lv_has ls 2 [(0, .ref x), (1, .int (iI pl))] := hl
  refine x_al_n X hl 0 rfl rfl dX3_pageToPutOn_0 ?_
  refine x_get X w hmx hfx fq_X3_pageToPutOn_19 rfl dX3_pageToPutOn_1 ?_
  refine x_il_n X hl 1 rfl rfl dX3_pageToPutOn_4 ?_
  refine x_iconst X dX3_pageToPutOn_5 ?_
  refine x_isub X dX3_pageToPutOn_6 ?_
  refine x_iconst X dX3_pageToPutOn_7 ?_
  refine x_max X hl (by omega) ⟨by decide +kernel, by decide +kernel, by decide +kernel, by decide +kernel⟩ ⟨by decide, (Nat.le_of_ble_eq_true rfl), by decide, by decide⟩ dX3_pageToPutOn_8 ?_
  rw [show (if pl - 1 < 0 then 0 else pl - 1) = pp1 pl from pp1_m pl]
  have hpp := pp1_b (n := 1000) hpl.2
  refine x_callV (As := [.int (iI (pp1 pl))]) (rest := []) (c1 := 0) (s1 := 0) X w hA (c_X2_pageWith l D cs L f0 pr sz k z (pp1 pl) hPP (by omega) hz4) k_X3_pageToPutOn_X2_pageWith (by decide) hPP.mp hPP.fp rfl rfl rfl hl rfl (Nat.le_of_ble_eq_true rfl) (by decide) rfl rfl dX3_pageToPutOn_11 (fun v L1 f1 H locs w hp => ?_)
  obtain ⟨rfl, rfl, hp⟩ := hp
  subst hp
  show W p l e _ s m _ below meth c _ _ _ _ _ (F0 m 14 ls [.int (iI (pw z k (pp1 pl)))])
  refine x_iret X w hr hlk ⟨by decide, by decide⟩ dX3_pageToPutOn_14 ?_
  exact ⟨rfl, rfl, rfl⟩

theorem iw_X3_takeOut_X3 : ∀ w ∈ wsX30, w ∈ wsX3_takeOut := by decide +kernel
theorem fq_X3_takeOut_19 : XF wsX3_takeOut RX3 19 3 1 := ⟨RX3, TX3, 7, iw_X3_takeOut_X3, rfl, by decide, by decide +kernel⟩
theorem k_X3_takeOut_X2_pageWith : XV wsX3_takeOut RX3 152 RX2 yX2_pageWith cX2_pageWith 4 (some .int) wsX2_pageWith 1 := ⟨gX3_takeOut_X2_pageWith, ⟨_, rfl⟩, rfl, by decide, by decide, by decide +kernel⟩
theorem k_X3_takeOut_X2_takeFrom : XV wsX3_takeOut RX3 174 RX2 yX2_takeFrom cX2_takeFrom 2 none wsX2_takeFrom 1 := ⟨gX3_takeOut_X2_takeFrom, ⟨_, rfl⟩, rfl, by decide, by decide, by decide +kernel⟩
theorem fq_X3_takeOut_10 : XF wsX3_takeOut RX3 10 3 0 := ⟨RX3, TX3, 7, iw_X3_takeOut_X3, rfl, by decide, by decide +kernel⟩
theorem k_X3_takeOut_X1_remove : XV wsX3_takeOut RX3 177 RX1 yX1_remove cX1_remove 3 none wsX1_remove 1 := ⟨gX3_takeOut_X1_remove, ⟨_, rfl⟩, rfl, by decide, by decide, by decide +kernel⟩
theorem fq_X3_takeOut_27 : XF wsX3_takeOut RX3 27 3 6 := ⟨RX3, TX3, 7, iw_X3_takeOut_X3, rfl, by decide, by decide +kernel⟩
theorem k_X3_takeOut_X2_count : XV wsX3_takeOut RX3 87 RX2 yX2_count cX2_count 1 (some .int) wsX2_count 0 := ⟨gX3_takeOut_X2_count, ⟨_, rfl⟩, rfl, by decide, by decide, by decide +kernel⟩
theorem fp_X3_takeOut_27 : XGn wsX3_takeOut RX3 27 3 6 (tyX3 6) := ⟨RX3, TX3, 7, tyX3, iw_X3_takeOut_X3, rfl, by decide, by decide +kernel, tyX3_ok, nmX3, rfl, by decide +kernel⟩
set_option maxHeartbeats 4000000 in
set_option maxRecDepth 100000 in
theorem c_X3_takeOut (l : Launch) (D : va_G) (cs : ClassId × ClassId × ClassId) (L : List Nat) (f0 : Nat → va_E) (x br ba pr sz lr : Nat) (σ : Sg) (pl : Int) (hC : CC cs L f0 x br ba pr sz lr σ) (hI : Inv σ) (hpl : 0 ≤ pl ∧ pl < gN σ) : C0 l yX3_takeOut wsX3_takeOut ({ frames := 6, cells := 0, slots := 0, locals := 119 } : Room) D cs [.ref x, .int (iI pl)] L f0 (fun v L1 f1 => v = none ∧ L = L1 ∧ FT f0 f1 x br ba pr sz ∧ CC cs L1 f1 x br ba pr sz lr (oTake pl σ)) := by
  refine C0.of (cc := cX3_takeOut) (maxL := 2) (ret := none) (by decide) rfl (Nat.le_of_ble_eq_true rfl) ?_
  intro p e s m below meth c X hr hlk hin A hA w ls hl
  have hl : lv_has ls 2 [(0, .ref x), (1, .int (iI pl))] := hl
  have hn := hI.n; have hk := hI.k; have ht := hI.t; have hsw := hI.s; have hz4 := hI.z4
  have hF : FT f0 f0 x br ba pr sz := FT.rf _ _ _ _ _ _
  have hpg := hI.pgr hpl
  have htk := (tk_ok hI.z1 hpg).1
  refine x_al_n X hl 0 rfl rfl dX3_takeOut_0 ?_
  refine x_get X w hC.mx hC.fx fq_X3_takeOut_19 rfl dX3_takeOut_1 ?_
  refine x_al_n X hl 0 rfl rfl dX3_takeOut_4 ?_
  refine x_get X w hC.mx hC.fx fq_X3_takeOut_19 rfl dX3_takeOut_5 ?_
  refine x_il_n X hl 1 rfl rfl dX3_takeOut_8 ?_
  refine x_callV (As := [.int (iI pl)]) (rest := [.ref pr]) (c1 := 0) (s1 := 0) X w hA (c_X2_pageWith l D cs L f0 pr sz (gK σ) (gZ σ) pl hC.pp (by omega) hz4) k_X3_takeOut_X2_pageWith (by decide) hC.pp.mp hC.pp.fp rfl rfl rfl hl rfl (Nat.le_of_ble_eq_true rfl) (by decide) rfl rfl dX3_takeOut_9 (fun v L1 f1 H locs w hp => ?_)
  obtain ⟨rfl, rfl, hp⟩ := hp
  subst hp
  show W p l e _ s m _ below meth c _ _ _ _ _ (F0 m 12 ls [.int (iI (pw (gZ σ) (gK σ) pl)), .ref pr])
  refine x_callV (As := [.int (iI (pw (gZ σ) (gK σ) pl))]) (rest := []) (c1 := 0) (s1 := 0) X w hA (c_X2_takeFrom l D cs L f0 pr sz (gK σ) (gZ σ) (pw (gZ σ) (gK σ) pl) hC.pp (by omega) hz4) k_X3_takeOut_X2_takeFrom (by decide) hC.pp.mp hC.pp.fp rfl rfl rfl hl rfl (Nat.le_of_ble_eq_true rfl) (by decide) rfl rfl dX3_takeOut_12 (fun v L1 f1 H locs w hp => ?_)
  obtain ⟨rfl, rfl, hfr, hPP⟩ := hp
  have hC := hC.p hPP hfr
  have hF := hF.p hfr
  show W p l e _ s m _ below meth c _ _ _ _ _ (F0 m 15 ls [])
  refine x_al_n X hl 0 rfl rfl dX3_takeOut_15 ?_
  refine x_get X w hC.mx hC.fx fq_X3_takeOut_10 rfl dX3_takeOut_16 ?_
  refine x_il_n X hl 1 rfl rfl dX3_takeOut_19 ?_
  obtain ⟨r20, hRB, hO⟩ := hC.rb
  refine x_callV (As := [.int (iI pl)]) (rest := []) (c1 := 0) (s1 := 0) X w hA (c_X1_remove l D cs L f1 br ba (gN σ) r20 (gR σ) pl hRB hO (by omega)) k_X3_takeOut_X1_remove (by decide) hC.mb hC.fb rfl rfl rfl hl rfl (Nat.le_of_ble_eq_true rfl) (by decide) rfl rfl dX3_takeOut_20 (fun v L1 f1 H locs w hp => ?_)
  obtain ⟨rfl, rfl, hfr, r1, hRB, hO⟩ := hp
  have hC := hC.b hRB hO hfr
  have hF := hF.b hfr
  show W p l e _ s m _ below meth c _ _ _ _ _ (F0 m 23 ls [])
  refine x_al_n X hl 0 rfl rfl dX3_takeOut_23 ?_
  refine x_get X w hC.mx hC.fx fq_X3_takeOut_27 rfl dX3_takeOut_24 ?_
  refine x_al_n X hl 0 rfl rfl dX3_takeOut_27 ?_
  refine x_get X w hC.mx hC.fx fq_X3_takeOut_19 rfl dX3_takeOut_28 ?_
  refine x_callV (As := []) (rest := [.int (iI (gS σ))]) (c1 := 0) (s1 := 0) X w hA (c_X2_count l D cs L f1 pr sz (tkK (gZ σ) (gK σ) (pw (gZ σ) (gK σ) pl)) (tkZ (gZ σ) (gK σ) (pw (gZ σ) (gK σ) pl))  hC.pp) k_X3_takeOut_X2_count (by decide) hC.pp.mp hC.pp.fp rfl rfl rfl hl rfl (Nat.le_of_ble_eq_true rfl) (by decide) rfl rfl dX3_takeOut_31 (fun v L1 f1 H locs w hp => ?_)
  obtain ⟨rfl, rfl, hp⟩ := hp
  subst hp
  show W p l e _ s m _ below meth c _ _ _ _ _ (F0 m 34 ls [.int (iI (tkK (gZ σ) (gK σ) (pw (gZ σ) (gK σ) pl))), .int (iI (gS σ))])
  refine x_icmp_lt (tgt := 42) X (by omega) (by decide) dX3_takeOut_34 (fun hb34 => ?_) (fun hb34 => ?_)
  · refine x_vret X w hr hlk ⟨by decide, by decide⟩ dX3_takeOut_42 ?_
    refine ⟨rfl, rfl, hF, ?_⟩
    have he9 : gS (oTake pl σ) = gS σ := if_neg (by omega)
    show CX cs L _ x br ba pr sz lr _ _ _ _ _ _ _ (gS (oTake pl σ)) _
    rw [he9]; exact hC
  · refine x_al_n X hl 0 rfl rfl dX3_takeOut_37 ?_
    refine x_iconst X dX3_takeOut_38 ?_
    refine x_put X w hC.mx hC.fx fp_X3_takeOut_27 rfl rfl (Nat.le_of_ble_eq_true rfl) rfl dX3_takeOut_39 (fun H locs w => ?_)
    obtain ⟨f42, w, hC, hF⟩ : ∃ f9, XW D A s.heap L f9 H locs ∧ CX cs L f9 x br ba pr sz lr (gN σ - 1) (del (gR σ) pl) (tkK (gZ σ) (gK σ) (pw (gZ σ) (gK σ) pl)) (tkZ (gZ σ) (gK σ) (pw (gZ σ) (gK σ) pl)) (gT σ) (gP σ) (gB σ) (-1) (gW σ) ∧ FT f0 f9 x br ba pr sz := ⟨_, w, hC.fld _ _ _ _, hF.xx⟩
    refine x_vret X w hr hlk ⟨by decide, by decide⟩ dX3_takeOut_42 ?_
    refine ⟨rfl, rfl, hF, ?_⟩
    have he9 : gS (oTake pl σ) = -1 := if_pos (by omega)
    show CX cs L _ x br ba pr sz lr _ _ _ _ _ _ _ (gS (oTake pl σ)) _
    rw [he9]; exact hC

theorem iw_X3_keepOverdue_X3 : ∀ w ∈ wsX30, w ∈ wsX3_keepOverdue := by decide +kernel
theorem fq_X3_keepOverdue_10 : XF wsX3_keepOverdue RX3 10 3 0 := ⟨RX3, TX3, 7, iw_X3_keepOverdue_X3, rfl, by decide, by decide +kernel⟩
theorem k_X3_keepOverdue_X1_count : XV wsX3_keepOverdue RX3 50 RX1 yX1_count cX1_count 1 (some .int) wsX1_count 0 := ⟨gX3_keepOverdue_X1_count, ⟨_, rfl⟩, rfl, by decide, by decide, by decide +kernel⟩
theorem k_X3_keepOverdue_X1_bailAt : XV wsX3_keepOverdue RX3 113 RX1 yX1_bailAt cX1_bailAt 2 (some (.object "PageBail$Bail")) wsX1_bailAt 1 := ⟨gX3_keepOverdue_X1_bailAt, ⟨_, rfl⟩, rfl, by decide, by decide, by decide +kernel⟩
theorem fq_X3_keepOverdue_77 : XF wsX3_keepOverdue RX3 77 3 3 := ⟨RX3, TX3, 7, iw_X3_keepOverdue_X3, rfl, by decide, by decide +kernel⟩
theorem k_X3_keepOverdue_X0_isOverdue : XV wsX3_keepOverdue RX3 180 RX0 yX0_isOverdue cX0_isOverdue 2 (some .boolean) wsX0_isOverdue 1 := ⟨gX3_keepOverdue_X0_isOverdue, ⟨_, rfl⟩, rfl, by decide, by decide, by decide +kernel⟩
theorem fq_X3_keepOverdue_125 : XF wsX3_keepOverdue RX3 125 3 4 := ⟨RX3, TX3, 7, iw_X3_keepOverdue_X3, rfl, by decide, by decide +kernel⟩
theorem iw_X3_keepOverdue_X0 : ∀ w ∈ wsX00, w ∈ wsX3_keepOverdue := by decide +kernel
theorem fq_X3_keepOverdue_97 : XF wsX3_keepOverdue RX3 97 0 1 := ⟨RX0, TX0, 5, iw_X3_keepOverdue_X0, rfl, by decide, by decide +kernel⟩
theorem fp_X3_keepOverdue_125 : XGn wsX3_keepOverdue RX3 125 3 4 (tyX3 4) := ⟨RX3, TX3, 7, tyX3, iw_X3_keepOverdue_X3, rfl, by decide, by decide +kernel, tyX3_ok, nmX3, rfl, by decide +kernel⟩
theorem k_X3_keepOverdue_X3_takeOut : XV wsX3_keepOverdue RX3 103 RX3 yX3_takeOut cX3_takeOut 2 none wsX3_takeOut 1 := ⟨gX3_keepOverdue_X3_takeOut, ⟨_, rfl⟩, rfl, by decide, by decide, by decide +kernel⟩
set_option maxHeartbeats 4000000 in
set_option maxRecDepth 100000 in
theorem c_X3_keepOverdue (l : Launch) (D : va_G) (cs : ClassId × ClassId × ClassId) (L : List Nat) (f0 : Nat → va_E) (x br ba pr sz lr : Nat) (σ : Sg) (hC : CC cs L f0 x br ba pr sz lr σ) (hI : Inv σ) : C0 l yX3_keepOverdue wsX3_keepOverdue ({ frames := 7, cells := 0, slots := 0, locals := 140 } : Room) D cs [.ref x] L f0 (fun v L1 f1 => v = some (.int (iI (oOv σ).1)) ∧ L = L1 ∧ FT f0 f1 x br ba pr sz ∧ CC cs L1 f1 x br ba pr sz lr (oOv σ).2) := by
  refine C0.of (cc := cX3_keepOverdue) (maxL := 5) (ret := (some .int)) (by decide) rfl (Nat.le_of_ble_eq_true rfl) ?_
  intro p e s m below meth c X hr hlk hin A hA w ls hl
  have hl : lv_has ls 5 [(0, .ref x)] := hl
  have hn := hI.n; have hk := hI.k; have ht := hI.t; have hsw := hI.s; have hz4 := hI.z4
  have hF : FT f0 f0 x br ba pr sz := FT.rf _ _ _ _ _ _
  refine x_iconst X dX3_keepOverdue_0 ?_
  refine x_is_n (lv' := [(1, .int (iI 0)), (0, .ref x)]) X hl rfl (by decide) rfl dX3_keepOverdue_1 (fun ls hl => ?_)
  refine x_iconst X dX3_keepOverdue_2 ?_
  refine x_is_n (lv' := [(2, .int (iI 0)), (1, .int (iI 0)), (0, .ref x)]) X hl rfl (by decide) rfl dX3_keepOverdue_3 (fun ls hl => ?_)
  refine x_al_n X hl 2 rfl rfl dX3_keepOverdue_4 ?_
  refine x_get X w hC.mx hC.fx fq_X3_keepOverdue_10 rfl dX3_keepOverdue_5 ?_
  obtain ⟨r8, hRB, hO⟩ := hC.rb
  refine x_callV (As := []) (rest := []) (c1 := 0) (s1 := 0) X w hA (c_X1_count l D cs L f0 br ba (gN σ) r8 (gR σ)  hRB hO) k_X3_keepOverdue_X1_count (by decide) hC.mb hC.fb rfl rfl rfl hl rfl (Nat.le_of_ble_eq_true rfl) (by decide) rfl rfl dX3_keepOverdue_8 (fun v L1 f1 H locs w hp => ?_)
  obtain ⟨rfl, rfl, hp⟩ := hp
  subst hp
  show W p l e _ s m _ below meth c _ _ _ _ _ (F0 m 11 ls [.int (iI (gN σ))])
  refine x_is_n (lv' := [(3, .int (iI (gN σ))), (2, .int (iI 0)), (1, .int (iI 0)), (0, .ref x)]) X hl rfl (by decide) rfl dX3_keepOverdue_11 (fun ls hl => ?_)
  have loop12 : ∀ (N9 : Nat) (σ2 : Sg) (f1 : Nat → va_E) (pl : Int) (tk : Int) (mm : Nat) (H : Heap) (locs : List Loc) (ls : Array Slot), mm < N9 → (Inv σ2) → (CC cs L f1 x br ba pr sz lr σ2) → (FT f0 f1 x br ba pr sz) → (0 ≤ pl ∧ pl + (mm : Int) = gN σ2) → (gT σ2 = gT σ) → (tk + (oLoop (ovP (gT σ)) true mm pl σ2).1 = (oOv σ).1) → ((oLoop (ovP (gT σ)) true mm pl σ2).2 = (oOv σ).2) → XW D A s.heap L f1 H locs → lv_has ls 5 [(0, .ref x), (1, .int (iI tk)), (2, .int (iI pl)), (3, .int (iI (mm : Int)))] → W p l e ({ frames := 7, cells := 0, slots := 0, locals := 140 } : Room) s m ([.ref x] : List Value).toArray below meth c H locs 0 0 (MQ below (CQ D cs A (fun v L1 f1 => v = some (.int (iI (oOv σ).1)) ∧ L = L1 ∧ FT f0 f1 x br ba pr sz ∧ CC cs L1 f1 x br ba pr sz lr (oOv σ).2)) ([.ref x] : List Value).toArray s 0 0 A) (F0 m 12 ls []) := by
    intro N9
    induction N9 with
    | zero => intro σ2 f1 pl tk mm H locs ls h9; exact absurd h9 (Nat.not_lt_zero _)
    | succ N9 ih12 =>
      intro σ2 f1 pl tk mm H locs ls h9 hI2 hC hF hp0 hT hQ hQ2 w hl
      have hn := hI2.n; have hk := hI2.k; have ht := hI2.t; have hsw := hI2.s; have hz4 := hI2.z4
      refine x_il_n X hl 3 rfl rfl dX3_keepOverdue_12 ?_
      refine x_if_le (tgt := 77) X (by omega) (by decide) dX3_keepOverdue_13 (fun hb13 => ?_) (fun hb13 => ?_)
      · refine x_il_n X hl 1 rfl rfl dX3_keepOverdue_77 ?_
        refine x_iret X w hr hlk ⟨by decide, by decide⟩ dX3_keepOverdue_78 ?_
        have he9 : mm = 0 := by omega
        subst he9
        have hQ : tk + 0 = (oOv σ).1 := hQ
        rw [Int.add_zero] at hQ
        have hQ2 : σ2 = (oOv σ).2 := hQ2
        rw [← hQ, ← hQ2]
        exact ⟨rfl, rfl, hF, hC⟩
      · obtain ⟨m1, rfl⟩ : ∃ m1 : Nat, mm = m1 + 1 := ⟨mm - 1, by omega⟩
        have hrec := hI2.r pl (by omega) (by omega)
        refine x_al_n X hl 0 rfl rfl dX3_keepOverdue_16 ?_
        refine x_get X w hC.mx hC.fx fq_X3_keepOverdue_10 rfl dX3_keepOverdue_17 ?_
        refine x_il_n X hl 2 rfl rfl dX3_keepOverdue_20 ?_
        obtain ⟨r21, hRB, hO⟩ := hC.rb
        refine x_callV (As := [.int (iI pl)]) (rest := []) (c1 := 0) (s1 := 0) X w hA (c_X1_bailAt l D cs L f1 br ba (gN σ2) r21 (gR σ2) pl hRB hO (by omega)) k_X3_keepOverdue_X1_bailAt (by decide) hC.mb hC.fb rfl rfl rfl hl rfl (Nat.le_of_ble_eq_true rfl) (by decide) rfl rfl dX3_keepOverdue_21 (fun v L1 f1 H locs w hp => ?_)
        obtain ⟨rfl, rfl, hp⟩ := hp
        rcases hp with ⟨a21, rfl, ha21, hm21, hf21, hq21⟩ | ⟨rfl, hq21⟩
        · show W p l e _ s m _ below meth c _ _ _ _ _ (F0 m 24 ls [.ref a21])
          refine x_as (lv' := [(4, .ref a21), (0, .ref x), (1, .int (iI tk)), (2, .int (iI pl)), (3, .int (iI ((m1 + 1 : Nat) : Int)))]) X hl (by decide) rfl dX3_keepOverdue_24 (fun ls hl => ?_)
          refine x_al X hl 0 rfl dX3_keepOverdue_26 ?_
          refine x_ifnull_r X dX3_keepOverdue_28 ?_
          refine x_al X hl 0 rfl dX3_keepOverdue_31 ?_
          refine x_al_n X hl 1 rfl rfl dX3_keepOverdue_33 ?_
          refine x_get X w hC.mx hC.fx fq_X3_keepOverdue_77 rfl dX3_keepOverdue_34 ?_
          refine x_callV (As := [.int (iI (gT σ2))]) (rest := []) (c1 := 0) (s1 := 0) X w hA (c_X0_isOverdue l D cs L f1 a21 ((gR σ2) pl) (gT σ2) hm21 hf21 (by omega)) k_X3_keepOverdue_X0_isOverdue (by decide) hm21 hf21 rfl rfl rfl hl rfl (Nat.le_of_ble_eq_true rfl) (by decide) rfl rfl dX3_keepOverdue_37 (fun v L1 f1 H locs w hp => ?_)
          obtain ⟨rfl, rfl, hp⟩ := hp
          rcases hp with ⟨rfl, hq37⟩ | ⟨rfl, hq37⟩
          · show W p l e _ s m _ below meth c _ _ _ _ _ (F0 m 40 ls [.int (iI 1)])
            refine x_ifF_eq (tgt := 68) X (by decide) (by decide) (by decide) dX3_keepOverdue_40 ?_
            refine x_al_n X hl 1 rfl rfl dX3_keepOverdue_43 ?_
            refine x_dup X rfl dX3_keepOverdue_44 ?_
            refine x_get X w hC.mx hC.fx fq_X3_keepOverdue_125 rfl dX3_keepOverdue_45 ?_
            refine x_al X hl 0 rfl dX3_keepOverdue_48 ?_
            refine x_get X w hm21 hf21 fq_X3_keepOverdue_97 rfl dX3_keepOverdue_50 ?_
            refine x_iadd X dX3_keepOverdue_53 ?_
            refine x_put X w hC.mx hC.fx fp_X3_keepOverdue_125 rfl rfl (Nat.le_of_ble_eq_true rfl) rfl dX3_keepOverdue_54 (fun H locs w => ?_)
            have hCo := hC
            obtain ⟨f57, w, hC, hF, hFx⟩ : ∃ f9, XW D A s.heap L f9 H locs ∧ CX cs L f9 x br ba pr sz lr (gN σ2) (gR σ2) (gK σ2) (gZ σ2) (gT σ2) ((gP σ2) + ((gR σ2) pl 1)) (gB σ2) (gS σ2) (gW σ2) ∧ FT f0 f9 x br ba pr sz ∧ FT f1 f9 x br ba pr sz := ⟨_, w, hC.fld _ _ _ _, hF.xx, (FT.rf _ _ _ _ _ _).xx⟩
            have hf21 := FT.bail hCo hFx hf21
            refine x_al_n X hl 1 rfl rfl dX3_keepOverdue_57 ?_
            refine x_il_n X hl 3 rfl rfl dX3_keepOverdue_58 ?_
            refine x_callV (As := [.int (iI pl)]) (rest := []) (c1 := 0) (s1 := 0) X w hA (c_X3_takeOut l D cs L f57 x br ba pr sz lr (oAdd true ((gR σ2) pl 1) σ2) pl hC hI2 (show 0 ≤ pl ∧ pl < gN σ2 from by omega)) k_X3_keepOverdue_X3_takeOut (by decide) hC.mx hC.fx rfl rfl rfl hl rfl (Nat.le_of_ble_eq_true rfl) (by decide) rfl rfl dX3_keepOverdue_59 (fun v L1 f1 H locs w hp => ?_)
            obtain ⟨rfl, rfl, hFT, hC2⟩ := hp
            have hf21 := FT.bail hC hFT hf21
            have hC := hC2
            have hF := hF.tr hFT
            have hI59 : Inv (oTake pl (oAdd true ((gR σ2) pl 1) σ2)) := Inv.take hI2 (show 0 ≤ pl ∧ pl < gN σ2 from by omega)
            show W p l e _ s m _ below meth c _ _ _ _ _ (F0 m 62 ls [])
            refine x_iinc (lv' := [(1, .int (iI (tk + 1))), (4, .ref a21), (0, .ref x), (2, .int (iI pl)), (3, .int (iI ((m1 + 1 : Nat) : Int)))]) X hl 2 rfl (by decide) rfl dX3_keepOverdue_62 (fun ls hl => ?_)
            refine x_goto (tgt := 71) X (by decide) dX3_keepOverdue_65 ?_
            refine x_iinc (lv' := [(3, .int (iI (((m1 + 1 : Nat) : Int) + (-1)))), (1, .int (iI (tk + 1))), (4, .ref a21), (0, .ref x), (2, .int (iI pl))]) X hl 4 rfl (by decide) rfl dX3_keepOverdue_71 (fun ls hl => ?_)
            rw [show ((m1 + 1 : Nat) : Int) + (-1) = (m1 : Int) from by omega] at hl
            have hN1 : gN (oTake pl (oAdd true (gR σ2 pl 1) σ2)) = gN σ2 - 1 := rfl
            rw [oLoop_t (by rw [← hT]; exact hq37)] at hQ hQ2
            refine x_goto (tgt := 12) X (by decide) dX3_keepOverdue_74 ?_
            refine ih12 _ f1 pl (tk + 1) m1 _ _ _ (by omega) hI59 hC hF (⟨by omega, by rw [hN1]; omega⟩) hT (by rw [← hQ]; show _ = tk + (_ + 1); omega) hQ2 w (lv_sub hl [3, 1, 4, 0] rfl)
          · show W p l e _ s m _ below meth c _ _ _ _ _ (F0 m 40 ls [.int (iI 0)])
            refine x_ifT_eq (tgt := 68) X (by decide) (by decide) (by decide) dX3_keepOverdue_40 ?_
            refine x_iinc (lv' := [(2, .int (iI (pl + 1))), (4, .ref a21), (0, .ref x), (1, .int (iI tk)), (3, .int (iI ((m1 + 1 : Nat) : Int)))]) X hl 3 rfl (by decide) rfl dX3_keepOverdue_68 (fun ls hl => ?_)
            refine x_iinc (lv' := [(3, .int (iI (((m1 + 1 : Nat) : Int) + (-1)))), (2, .int (iI (pl + 1))), (4, .ref a21), (0, .ref x), (1, .int (iI tk))]) X hl 4 rfl (by decide) rfl dX3_keepOverdue_71 (fun ls hl => ?_)
            rw [show ((m1 + 1 : Nat) : Int) + (-1) = (m1 : Int) from by omega] at hl
            rw [oLoop_f (by rw [← hT]; exact hq37)] at hQ hQ2
            refine x_goto (tgt := 12) X (by decide) dX3_keepOverdue_74 ?_
            refine ih12 σ2 f1 (pl + 1) tk m1 _ _ _ (by omega) hI2 hC hF (by omega) hT hQ hQ2 w (lv_sub hl [3, 4, 1, 0] rfl)
        · exfalso; omega
  rw [show (gN σ) = ((gN σ).toNat : Int) from by omega] at hl
  refine loop12 _ σ f0 0 0 ((gN σ).toNat) _ _ _ (Nat.lt_succ_self _) hI hC hF (by omega) rfl (Int.zero_add _) rfl w (lv_sub hl [3, 2, 1, 0] rfl)

theorem iw_X3_sweepOn_X3 : ∀ w ∈ wsX30, w ∈ wsX3_sweepOn := by decide +kernel
theorem fq_X3_sweepOn_19 : XF wsX3_sweepOn RX3 19 3 1 := ⟨RX3, TX3, 7, iw_X3_sweepOn_X3, rfl, by decide, by decide +kernel⟩
theorem fq_X3_sweepOn_27 : XF wsX3_sweepOn RX3 27 3 6 := ⟨RX3, TX3, 7, iw_X3_sweepOn_X3, rfl, by decide, by decide +kernel⟩
theorem k_X3_sweepOn_X2_has : XV wsX3_sweepOn RX3 135 RX2 yX2_has cX2_has 2 (some .boolean) wsX2_has 1 := ⟨gX3_sweepOn_X2_has, ⟨_, rfl⟩, rfl, by decide, by decide, by decide +kernel⟩
theorem k_X3_sweepOn_X2_sizeOf : XV wsX3_sweepOn RX3 66 RX2 yX2_sizeOf cX2_sizeOf 2 (some .int) wsX2_sizeOf 1 := ⟨gX3_sweepOn_X2_sizeOf, ⟨_, rfl⟩, rfl, by decide, by decide, by decide +kernel⟩
theorem k_X3_sweepOn_X2_move : XV wsX3_sweepOn RX3 183 RX2 yX2_move cX2_move 3 none wsX2_move 2 := ⟨gX3_sweepOn_X2_move, ⟨_, rfl⟩, rfl, by decide, by decide, by decide +kernel⟩
theorem fp_X3_sweepOn_27 : XGn wsX3_sweepOn RX3 27 3 6 (tyX3 6) := ⟨RX3, TX3, 7, tyX3, iw_X3_sweepOn_X3, rfl, by decide, by decide +kernel, tyX3_ok, nmX3, rfl, by decide +kernel⟩
set_option maxHeartbeats 4000000 in
set_option maxRecDepth 100000 in
theorem c_X3_sweepOn (l : Launch) (D : va_G) (cs : ClassId × ClassId × ClassId) (L : List Nat) (f0 : Nat → va_E) (x br ba pr sz lr : Nat) (σ : Sg) (hC : CC cs L f0 x br ba pr sz lr σ) (hI : Inv σ) (hs0 : 0 ≤ gS σ) : C0 l yX3_sweepOn wsX3_sweepOn ({ frames := 4, cells := 0, slots := 0, locals := 77 } : Room) D cs [.ref x] L f0 (fun v L1 f1 => v = some (.int (iI (oSw σ).1)) ∧ L = L1 ∧ FT f0 f1 x br ba pr sz ∧ CC cs L1 f1 x br ba pr sz lr (oSw σ).2) := by
  refine C0.of (cc := cX3_sweepOn) (maxL := 1) (ret := (some .int)) (by decide) rfl (Nat.le_of_ble_eq_true rfl) ?_
  intro p e s m below meth c X hr hlk hin A hA w ls hl
  have hl : lv_has ls 1 [(0, .ref x)] := hl
  have hn := hI.n; have hk := hI.k; have ht := hI.t; have hsw := hI.s; have hz4 := hI.z4
  have hF : FT f0 f0 x br ba pr sz := FT.rf _ _ _ _ _ _
  refine x_al_n X hl 0 rfl rfl dX3_sweepOn_0 ?_
  refine x_get X w hC.mx hC.fx fq_X3_sweepOn_19 rfl dX3_sweepOn_1 ?_
  refine x_al_n X hl 0 rfl rfl dX3_sweepOn_4 ?_
  refine x_get X w hC.mx hC.fx fq_X3_sweepOn_27 rfl dX3_sweepOn_5 ?_
  refine x_iconst X dX3_sweepOn_8 ?_
  refine x_iadd X dX3_sweepOn_9 ?_
  refine x_callV (As := [.int (iI ((gS σ) + 1))]) (rest := []) (c1 := 0) (s1 := 0) X w hA (c_X2_has l D cs L f0 pr sz (gK σ) (gZ σ) ((gS σ) + 1) hC.pp (by omega)) k_X3_sweepOn_X2_has (by decide) hC.pp.mp hC.pp.fp rfl rfl rfl hl rfl (Nat.le_of_ble_eq_true rfl) (by decide) rfl rfl dX3_sweepOn_10 (fun v L1 f1 H locs w hp => ?_)
  obtain ⟨rfl, rfl, hp⟩ := hp
  rcases hp with ⟨rfl, hq10⟩ | ⟨rfl, hq10⟩
  · show W p l e _ s m _ below meth c _ _ _ _ _ (F0 m 13 ls [.int (iI 1)])
    refine x_ifT_ne (tgt := 23) X (by decide) (by decide) (by decide) dX3_sweepOn_13 ?_
    refine x_al_n X hl 0 rfl rfl dX3_sweepOn_23 ?_
    refine x_get X w hC.mx hC.fx fq_X3_sweepOn_19 rfl dX3_sweepOn_24 ?_
    refine x_al_n X hl 0 rfl rfl dX3_sweepOn_27 ?_
    refine x_get X w hC.mx hC.fx fq_X3_sweepOn_27 rfl dX3_sweepOn_28 ?_
    refine x_callV (As := [.int (iI (gS σ))]) (rest := []) (c1 := 0) (s1 := 0) X w hA (c_X2_sizeOf l D cs L f0 pr sz (gK σ) (gZ σ) (gS σ) hC.pp (by omega)) k_X3_sweepOn_X2_sizeOf (by decide) hC.pp.mp hC.pp.fp rfl rfl rfl hl rfl (Nat.le_of_ble_eq_true rfl) (by decide) rfl rfl dX3_sweepOn_31 (fun v L1 f1 H locs w hp => ?_)
    obtain ⟨rfl, rfl, hp⟩ := hp
    rcases hp with ⟨rfl, hq31⟩ | ⟨rfl, hq31⟩
    · show W p l e _ s m _ below meth c _ _ _ _ _ (F0 m 34 ls [.int (iI ((gZ σ) (gS σ)))])
      have hzz := hz4 (gS σ) (by omega) (by omega)
      refine x_iconst X dX3_sweepOn_34 ?_
      refine x_icmp_lt (tgt := 50) X (by omega) (by decide) dX3_sweepOn_35 (fun hb35 => ?_) (fun hb35 => ?_)
      · refine x_al_n X hl 0 rfl rfl dX3_sweepOn_50 ?_
        refine x_get X w hC.mx hC.fx fq_X3_sweepOn_19 rfl dX3_sweepOn_51 ?_
        refine x_al_n X hl 0 rfl rfl dX3_sweepOn_54 ?_
        refine x_get X w hC.mx hC.fx fq_X3_sweepOn_27 rfl dX3_sweepOn_55 ?_
        refine x_iconst X dX3_sweepOn_58 ?_
        refine x_iadd X dX3_sweepOn_59 ?_
        refine x_al_n X hl 0 rfl rfl dX3_sweepOn_60 ?_
        refine x_get X w hC.mx hC.fx fq_X3_sweepOn_27 rfl dX3_sweepOn_61 ?_
        refine x_callV (As := [.int (iI ((gS σ) + 1)), .int (iI (gS σ))]) (rest := []) (c1 := 0) (s1 := 0) X w hA (c_X2_move l D cs L f0 pr sz (gK σ) (gZ σ) ((gS σ) + 1) (gS σ) hC.pp (by omega) hz4) k_X3_sweepOn_X2_move (by decide) hC.pp.mp hC.pp.fp rfl rfl rfl hl rfl (Nat.le_of_ble_eq_true rfl) (by decide) rfl rfl dX3_sweepOn_64 (fun v L1 f1 H locs w hp => ?_)
        obtain ⟨rfl, rfl, hfr, hPP⟩ := hp
        have hC := hC.p hPP hfr
        have hF := hF.p hfr
        show W p l e _ s m _ below meth c _ _ _ _ _ (F0 m 67 ls [])
        refine x_iconst X dX3_sweepOn_67 ?_
        refine x_iret X w hr hlk ⟨by decide, by decide⟩ dX3_sweepOn_68 ?_
        have he9 : oSw σ = (1, oMv σ) := (if_pos (by omega)).trans (if_neg (by omega))
        rw [he9]
        exact ⟨rfl, rfl, hF, hC⟩
      · refine x_al_n X hl 0 rfl rfl dX3_sweepOn_38 ?_
        refine x_dup X rfl dX3_sweepOn_39 ?_
        refine x_get X w hC.mx hC.fx fq_X3_sweepOn_27 rfl dX3_sweepOn_40 ?_
        refine x_iconst X dX3_sweepOn_43 ?_
        refine x_iadd X dX3_sweepOn_44 ?_
        refine x_put X w hC.mx hC.fx fp_X3_sweepOn_27 rfl rfl (Nat.le_of_ble_eq_true rfl) rfl dX3_sweepOn_45 (fun H locs w => ?_)
        obtain ⟨f48, w, hC, hF⟩ : ∃ f9, XW D A s.heap L f9 H locs ∧ CX cs L f9 x br ba pr sz lr (gN σ) (gR σ) (gK σ) (gZ σ) (gT σ) (gP σ) (gB σ) ((gS σ) + 1) (gW σ) ∧ FT f0 f9 x br ba pr sz := ⟨_, w, hC.fld _ _ _ _, hF.xx⟩
        refine x_iconst X dX3_sweepOn_48 ?_
        refine x_iret X w hr hlk ⟨by decide, by decide⟩ dX3_sweepOn_49 ?_
        have he9 : oSw σ = (0, oSetS (gS σ + 1) σ) := (if_pos (by omega)).trans (if_pos (by omega))
        rw [he9]
        exact ⟨rfl, rfl, hF, hC⟩
    · exfalso; omega
  · show W p l e _ s m _ below meth c _ _ _ _ _ (F0 m 13 ls [.int (iI 0)])
    refine x_ifF_ne (tgt := 23) X (by decide) (by decide) (by decide) dX3_sweepOn_13 ?_
    refine x_al_n X hl 0 rfl rfl dX3_sweepOn_16 ?_
    refine x_iconst X dX3_sweepOn_17 ?_
    refine x_put X w hC.mx hC.fx fp_X3_sweepOn_27 rfl rfl (Nat.le_of_ble_eq_true rfl) rfl dX3_sweepOn_18 (fun H locs w => ?_)
    obtain ⟨f21, w, hC, hF⟩ : ∃ f9, XW D A s.heap L f9 H locs ∧ CX cs L f9 x br ba pr sz lr (gN σ) (gR σ) (gK σ) (gZ σ) (gT σ) (gP σ) (gB σ) (-1) (gW σ) ∧ FT f0 f9 x br ba pr sz := ⟨_, w, hC.fld _ _ _ _, hF.xx⟩
    refine x_iconst X dX3_sweepOn_21 ?_
    refine x_iret X w hr hlk ⟨by decide, by decide⟩ dX3_sweepOn_22 ?_
    have he9 : oSw σ = (0, oSetS (-1) σ) := if_neg (by omega)
    rw [he9]
    exact ⟨rfl, rfl, hF, hC⟩
end
section
/-! the class's public methods -/
theorem pw_b {z : Int → Int} {k p : Int} (hk : 0 ≤ k) : -1 ≤ pw z k p ∧ pw z k p ≤ k := by
  by_cases c : ∃ q, isPg z k p q
  · obtain ⟨q, h⟩ := c
    have h1 := h.1; have h2 := h.2.1
    rw [pw_eq h]; omega
  · rw [pw_no (fun q h => c ⟨q, h⟩)]; omega
section CXN
variable {cs : ClassId × ClassId × ClassId} {L : List Nat} {f f1 : Nat → va_E} {x br ba pr sz lr : Nat} {n : Int} {R : Rc} {k : Int} {z : Int → Int} {td kp pb sw : Int} {w : Int → Int}
theorem CX.new2 {q : Nat} (h : CX cs L f x br ba pr sz lr n R k z td kp pb sw w) (hq : q ∉ L) (hf1 : ∀ b, b ≠ q → f1 b = f b) : CX cs (L ++ [q]) f1 x br ba pr sz lr n R k z td kp pb sw w := by
  have h1 := h.new (e := f1 q) hq
  rw [show va_up f q (f1 q) = f1 from funext (fun b => by
    by_cases c : b = q
    · rw [c]; exact va_up_self _ _ _
    · exact (va_up_ne f _ c).trans (hf1 b c).symm)] at h1
  exact h1
theorem FC.new2 {f0 : Nat → va_E} {q : Nat} (h : FC L f0 f x br ba pr sz lr) (hq : q ∉ L) (hf1 : ∀ b, b ≠ q → f1 b = f b) : FC L f0 f1 x br ba pr sz lr := fun a m a1 a2 a3 a4 a5 a6 a7 => (hf1 a (fun he => hq (by rw [← he]; exact m))).trans (h a m a1 a2 a3 a4 a5 a6 a7)
end CXN
theorem FC.new3 {L : List Nat} {f0 f f1 : Nat → va_E} {x br ba pr sz lr : Nat} {q : Nat} (h : FC L f0 f x br ba pr sz lr) (hq : q ∉ L) (hf1 : ∀ b, b ≠ q → f1 b = f b) : FC L f0 f1 x br ba pr sz lr := h.new2 hq hf1

theorem iw_X3_records_X3 : ∀ w ∈ wsX30, w ∈ wsX3_records := by decide +kernel
theorem fq_X3_records_10 : XF wsX3_records RX3 10 3 0 := ⟨RX3, TX3, 7, iw_X3_records_X3, rfl, by decide, by decide +kernel⟩
theorem k_X3_records_X1_count : XV wsX3_records RX3 50 RX1 yX1_count cX1_count 1 (some .int) wsX1_count 0 := ⟨gX3_records_X1_count, ⟨_, rfl⟩, rfl, by decide, by decide, by decide +kernel⟩
set_option maxHeartbeats 4000000 in
set_option maxRecDepth 100000 in
theorem c_X3_records (l : Launch) (D : va_G) (cs : ClassId × ClassId × ClassId) (L : List Nat) (f0 : Nat → va_E) (x br ba pr sz lr : Nat) (σ : Sg) (hC : CC cs L f0 x br ba pr sz lr σ) : C0 l yX3_records wsX3_records ({ frames := 2, cells := 0, slots := 0, locals := 32 } : Room) D cs [.ref x] L f0 (fun v L1 f1 => L = L1 ∧ f0 = f1 ∧ v = some (.int (iI (gN σ)))) := by
  refine C0.of (cc := cX3_records) (maxL := 1) (ret := (some .int)) (by decide) rfl (Nat.le_of_ble_eq_true rfl) ?_
  intro p e s m below meth c X hr hlk hin A hA w ls hl
  have hl : lv_has ls 1 [(0, .ref x)] := hl
  refine x_al_n X hl 0 rfl rfl dX3_records_0 ?_
  refine x_get X w hC.mx hC.fx fq_X3_records_10 rfl dX3_records_1 ?_
  obtain ⟨r4, hRB, hO⟩ := hC.rb
  refine x_callV (As := []) (rest := []) (c1 := 0) (s1 := 0) X w hA (c_X1_count l D cs L f0 br ba (gN σ) r4 (gR σ)  hRB hO) k_X3_records_X1_count (by decide) hC.mb hC.fb rfl rfl rfl hl rfl (Nat.le_of_ble_eq_true rfl) (by decide) rfl rfl dX3_records_4 (fun v L1 f1 H locs w hp => ?_)
  obtain ⟨rfl, rfl, hp⟩ := hp
  subst hp
  show W p l e _ s m _ below meth c _ _ _ _ _ (F0 m 7 ls [.int (iI (gN σ))])
  refine x_iret X w hr hlk ⟨by decide, by decide⟩ dX3_records_7 ?_
  exact ⟨rfl, rfl, rfl⟩

theorem iw_X3_kept_X3 : ∀ w ∈ wsX30, w ∈ wsX3_kept := by decide +kernel
theorem fq_X3_kept_125 : XF wsX3_kept RX3 125 3 4 := ⟨RX3, TX3, 7, iw_X3_kept_X3, rfl, by decide, by decide +kernel⟩
set_option maxHeartbeats 4000000 in
set_option maxRecDepth 100000 in
theorem c_X3_kept (l : Launch) (D : va_G) (cs : ClassId × ClassId × ClassId) (L : List Nat) (f0 : Nat → va_E) (x br ba pr sz lr : Nat) (σ : Sg) (hC : CC cs L f0 x br ba pr sz lr σ) : C0 l yX3_kept wsX3_kept ({ frames := 1, cells := 0, slots := 0, locals := 12 } : Room) D cs [.ref x] L f0 (fun v L1 f1 => L = L1 ∧ f0 = f1 ∧ v = some (.int (iI (gP σ)))) := by
  refine C0.of (cc := cX3_kept) (maxL := 1) (ret := (some .int)) (by decide) rfl (Nat.le_of_ble_eq_true rfl) ?_
  intro p e s m below meth c X hr hlk hin A hA w ls hl
  have hl : lv_has ls 1 [(0, .ref x)] := hl
  refine x_al_n X hl 0 rfl rfl dX3_kept_0 ?_
  refine x_get X w hC.mx hC.fx fq_X3_kept_125 rfl dX3_kept_1 ?_
  refine x_iret X w hr hlk ⟨by decide, by decide⟩ dX3_kept_4 ?_
  exact ⟨rfl, rfl, rfl⟩

theorem iw_X3_paidBack_X3 : ∀ w ∈ wsX30, w ∈ wsX3_paidBack := by decide +kernel
theorem fq_X3_paidBack_94 : XF wsX3_paidBack RX3 94 3 5 := ⟨RX3, TX3, 7, iw_X3_paidBack_X3, rfl, by decide, by decide +kernel⟩
set_option maxHeartbeats 4000000 in
set_option maxRecDepth 100000 in
theorem c_X3_paidBack (l : Launch) (D : va_G) (cs : ClassId × ClassId × ClassId) (L : List Nat) (f0 : Nat → va_E) (x br ba pr sz lr : Nat) (σ : Sg) (hC : CC cs L f0 x br ba pr sz lr σ) : C0 l yX3_paidBack wsX3_paidBack ({ frames := 1, cells := 0, slots := 0, locals := 12 } : Room) D cs [.ref x] L f0 (fun v L1 f1 => L = L1 ∧ f0 = f1 ∧ v = some (.int (iI (gB σ)))) := by
  refine C0.of (cc := cX3_paidBack) (maxL := 1) (ret := (some .int)) (by decide) rfl (Nat.le_of_ble_eq_true rfl) ?_
  intro p e s m below meth c X hr hlk hin A hA w ls hl
  have hl : lv_has ls 1 [(0, .ref x)] := hl
  refine x_al_n X hl 0 rfl rfl dX3_paidBack_0 ?_
  refine x_get X w hC.mx hC.fx fq_X3_paidBack_94 rfl dX3_paidBack_1 ?_
  refine x_iret X w hr hlk ⟨by decide, by decide⟩ dX3_paidBack_4 ?_
  exact ⟨rfl, rfl, rfl⟩

theorem iw_X3_today_X3 : ∀ w ∈ wsX30, w ∈ wsX3_today := by decide +kernel
theorem fq_X3_today_77 : XF wsX3_today RX3 77 3 3 := ⟨RX3, TX3, 7, iw_X3_today_X3, rfl, by decide, by decide +kernel⟩
set_option maxHeartbeats 4000000 in
set_option maxRecDepth 100000 in
theorem c_X3_today (l : Launch) (D : va_G) (cs : ClassId × ClassId × ClassId) (L : List Nat) (f0 : Nat → va_E) (x br ba pr sz lr : Nat) (σ : Sg) (hC : CC cs L f0 x br ba pr sz lr σ) : C0 l yX3_today wsX3_today ({ frames := 1, cells := 0, slots := 0, locals := 12 } : Room) D cs [.ref x] L f0 (fun v L1 f1 => L = L1 ∧ f0 = f1 ∧ v = some (.int (iI (gT σ)))) := by
  refine C0.of (cc := cX3_today) (maxL := 1) (ret := (some .int)) (by decide) rfl (Nat.le_of_ble_eq_true rfl) ?_
  intro p e s m below meth c X hr hlk hin A hA w ls hl
  have hl : lv_has ls 1 [(0, .ref x)] := hl
  refine x_al_n X hl 0 rfl rfl dX3_today_0 ?_
  refine x_get X w hC.mx hC.fx fq_X3_today_77 rfl dX3_today_1 ?_
  refine x_iret X w hr hlk ⟨by decide, by decide⟩ dX3_today_4 ?_
  exact ⟨rfl, rfl, rfl⟩

theorem iw_X3_pages_X3 : ∀ w ∈ wsX30, w ∈ wsX3_pages := by decide +kernel
theorem fq_X3_pages_19 : XF wsX3_pages RX3 19 3 1 := ⟨RX3, TX3, 7, iw_X3_pages_X3, rfl, by decide, by decide +kernel⟩
theorem k_X3_pages_X2_count : XV wsX3_pages RX3 87 RX2 yX2_count cX2_count 1 (some .int) wsX2_count 0 := ⟨gX3_pages_X2_count, ⟨_, rfl⟩, rfl, by decide, by decide, by decide +kernel⟩
set_option maxHeartbeats 4000000 in
set_option maxRecDepth 100000 in
theorem c_X3_pages (l : Launch) (D : va_G) (cs : ClassId × ClassId × ClassId) (L : List Nat) (f0 : Nat → va_E) (x br ba pr sz lr : Nat) (σ : Sg) (hC : CC cs L f0 x br ba pr sz lr σ) : C0 l yX3_pages wsX3_pages ({ frames := 2, cells := 0, slots := 0, locals := 32 } : Room) D cs [.ref x] L f0 (fun v L1 f1 => L = L1 ∧ f0 = f1 ∧ v = some (.int (iI (gK σ)))) := by
  refine C0.of (cc := cX3_pages) (maxL := 1) (ret := (some .int)) (by decide) rfl (Nat.le_of_ble_eq_true rfl) ?_
  intro p e s m below meth c X hr hlk hin A hA w ls hl
  have hl : lv_has ls 1 [(0, .ref x)] := hl
  refine x_al_n X hl 0 rfl rfl dX3_pages_0 ?_
  refine x_get X w hC.mx hC.fx fq_X3_pages_19 rfl dX3_pages_1 ?_
  refine x_callV (As := []) (rest := []) (c1 := 0) (s1 := 0) X w hA (c_X2_count l D cs L f0 pr sz (gK σ) (gZ σ)  hC.pp) k_X3_pages_X2_count (by decide) hC.pp.mp hC.pp.fp rfl rfl rfl hl rfl (Nat.le_of_ble_eq_true rfl) (by decide) rfl rfl dX3_pages_4 (fun v L1 f1 H locs w hp => ?_)
  obtain ⟨rfl, rfl, hp⟩ := hp
  subst hp
  show W p l e _ s m _ below meth c _ _ _ _ _ (F0 m 7 ls [.int (iI (gK σ))])
  refine x_iret X w hr hlk ⟨by decide, by decide⟩ dX3_pages_7 ?_
  exact ⟨rfl, rfl, rfl⟩

theorem iw_X3_sweeping_X3 : ∀ w ∈ wsX30, w ∈ wsX3_sweeping := by decide +kernel
theorem fq_X3_sweeping_27 : XF wsX3_sweeping RX3 27 3 6 := ⟨RX3, TX3, 7, iw_X3_sweeping_X3, rfl, by decide, by decide +kernel⟩
set_option maxHeartbeats 4000000 in
set_option maxRecDepth 100000 in
theorem c_X3_sweeping (l : Launch) (D : va_G) (cs : ClassId × ClassId × ClassId) (L : List Nat) (f0 : Nat → va_E) (x br ba pr sz lr : Nat) (σ : Sg) (hC : CC cs L f0 x br ba pr sz lr σ) : C0 l yX3_sweeping wsX3_sweeping ({ frames := 1, cells := 0, slots := 0, locals := 12 } : Room) D cs [.ref x] L f0 (fun v L1 f1 => L = L1 ∧ f0 = f1 ∧ v = some (.int (iI (gS σ)))) := by
  refine C0.of (cc := cX3_sweeping) (maxL := 1) (ret := (some .int)) (by decide) rfl (Nat.le_of_ble_eq_true rfl) ?_
  intro p e s m below meth c X hr hlk hin A hA w ls hl
  have hl : lv_has ls 1 [(0, .ref x)] := hl
  refine x_al_n X hl 0 rfl rfl dX3_sweeping_0 ?_
  refine x_get X w hC.mx hC.fx fq_X3_sweeping_27 rfl dX3_sweeping_1 ?_
  refine x_iret X w hr hlk ⟨by decide, by decide⟩ dX3_sweeping_4 ?_
  exact ⟨rfl, rfl, rfl⟩

theorem k_X3_payBack_X3_requireCase : XS wsX3_payBack RX3 31 yX3_requireCase cX3_requireCase 1 none wsX3_requireCase 1 := ⟨gX3_payBack_X3_requireCase, ⟨_, rfl⟩, by decide, by decide, by decide +kernel⟩
theorem iw_X3_payBack_X3 : ∀ w ∈ wsX30, w ∈ wsX3_payBack := by decide +kernel
theorem fq_X3_payBack_10 : XF wsX3_payBack RX3 10 3 0 := ⟨RX3, TX3, 7, iw_X3_payBack_X3, rfl, by decide, by decide +kernel⟩
theorem k_X3_payBack_X1_find : XV wsX3_payBack RX3 46 RX1 yX1_find cX1_find 2 (some (.object "PageBail$Bail")) wsX1_find 1 := ⟨gX3_payBack_X1_find, ⟨_, rfl⟩, rfl, by decide, by decide, by decide +kernel⟩
theorem k_X3_payBack_X0_hasForfeitDay : XV wsX3_payBack RX3 88 RX0 yX0_hasForfeitDay cX0_hasForfeitDay 1 (some .boolean) wsX0_hasForfeitDay 0 := ⟨gX3_payBack_X0_hasForfeitDay, ⟨_, rfl⟩, rfl, by decide, by decide, by decide +kernel⟩
theorem xt_X3_payBack_92 : XT wsX3_payBack RX3 54 92 58 XIS "no record of the case, or it is forfeited" := ⟨by decide +kernel, by decide +kernel, by decide +kernel, by decide, xt_g58.1, xt_g58.2, by decide, rfl⟩
theorem fq_X3_payBack_94 : XF wsX3_payBack RX3 94 3 5 := ⟨RX3, TX3, 7, iw_X3_payBack_X3, rfl, by decide, by decide +kernel⟩
theorem iw_X3_payBack_X0 : ∀ w ∈ wsX00, w ∈ wsX3_payBack := by decide +kernel
theorem fq_X3_payBack_97 : XF wsX3_payBack RX3 97 0 1 := ⟨RX0, TX0, 5, iw_X3_payBack_X0, rfl, by decide, by decide +kernel⟩
theorem fp_X3_payBack_94 : XGn wsX3_payBack RX3 94 3 5 (tyX3 5) := ⟨RX3, TX3, 7, tyX3, iw_X3_payBack_X3, rfl, by decide, by decide +kernel, tyX3_ok, nmX3, rfl, by decide +kernel⟩
theorem k_X3_payBack_X1_placeOf : XV wsX3_payBack RX3 100 RX1 yX1_placeOf cX1_placeOf 3 (some .int) wsX1_placeOf 1 := ⟨gX3_payBack_X1_placeOf, ⟨_, rfl⟩, rfl, by decide, by decide, by decide +kernel⟩
theorem k_X3_payBack_X3_takeOut : XV wsX3_payBack RX3 103 RX3 yX3_takeOut cX3_takeOut 2 none wsX3_takeOut 1 := ⟨gX3_payBack_X3_takeOut, ⟨_, rfl⟩, rfl, by decide, by decide, by decide +kernel⟩
set_option maxHeartbeats 4000000 in
set_option maxRecDepth 100000 in
theorem c_X3_payBack (l : Launch) (D : va_G) (cs : ClassId × ClassId × ClassId) (hl9 : l.stackTraces = false) (L : List Nat) (f0 : Nat → va_E) (x br ba pr sz lr : Nat) (σ : Sg) (nu : Int) (hC : CC cs L f0 x br ba pr sz lr σ) (hI : Inv σ) (hrg : (-2147483648 ≤ nu ∧ nu < 2147483648)) : C1 l yX3_payBack wsX3_payBack ({ frames := 7, cells := 2, slots := 12, locals := 140 } : Room) D cs [.ref x, .int (iI nu)] L f0 (fun v L1 f1 => CPi cs L f0 x br ba pr sz lr (oPay nu σ) v L1 f1) (fun E => PXA (oPay nu σ) E) := by
  refine C1.of (cc := cX3_payBack) (maxL := 3) (ret := (some .int)) (by decide) rfl (Nat.le_of_ble_eq_true rfl) ?_
  intro p e s m below meth c X hr hlk hout hV A hA hZ w ls hl
  have hl : lv_has ls 3 [(0, .ref x), (1, .int (iI nu))] := hl
  have hn := hI.n; have hk := hI.k; have ht := hI.t; have hsw := hI.s; have hz4 := hI.z4
  have hF : FC L f0 f0 x br ba pr sz lr := FC.rf _ _ _ _ _ _ _ _
  refine x_il_n X hl 1 rfl rfl dX3_payBack_0 ?_
  refine x_callS1 (As := [.int (iI nu)]) (rest := []) (c1 := 1) (s1 := 6) X w hA hV hZ (c_X3_requireCase l D cs hl9 L f0 nu (by omega)) k_X3_payBack_X3_requireCase (by decide) rfl hl rfl (Nat.le_of_ble_eq_true rfl) (by decide) rfl rfl dX3_payBack_1 (fun E ce a9 H locs w hpx hce hcv hcl => ?_) (fun v L1 f1 H locs w hp => ?_)
  · exact x_out X w hlk hout hce hcv hcl ⟨by decide, by decide⟩ (Or.inl ⟨by unfold oPay; rw [if_neg (by have h9 := hpx.1; omega)], hpx.2⟩)
  · obtain ⟨rfl, rfl, rfl, hrc⟩ := hp
    show W p l e _ s m _ below meth c _ _ _ _ _ (F0 m 4 ls [])
    refine x_al_n X hl 0 rfl rfl dX3_payBack_4 ?_
    refine x_get X w hC.mx hC.fx fq_X3_payBack_10 rfl dX3_payBack_5 ?_
    refine x_il_n X hl 1 rfl rfl dX3_payBack_8 ?_
    obtain ⟨r9, hRB, hO⟩ := hC.rb
    refine x_callV (As := [.int (iI nu)]) (rest := []) (c1 := 1) (s1 := 6) X w hA (c_X1_find l D cs L f0 br ba (gN σ) r9 (gR σ) nu hRB hO (by omega) hI.r0 hI.so) k_X3_payBack_X1_find (by decide) hC.mb hC.fb rfl rfl rfl hl rfl (Nat.le_of_ble_eq_true rfl) (by decide) rfl rfl dX3_payBack_9 (fun v L1 f1 H locs w hp => ?_)
    obtain ⟨rfl, rfl, hp⟩ := hp
    rcases hp with ⟨a9, rfl, ha9, hm9, hf9, hq9⟩ | ⟨rfl, hq9⟩
    · show W p l e _ s m _ below meth c _ _ _ _ _ (F0 m 12 ls [.ref a9])
      refine x_as_n (lv' := [(2, .ref a9), (0, .ref x), (1, .int (iI nu))]) X hl rfl (by decide) rfl dX3_payBack_12 (fun ls hl => ?_)
      refine x_al_n X hl 0 rfl rfl dX3_payBack_13 ?_
      refine x_ifnull_r X dX3_payBack_14 ?_
      have hrec := hI.r (fd (gR σ) (gN σ) nu) (by omega) (by omega)
      refine x_al_n X hl 0 rfl rfl dX3_payBack_17 ?_
      refine x_callV (As := []) (rest := []) (c1 := 1) (s1 := 6) X w hA (c_X0_hasForfeitDay l D cs L f0 a9 ((gR σ) (fd (gR σ) (gN σ) nu)) hm9 hf9 (by omega)) k_X3_payBack_X0_hasForfeitDay (by decide) hm9 hf9 rfl rfl rfl hl rfl (Nat.le_of_ble_eq_true rfl) (by decide) rfl rfl dX3_payBack_18 (fun v L1 f1 H locs w hp => ?_)
      obtain ⟨rfl, rfl, hp⟩ := hp
      rcases hp with ⟨rfl, hq18⟩ | ⟨rfl, hq18⟩
      · show W p l e _ s m _ below meth c _ _ _ _ _ (F0 m 21 ls [.int (iI 1)])
        refine x_ifF_eq (tgt := 34) X (by decide) (by decide) (by decide) dX3_payBack_21 ?_
        refine x_throw X w hl9 hV hZ hlk hout hl xt_X3_payBack_92 dX3_payBack_24 dX3_payBack_27 dX3_payBack_28 dX3_payBack_30 dX3_payBack_33 ⟨by decide, (Nat.le_of_ble_eq_true rfl), by decide, by decide⟩ ⟨by decide, by decide⟩ ?_
        exact Or.inr ⟨by unfold oPay; rw [if_pos (by omega), if_pos (show qF nu σ = -1 ∨ gR σ (qF nu σ) 4 ≠ -1 from Or.inr hq18)], rfl⟩
      · show W p l e _ s m _ below meth c _ _ _ _ _ (F0 m 21 ls [.int (iI 0)])
        refine x_ifT_eq (tgt := 34) X (by decide) (by decide) (by decide) dX3_payBack_21 ?_
        refine x_al_n X hl 1 rfl rfl dX3_payBack_34 ?_
        refine x_dup X rfl dX3_payBack_35 ?_
        refine x_get X w hC.mx hC.fx fq_X3_payBack_94 rfl dX3_payBack_36 ?_
        refine x_al_n X hl 0 rfl rfl dX3_payBack_39 ?_
        refine x_get X w hm9 hf9 fq_X3_payBack_97 rfl dX3_payBack_40 ?_
        refine x_iadd X dX3_payBack_43 ?_
        refine x_put X w hC.mx hC.fx fp_X3_payBack_94 rfl rfl (Nat.le_of_ble_eq_true rfl) rfl dX3_payBack_44 (fun H locs w => ?_)
        have hCo := hC
        obtain ⟨f47, w, hC, hF, hFx⟩ : ∃ f9, XW D A s.heap L f9 H locs ∧ CX cs L f9 x br ba pr sz lr (gN σ) (gR σ) (gK σ) (gZ σ) (gT σ) (gP σ) ((gB σ) + ((gR σ) (fd (gR σ) (gN σ) nu) 1)) (gS σ) (gW σ) ∧ FC L f0 f9 x br ba pr sz lr ∧ FT f0 f9 x br ba pr sz := ⟨_, w, hC.fld _ _ _ _, hF.xx, (FT.rf _ _ _ _ _ _).xx⟩
        have hf9 := FT.bail hCo hFx hf9
        refine x_al_n X hl 1 rfl rfl dX3_payBack_47 ?_
        refine x_al_n X hl 1 rfl rfl dX3_payBack_48 ?_
        refine x_get X w hC.mx hC.fx fq_X3_payBack_10 rfl dX3_payBack_49 ?_
        refine x_il_n X hl 2 rfl rfl dX3_payBack_52 ?_
        obtain ⟨r53, hRB, hO⟩ := hC.rb
        refine x_callV (As := [.int (iI nu)]) (rest := [.ref x]) (c1 := 1) (s1 := 6) X w hA (c_X1_placeOf l D cs L f47 br ba (gN σ) r53 (gR σ) nu hRB hO (by omega) hI.r0 hI.so) k_X3_payBack_X1_placeOf (by decide) hC.mb hC.fb rfl rfl rfl hl rfl (Nat.le_of_ble_eq_true rfl) (by decide) rfl rfl dX3_payBack_53 (fun v L1 f1 H locs w hp => ?_)
        obtain ⟨rfl, rfl, hp⟩ := hp
        subst hp
        show W p l e _ s m _ below meth c _ _ _ _ _ (F0 m 56 ls [.int (iI (fd (gR σ) (gN σ) nu)), .ref x])
        refine x_callV (As := [.int (iI (fd (gR σ) (gN σ) nu))]) (rest := []) (c1 := 1) (s1 := 6) X w hA (c_X3_takeOut l D cs L f47 x br ba pr sz lr (oAdd false ((gR σ) (fd (gR σ) (gN σ) nu) 1) σ) (fd (gR σ) (gN σ) nu) hC hI (show 0 ≤ (fd (gR σ) (gN σ) nu) ∧ (fd (gR σ) (gN σ) nu) < gN σ from by omega)) k_X3_payBack_X3_takeOut (by decide) hC.mx hC.fx rfl rfl rfl hl rfl (Nat.le_of_ble_eq_true rfl) (by decide) rfl rfl dX3_payBack_56 (fun v L1 f1 H locs w hp => ?_)
        obtain ⟨rfl, rfl, hFT, hC2⟩ := hp
        have hf9 := FT.bail hC hFT hf9
        have hC := hC2
        have hF := hF.t hFT
        have hI56 : Inv (oTake (fd (gR σ) (gN σ) nu) (oAdd false ((gR σ) (fd (gR σ) (gN σ) nu) 1) σ)) := Inv.take hI (show 0 ≤ (fd (gR σ) (gN σ) nu) ∧ (fd (gR σ) (gN σ) nu) < gN σ from by omega)
        show W p l e _ s m _ below meth c _ _ _ _ _ (F0 m 59 ls [])
        refine x_al_n X hl 0 rfl rfl dX3_payBack_59 ?_
        refine x_get X w hm9 hf9 fq_X3_payBack_97 rfl dX3_payBack_60 ?_
        refine vx_ret ?_
        refine x_iret X w hr hlk ⟨by decide, by decide⟩ dX3_payBack_63 ?_
        have ho : oPay nu σ = (0, gR σ (qF nu σ) 1, oTake (qF nu σ) (oAdd false (gR σ (qF nu σ) 1) σ)) := by unfold oPay; rw [if_pos (by omega), if_neg (show ¬ (qF nu σ = -1 ∨ gR σ (qF nu σ) 4 ≠ -1) from fun h9 => h9.elim (fun h8 => by have h7 : fd (gR σ) (gN σ) nu = -1 := h8; omega) (fun h8 => h8 hq18))]
        rw [ho]
        exact ⟨rfl, rfl, hC, fun _ h => h, hF⟩
    · show W p l e _ s m _ below meth c _ _ _ _ _ (F0 m 12 ls [.null])
      refine x_asN_n (lv' := [(2, .null), (0, .ref x), (1, .int (iI nu))]) X hl rfl (by decide) rfl dX3_payBack_12 (fun ls hl => ?_)
      refine x_alN_n X hl 0 rfl rfl dX3_payBack_13 ?_
      refine x_ifnull_n (tgt := 24) X (by decide) dX3_payBack_14 ?_
      refine x_throw X w hl9 hV hZ hlk hout hl xt_X3_payBack_92 dX3_payBack_24 dX3_payBack_27 dX3_payBack_28 dX3_payBack_30 dX3_payBack_33 ⟨by decide, (Nat.le_of_ble_eq_true rfl), by decide, by decide⟩ ⟨by decide, by decide⟩ ?_
      exact Or.inr ⟨by unfold oPay; rw [if_pos (by omega), if_pos (show qF nu σ = -1 ∨ gR σ (qF nu σ) 4 ≠ -1 from Or.inl hq9)], rfl⟩

theorem k_X3_forfeit_X3_requireCase : XS wsX3_forfeit RX3 31 yX3_requireCase cX3_requireCase 1 none wsX3_requireCase 1 := ⟨gX3_forfeit_X3_requireCase, ⟨_, rfl⟩, by decide, by decide, by decide +kernel⟩
theorem iw_X3_forfeit_X3 : ∀ w ∈ wsX30, w ∈ wsX3_forfeit := by decide +kernel
theorem fq_X3_forfeit_10 : XF wsX3_forfeit RX3 10 3 0 := ⟨RX3, TX3, 7, iw_X3_forfeit_X3, rfl, by decide, by decide +kernel⟩
theorem k_X3_forfeit_X1_find : XV wsX3_forfeit RX3 46 RX1 yX1_find cX1_find 2 (some (.object "PageBail$Bail")) wsX1_find 1 := ⟨gX3_forfeit_X1_find, ⟨_, rfl⟩, rfl, by decide, by decide, by decide +kernel⟩
theorem k_X3_forfeit_X0_hasForfeitDay : XV wsX3_forfeit RX3 88 RX0 yX0_hasForfeitDay cX0_hasForfeitDay 1 (some .boolean) wsX0_hasForfeitDay 0 := ⟨gX3_forfeit_X0_hasForfeitDay, ⟨_, rfl⟩, rfl, by decide, by decide, by decide +kernel⟩
theorem xt_X3_forfeit_92 : XT wsX3_forfeit RX3 54 92 58 XIS "no record of the case, or it is forfeited" := ⟨by decide +kernel, by decide +kernel, by decide +kernel, by decide, xt_g58.1, xt_g58.2, by decide, rfl⟩
theorem fq_X3_forfeit_77 : XF wsX3_forfeit RX3 77 3 3 := ⟨RX3, TX3, 7, iw_X3_forfeit_X3, rfl, by decide, by decide +kernel⟩
theorem iw_X3_forfeit_X0 : ∀ w ∈ wsX00, w ∈ wsX3_forfeit := by decide +kernel
theorem fp_X3_forfeit_106 : XGn wsX3_forfeit RX3 106 0 4 (tyX0 4) := ⟨RX0, TX0, 5, tyX0, iw_X3_forfeit_X0, rfl, by decide, by decide +kernel, tyX0_ok, nmX0, rfl, by decide +kernel⟩
set_option maxHeartbeats 4000000 in
set_option maxRecDepth 100000 in
theorem c_X3_forfeit (l : Launch) (D : va_G) (cs : ClassId × ClassId × ClassId) (hl9 : l.stackTraces = false) (L : List Nat) (f0 : Nat → va_E) (x br ba pr sz lr : Nat) (σ : Sg) (nu : Int) (hC : CC cs L f0 x br ba pr sz lr σ) (hI : Inv σ) (hrg : (-2147483648 ≤ nu ∧ nu < 2147483648)) : C1 l yX3_forfeit wsX3_forfeit ({ frames := 7, cells := 2, slots := 12, locals := 120 } : Room) D cs [.ref x, .int (iI nu)] L f0 (fun v L1 f1 => CPv cs L f0 x br ba pr sz lr (oFor nu σ) v L1 f1) (fun E => PXA (oFor nu σ) E) := by
  refine C1.of (cc := cX3_forfeit) (maxL := 3) (ret := none) (by decide) rfl (Nat.le_of_ble_eq_true rfl) ?_
  intro p e s m below meth c X hr hlk hout hV A hA hZ w ls hl
  have hl : lv_has ls 3 [(0, .ref x), (1, .int (iI nu))] := hl
  have hn := hI.n; have hk := hI.k; have ht := hI.t; have hsw := hI.s; have hz4 := hI.z4
  have hF : FC L f0 f0 x br ba pr sz lr := FC.rf _ _ _ _ _ _ _ _
  refine x_il_n X hl 1 rfl rfl dX3_forfeit_0 ?_
  refine x_callS1 (As := [.int (iI nu)]) (rest := []) (c1 := 1) (s1 := 6) X w hA hV hZ (c_X3_requireCase l D cs hl9 L f0 nu (by omega)) k_X3_forfeit_X3_requireCase (by decide) rfl hl rfl (Nat.le_of_ble_eq_true rfl) (by decide) rfl rfl dX3_forfeit_1 (fun E ce a9 H locs w hpx hce hcv hcl => ?_) (fun v L1 f1 H locs w hp => ?_)
  · exact x_out X w hlk hout hce hcv hcl ⟨by decide, by decide⟩ (Or.inl ⟨by unfold oFor; rw [if_neg (by have h9 := hpx.1; omega)], hpx.2⟩)
  · obtain ⟨rfl, rfl, rfl, hrc⟩ := hp
    show W p l e _ s m _ below meth c _ _ _ _ _ (F0 m 4 ls [])
    refine x_al_n X hl 0 rfl rfl dX3_forfeit_4 ?_
    refine x_get X w hC.mx hC.fx fq_X3_forfeit_10 rfl dX3_forfeit_5 ?_
    refine x_il_n X hl 1 rfl rfl dX3_forfeit_8 ?_
    obtain ⟨r9, hRB, hO⟩ := hC.rb
    refine x_callV (As := [.int (iI nu)]) (rest := []) (c1 := 1) (s1 := 6) X w hA (c_X1_find l D cs L f0 br ba (gN σ) r9 (gR σ) nu hRB hO (by omega) hI.r0 hI.so) k_X3_forfeit_X1_find (by decide) hC.mb hC.fb rfl rfl rfl hl rfl (Nat.le_of_ble_eq_true rfl) (by decide) rfl rfl dX3_forfeit_9 (fun v L1 f1 H locs w hp => ?_)
    obtain ⟨rfl, rfl, hp⟩ := hp
    rcases hp with ⟨a9, rfl, ha9, hm9, hf9, hq9⟩ | ⟨rfl, hq9⟩
    · show W p l e _ s m _ below meth c _ _ _ _ _ (F0 m 12 ls [.ref a9])
      refine x_as_n (lv' := [(2, .ref a9), (0, .ref x), (1, .int (iI nu))]) X hl rfl (by decide) rfl dX3_forfeit_12 (fun ls hl => ?_)
      refine x_al_n X hl 0 rfl rfl dX3_forfeit_13 ?_
      refine x_ifnull_r X dX3_forfeit_14 ?_
      have hrec := hI.r (fd (gR σ) (gN σ) nu) (by omega) (by omega)
      refine x_al_n X hl 0 rfl rfl dX3_forfeit_17 ?_
      refine x_callV (As := []) (rest := []) (c1 := 1) (s1 := 6) X w hA (c_X0_hasForfeitDay l D cs L f0 a9 ((gR σ) (fd (gR σ) (gN σ) nu)) hm9 hf9 (by omega)) k_X3_forfeit_X0_hasForfeitDay (by decide) hm9 hf9 rfl rfl rfl hl rfl (Nat.le_of_ble_eq_true rfl) (by decide) rfl rfl dX3_forfeit_18 (fun v L1 f1 H locs w hp => ?_)
      obtain ⟨rfl, rfl, hp⟩ := hp
      rcases hp with ⟨rfl, hq18⟩ | ⟨rfl, hq18⟩
      · show W p l e _ s m _ below meth c _ _ _ _ _ (F0 m 21 ls [.int (iI 1)])
        refine x_ifF_eq (tgt := 34) X (by decide) (by decide) (by decide) dX3_forfeit_21 ?_
        refine x_throw X w hl9 hV hZ hlk hout hl xt_X3_forfeit_92 dX3_forfeit_24 dX3_forfeit_27 dX3_forfeit_28 dX3_forfeit_30 dX3_forfeit_33 ⟨by decide, (Nat.le_of_ble_eq_true rfl), by decide, by decide⟩ ⟨by decide, by decide⟩ ?_
        exact Or.inr ⟨by unfold oFor; rw [if_pos (by omega), if_pos (show qF nu σ = -1 ∨ gR σ (qF nu σ) 4 ≠ -1 from Or.inr hq18)], rfl⟩
      · show W p l e _ s m _ below meth c _ _ _ _ _ (F0 m 21 ls [.int (iI 0)])
        refine x_ifT_eq (tgt := 34) X (by decide) (by decide) (by decide) dX3_forfeit_21 ?_
        refine x_al_n X hl 0 rfl rfl dX3_forfeit_34 ?_
        refine x_al_n X hl 1 rfl rfl dX3_forfeit_35 ?_
        refine x_get X w hC.mx hC.fx fq_X3_forfeit_77 rfl dX3_forfeit_36 ?_
        refine x_put X w hm9 hf9 fp_X3_forfeit_106 rfl rfl (Nat.le_of_ble_eq_true rfl) rfl dX3_forfeit_39 (fun H locs w => ?_)
        obtain ⟨f42, w, hC, hF⟩ : ∃ f9, XW D A s.heap L f9 H locs ∧ CX cs L f9 x br ba pr sz lr (gN σ) (uI (gR σ) (fd (gR σ) (gN σ) nu) (uN (gR σ (fd (gR σ) (gN σ) nu)) 4 (gT σ))) (gK σ) (gZ σ) (gT σ) (gP σ) (gB σ) (gS σ) (gW σ) ∧ FC L f0 f9 x br ba pr sz lr := ⟨_, w, CX.rec (g := uN (gR σ (fd (gR σ) (gN σ) nu)) 4 (gT σ)) hC hRB hO (by omega) ha9 hI.so hI.r0, FC.rec hF hf9⟩
        refine vx_ret ?_
        refine x_vret X w hr hlk ⟨by decide, by decide⟩ dX3_forfeit_42 ?_
        have ho : oFor nu σ = (0, 0, oSetR (uI (gR σ) (qF nu σ) (uN (gR σ (qF nu σ)) 4 (gT σ))) σ) := by unfold oFor; rw [if_pos (by omega), if_neg (show ¬ (qF nu σ = -1 ∨ gR σ (qF nu σ) 4 ≠ -1) from fun h9 => h9.elim (fun h8 => by have h7 : fd (gR σ) (gN σ) nu = -1 := h8; omega) (fun h8 => h8 hq18))]
        rw [ho]
        exact ⟨rfl, rfl, hC, fun _ h => h, hF⟩
    · show W p l e _ s m _ below meth c _ _ _ _ _ (F0 m 12 ls [.null])
      refine x_asN_n (lv' := [(2, .null), (0, .ref x), (1, .int (iI nu))]) X hl rfl (by decide) rfl dX3_forfeit_12 (fun ls hl => ?_)
      refine x_alN_n X hl 0 rfl rfl dX3_forfeit_13 ?_
      refine x_ifnull_n (tgt := 24) X (by decide) dX3_forfeit_14 ?_
      refine x_throw X w hl9 hV hZ hlk hout hl xt_X3_forfeit_92 dX3_forfeit_24 dX3_forfeit_27 dX3_forfeit_28 dX3_forfeit_30 dX3_forfeit_33 ⟨by decide, (Nat.le_of_ble_eq_true rfl), by decide, by decide⟩ ⟨by decide, by decide⟩ ?_
      exact Or.inr ⟨by unfold oFor; rw [if_pos (by omega), if_pos (show qF nu σ = -1 ∨ gR σ (qF nu σ) 4 ≠ -1 from Or.inl hq9)], rfl⟩

theorem k_X3_undo_X3_requireCase : XS wsX3_undo RX3 31 yX3_requireCase cX3_requireCase 1 none wsX3_requireCase 1 := ⟨gX3_undo_X3_requireCase, ⟨_, rfl⟩, by decide, by decide, by decide +kernel⟩
theorem iw_X3_undo_X3 : ∀ w ∈ wsX30, w ∈ wsX3_undo := by decide +kernel
theorem fq_X3_undo_10 : XF wsX3_undo RX3 10 3 0 := ⟨RX3, TX3, 7, iw_X3_undo_X3, rfl, by decide, by decide +kernel⟩
theorem k_X3_undo_X1_find : XV wsX3_undo RX3 46 RX1 yX1_find cX1_find 2 (some (.object "PageBail$Bail")) wsX1_find 1 := ⟨gX3_undo_X1_find, ⟨_, rfl⟩, rfl, by decide, by decide, by decide +kernel⟩
theorem k_X3_undo_X0_hasForfeitDay : XV wsX3_undo RX3 88 RX0 yX0_hasForfeitDay cX0_hasForfeitDay 1 (some .boolean) wsX0_hasForfeitDay 0 := ⟨gX3_undo_X0_hasForfeitDay, ⟨_, rfl⟩, rfl, by decide, by decide, by decide +kernel⟩
theorem fq_X3_undo_77 : XF wsX3_undo RX3 77 3 3 := ⟨RX3, TX3, 7, iw_X3_undo_X3, rfl, by decide, by decide +kernel⟩
theorem iw_X3_undo_X0 : ∀ w ∈ wsX00, w ∈ wsX3_undo := by decide +kernel
theorem fq_X3_undo_106 : XF wsX3_undo RX3 106 0 4 := ⟨RX0, TX0, 5, iw_X3_undo_X0, rfl, by decide, by decide +kernel⟩
theorem fp_X3_undo_106 : XGn wsX3_undo RX3 106 0 4 (tyX0 4) := ⟨RX0, TX0, 5, tyX0, iw_X3_undo_X0, rfl, by decide, by decide +kernel, tyX0_ok, nmX0, rfl, by decide +kernel⟩
theorem xt_X3_undo_109 : XT wsX3_undo RX3 54 109 58 XIS "no record of the case, or it is not forfeited" := ⟨by decide +kernel, by decide +kernel, by decide +kernel, by decide, xt_g58.1, xt_g58.2, by decide, rfl⟩
set_option maxHeartbeats 4000000 in
set_option maxRecDepth 100000 in
theorem c_X3_undo (l : Launch) (D : va_G) (cs : ClassId × ClassId × ClassId) (hl9 : l.stackTraces = false) (L : List Nat) (f0 : Nat → va_E) (x br ba pr sz lr : Nat) (σ : Sg) (nu : Int) (hC : CC cs L f0 x br ba pr sz lr σ) (hI : Inv σ) (hrg : (-2147483648 ≤ nu ∧ nu < 2147483648)) : C1 l yX3_undo wsX3_undo ({ frames := 7, cells := 2, slots := 12, locals := 120 } : Room) D cs [.ref x, .int (iI nu)] L f0 (fun v L1 f1 => CPi cs L f0 x br ba pr sz lr (oUnd nu σ) v L1 f1) (fun E => PXA (oUnd nu σ) E) := by
  refine C1.of (cc := cX3_undo) (maxL := 4) (ret := (some .int)) (by decide) rfl (Nat.le_of_ble_eq_true rfl) ?_
  intro p e s m below meth c X hr hlk hout hV A hA hZ w ls hl
  have hl : lv_has ls 4 [(0, .ref x), (1, .int (iI nu))] := hl
  have hn := hI.n; have hk := hI.k; have ht := hI.t; have hsw := hI.s; have hz4 := hI.z4
  have hF : FC L f0 f0 x br ba pr sz lr := FC.rf _ _ _ _ _ _ _ _
  refine x_il_n X hl 1 rfl rfl dX3_undo_0 ?_
  refine x_callS1 (As := [.int (iI nu)]) (rest := []) (c1 := 1) (s1 := 6) X w hA hV hZ (c_X3_requireCase l D cs hl9 L f0 nu (by omega)) k_X3_undo_X3_requireCase (by decide) rfl hl rfl (Nat.le_of_ble_eq_true rfl) (by decide) rfl rfl dX3_undo_1 (fun E ce a9 H locs w hpx hce hcv hcl => ?_) (fun v L1 f1 H locs w hp => ?_)
  · exact x_out X w hlk hout hce hcv hcl ⟨by decide, by decide⟩ (Or.inl ⟨by unfold oUnd; rw [if_neg (by have h9 := hpx.1; omega)], hpx.2⟩)
  · obtain ⟨rfl, rfl, rfl, hrc⟩ := hp
    show W p l e _ s m _ below meth c _ _ _ _ _ (F0 m 4 ls [])
    refine x_al_n X hl 0 rfl rfl dX3_undo_4 ?_
    refine x_get X w hC.mx hC.fx fq_X3_undo_10 rfl dX3_undo_5 ?_
    refine x_il_n X hl 1 rfl rfl dX3_undo_8 ?_
    obtain ⟨r9, hRB, hO⟩ := hC.rb
    refine x_callV (As := [.int (iI nu)]) (rest := []) (c1 := 1) (s1 := 6) X w hA (c_X1_find l D cs L f0 br ba (gN σ) r9 (gR σ) nu hRB hO (by omega) hI.r0 hI.so) k_X3_undo_X1_find (by decide) hC.mb hC.fb rfl rfl rfl hl rfl (Nat.le_of_ble_eq_true rfl) (by decide) rfl rfl dX3_undo_9 (fun v L1 f1 H locs w hp => ?_)
    obtain ⟨rfl, rfl, hp⟩ := hp
    rcases hp with ⟨a9, rfl, ha9, hm9, hf9, hq9⟩ | ⟨rfl, hq9⟩
    · show W p l e _ s m _ below meth c _ _ _ _ _ (F0 m 12 ls [.ref a9])
      refine x_as_n (lv' := [(2, .ref a9), (0, .ref x), (1, .int (iI nu))]) X hl rfl (by decide) rfl dX3_undo_12 (fun ls hl => ?_)
      refine x_al_n X hl 0 rfl rfl dX3_undo_13 ?_
      refine x_ifnull_r X dX3_undo_14 ?_
      have hrec := hI.r (fd (gR σ) (gN σ) nu) (by omega) (by omega)
      refine x_al_n X hl 0 rfl rfl dX3_undo_17 ?_
      refine x_callV (As := []) (rest := []) (c1 := 1) (s1 := 6) X w hA (c_X0_hasForfeitDay l D cs L f0 a9 ((gR σ) (fd (gR σ) (gN σ) nu)) hm9 hf9 (by omega)) k_X3_undo_X0_hasForfeitDay (by decide) hm9 hf9 rfl rfl rfl hl rfl (Nat.le_of_ble_eq_true rfl) (by decide) rfl rfl dX3_undo_18 (fun v L1 f1 H locs w hp => ?_)
      obtain ⟨rfl, rfl, hp⟩ := hp
      rcases hp with ⟨rfl, hq18⟩ | ⟨rfl, hq18⟩
      · show W p l e _ s m _ below meth c _ _ _ _ _ (F0 m 21 ls [.int (iI 1)])
        refine x_ifT_ne (tgt := 34) X (by decide) (by decide) (by decide) dX3_undo_21 ?_
        refine x_al_n X hl 1 rfl rfl dX3_undo_34 ?_
        refine x_get X w hC.mx hC.fx fq_X3_undo_77 rfl dX3_undo_35 ?_
        refine x_al_n X hl 0 rfl rfl dX3_undo_38 ?_
        refine x_get X w hm9 hf9 fq_X3_undo_106 rfl dX3_undo_39 ?_
        refine x_isub X dX3_undo_42 ?_
        refine x_is_n (lv' := [(3, .int (iI ((gT σ) - ((gR σ) (fd (gR σ) (gN σ) nu) 4)))), (2, .ref a9), (0, .ref x), (1, .int (iI nu))]) X hl rfl (by decide) rfl dX3_undo_43 (fun ls hl => ?_)
        refine x_al_n X hl 1 rfl rfl dX3_undo_44 ?_
        refine x_iconst X dX3_undo_45 ?_
        refine x_put X w hm9 hf9 fp_X3_undo_106 rfl rfl (Nat.le_of_ble_eq_true rfl) rfl dX3_undo_46 (fun H locs w => ?_)
        obtain ⟨f49, w, hC, hF⟩ : ∃ f9, XW D A s.heap L f9 H locs ∧ CX cs L f9 x br ba pr sz lr (gN σ) (uI (gR σ) (fd (gR σ) (gN σ) nu) (uN (gR σ (fd (gR σ) (gN σ) nu)) 4 (-1))) (gK σ) (gZ σ) (gT σ) (gP σ) (gB σ) (gS σ) (gW σ) ∧ FC L f0 f9 x br ba pr sz lr := ⟨_, w, CX.rec (g := uN (gR σ (fd (gR σ) (gN σ) nu)) 4 (-1)) hC hRB hO (by omega) ha9 hI.so hI.r0, FC.rec hF hf9⟩
        refine x_il_n X hl 0 rfl rfl dX3_undo_49 ?_
        refine vx_ret ?_
        refine x_iret X w hr hlk ⟨by decide, by decide⟩ dX3_undo_50 ?_
        have ho : oUnd nu σ = (0, gT σ - gR σ (qF nu σ) 4, oSetR (uI (gR σ) (qF nu σ) (uN (gR σ (qF nu σ)) 4 (-1))) σ) := by unfold oUnd; rw [if_pos (by omega), if_neg (show ¬ (qF nu σ = -1 ∨ gR σ (qF nu σ) 4 = -1) from fun h9 => h9.elim (fun h8 => by have h7 : fd (gR σ) (gN σ) nu = -1 := h8; omega) (fun h8 => hq18 h8))]
        rw [ho]
        exact ⟨rfl, rfl, hC, fun _ h => h, hF⟩
      · show W p l e _ s m _ below meth c _ _ _ _ _ (F0 m 21 ls [.int (iI 0)])
        refine x_ifF_ne (tgt := 34) X (by decide) (by decide) (by decide) dX3_undo_21 ?_
        refine x_throw X w hl9 hV hZ hlk hout hl xt_X3_undo_109 dX3_undo_24 dX3_undo_27 dX3_undo_28 dX3_undo_30 dX3_undo_33 ⟨by decide, (Nat.le_of_ble_eq_true rfl), by decide, by decide⟩ ⟨by decide, by decide⟩ ?_
        exact Or.inr ⟨by unfold oUnd; rw [if_pos (by omega), if_pos (show qF nu σ = -1 ∨ gR σ (qF nu σ) 4 = -1 from Or.inr hq18)], rfl⟩
    · show W p l e _ s m _ below meth c _ _ _ _ _ (F0 m 12 ls [.null])
      refine x_asN_n (lv' := [(2, .null), (0, .ref x), (1, .int (iI nu))]) X hl rfl (by decide) rfl dX3_undo_12 (fun ls hl => ?_)
      refine x_alN_n X hl 0 rfl rfl dX3_undo_13 ?_
      refine x_ifnull_n (tgt := 24) X (by decide) dX3_undo_14 ?_
      refine x_throw X w hl9 hV hZ hlk hout hl xt_X3_undo_109 dX3_undo_24 dX3_undo_27 dX3_undo_28 dX3_undo_30 dX3_undo_33 ⟨by decide, (Nat.le_of_ble_eq_true rfl), by decide, by decide⟩ ⟨by decide, by decide⟩ ?_
      exact Or.inr ⟨by unfold oUnd; rw [if_pos (by omega), if_pos (show qF nu σ = -1 ∨ gR σ (qF nu σ) 4 = -1 from Or.inl hq9)], rfl⟩

theorem k_X3_sum_X3_requireCase : XS wsX3_sum RX3 31 yX3_requireCase cX3_requireCase 1 none wsX3_requireCase 1 := ⟨gX3_sum_X3_requireCase, ⟨_, rfl⟩, by decide, by decide, by decide +kernel⟩
theorem iw_X3_sum_X3 : ∀ w ∈ wsX30, w ∈ wsX3_sum := by decide +kernel
theorem fq_X3_sum_10 : XF wsX3_sum RX3 10 3 0 := ⟨RX3, TX3, 7, iw_X3_sum_X3, rfl, by decide, by decide +kernel⟩
theorem k_X3_sum_X1_find : XV wsX3_sum RX3 46 RX1 yX1_find cX1_find 2 (some (.object "PageBail$Bail")) wsX1_find 1 := ⟨gX3_sum_X1_find, ⟨_, rfl⟩, rfl, by decide, by decide, by decide +kernel⟩
theorem iw_X3_sum_X0 : ∀ w ∈ wsX00, w ∈ wsX3_sum := by decide +kernel
theorem fq_X3_sum_97 : XF wsX3_sum RX3 97 0 1 := ⟨RX0, TX0, 5, iw_X3_sum_X0, rfl, by decide, by decide +kernel⟩
set_option maxHeartbeats 4000000 in
set_option maxRecDepth 100000 in
theorem c_X3_sum (l : Launch) (D : va_G) (cs : ClassId × ClassId × ClassId) (hl9 : l.stackTraces = false) (L : List Nat) (f0 : Nat → va_E) (x br ba pr sz lr : Nat) (σ : Sg) (nu : Int) (hC : CC cs L f0 x br ba pr sz lr σ) (hI : Inv σ) (hrg : (-2147483648 ≤ nu ∧ nu < 2147483648)) : C1 l yX3_sum wsX3_sum ({ frames := 7, cells := 1, slots := 6, locals := 120 } : Room) D cs [.ref x, .int (iI nu)] L f0 (fun v L1 f1 => CPi cs L f0 x br ba pr sz lr (oSum nu σ) v L1 f1) (fun E => PXA (oSum nu σ) E) := by
  refine C1.of (cc := cX3_sum) (maxL := 3) (ret := (some .int)) (by decide) rfl (Nat.le_of_ble_eq_true rfl) ?_
  intro p e s m below meth c X hr hlk hout hV A hA hZ w ls hl
  have hl : lv_has ls 3 [(0, .ref x), (1, .int (iI nu))] := hl
  have hn := hI.n; have hk := hI.k; have ht := hI.t; have hsw := hI.s; have hz4 := hI.z4
  have hF : FC L f0 f0 x br ba pr sz lr := FC.rf _ _ _ _ _ _ _ _
  refine x_il_n X hl 1 rfl rfl dX3_sum_0 ?_
  refine x_callS1 (As := [.int (iI nu)]) (rest := []) (c1 := 1) (s1 := 6) X w hA hV hZ (c_X3_requireCase l D cs hl9 L f0 nu (by omega)) k_X3_sum_X3_requireCase (by decide) rfl hl rfl (Nat.le_of_ble_eq_true rfl) (by decide) rfl rfl dX3_sum_1 (fun E ce a9 H locs w hpx hce hcv hcl => ?_) (fun v L1 f1 H locs w hp => ?_)
  · exact x_out X w hlk hout hce hcv hcl ⟨by decide, by decide⟩ (Or.inl ⟨by unfold oSum; rw [if_neg (by have h9 := hpx.1; omega)], hpx.2⟩)
  · obtain ⟨rfl, rfl, rfl, hrc⟩ := hp
    show W p l e _ s m _ below meth c _ _ _ _ _ (F0 m 4 ls [])
    refine x_al_n X hl 0 rfl rfl dX3_sum_4 ?_
    refine x_get X w hC.mx hC.fx fq_X3_sum_10 rfl dX3_sum_5 ?_
    refine x_il_n X hl 1 rfl rfl dX3_sum_8 ?_
    obtain ⟨r9, hRB, hO⟩ := hC.rb
    refine x_callV (As := [.int (iI nu)]) (rest := []) (c1 := 1) (s1 := 6) X w hA (c_X1_find l D cs L f0 br ba (gN σ) r9 (gR σ) nu hRB hO (by omega) hI.r0 hI.so) k_X3_sum_X1_find (by decide) hC.mb hC.fb rfl rfl rfl hl rfl (Nat.le_of_ble_eq_true rfl) (by decide) rfl rfl dX3_sum_9 (fun v L1 f1 H locs w hp => ?_)
    obtain ⟨rfl, rfl, hp⟩ := hp
    rcases hp with ⟨a9, rfl, ha9, hm9, hf9, hq9⟩ | ⟨rfl, hq9⟩
    · show W p l e _ s m _ below meth c _ _ _ _ _ (F0 m 12 ls [.ref a9])
      refine x_as_n (lv' := [(2, .ref a9), (0, .ref x), (1, .int (iI nu))]) X hl rfl (by decide) rfl dX3_sum_12 (fun ls hl => ?_)
      refine x_al_n X hl 0 rfl rfl dX3_sum_13 ?_
      refine x_ifnonnull_r (tgt := 21) X (by decide) dX3_sum_14 ?_
      refine x_al_n X hl 0 rfl rfl dX3_sum_21 ?_
      refine x_get X w hm9 hf9 fq_X3_sum_97 rfl dX3_sum_22 ?_
      refine vx_ret ?_
      refine x_iret X w hr hlk ⟨by decide, by decide⟩ dX3_sum_25 ?_
      have ho : oSum nu σ = (0, gR σ (qF nu σ) 1, σ) := by unfold oSum; rw [if_pos (by omega), if_neg (show ¬ qF nu σ = -1 by show ¬ fd (gR σ) (gN σ) nu = -1; omega)]
      rw [ho]
      exact ⟨rfl, rfl, hC, fun _ h => h, hF⟩
    · show W p l e _ s m _ below meth c _ _ _ _ _ (F0 m 12 ls [.null])
      refine x_asN_n (lv' := [(2, .null), (0, .ref x), (1, .int (iI nu))]) X hl rfl (by decide) rfl dX3_sum_12 (fun ls hl => ?_)
      refine x_alN_n X hl 0 rfl rfl dX3_sum_13 ?_
      refine x_ifnonnull_n X dX3_sum_14 ?_
      refine x_iconst X dX3_sum_17 ?_
      refine x_goto (tgt := 25) X (by decide) dX3_sum_18 ?_
      refine vx_ret ?_
      refine x_iret X w hr hlk ⟨by decide, by decide⟩ dX3_sum_25 ?_
      have ho : oSum nu σ = (0, 0, σ) := by unfold oSum; rw [if_pos (by omega), if_pos (show qF nu σ = -1 from hq9)]
      rw [ho]
      exact ⟨rfl, rfl, hC, fun _ h => h, hF⟩

theorem k_X3_heldBy_X3_isIn : XS wsX3_heldBy RX3 35 yX3_isIn cX3_isIn 3 (some .boolean) wsX3_isIn 3 := ⟨gX3_heldBy_X3_isIn, ⟨_, rfl⟩, by decide, by decide, by decide +kernel⟩
theorem iw_X3_heldBy_X3 : ∀ w ∈ wsX30, w ∈ wsX3_heldBy := by decide +kernel
theorem fq_X3_heldBy_10 : XF wsX3_heldBy RX3 10 3 0 := ⟨RX3, TX3, 7, iw_X3_heldBy_X3, rfl, by decide, by decide +kernel⟩
theorem k_X3_heldBy_X1_sumOfSurety : XV wsX3_heldBy RX3 122 RX1 yX1_sumOfSurety cX1_sumOfSurety 5 (some .int) wsX1_sumOfSurety 1 := ⟨gX3_heldBy_X1_sumOfSurety, ⟨_, rfl⟩, rfl, by decide, by decide, by decide +kernel⟩
theorem xt_X3_heldBy_120 : XT wsX3_heldBy RX3 39 120 43 XIA "surety out of range" := ⟨by decide +kernel, by decide +kernel, by decide +kernel, by decide, xt_g43.1, xt_g43.2, by decide, rfl⟩
set_option maxHeartbeats 4000000 in
set_option maxRecDepth 100000 in
theorem c_X3_heldBy (l : Launch) (D : va_G) (cs : ClassId × ClassId × ClassId) (hl9 : l.stackTraces = false) (L : List Nat) (f0 : Nat → va_E) (x br ba pr sz lr : Nat) (σ : Sg) (sy : Int) (hC : CC cs L f0 x br ba pr sz lr σ) (hI : Inv σ) (hrg : (-2147483648 ≤ sy ∧ sy < 2147483648)) : C1 l yX3_heldBy wsX3_heldBy ({ frames := 6, cells := 1, slots := 6, locals := 90 } : Room) D cs [.ref x, .int (iI sy)] L f0 (fun v L1 f1 => CPi cs L f0 x br ba pr sz lr (oHel sy σ) v L1 f1) (fun E => PXA (oHel sy σ) E) := by
  refine C1.of (cc := cX3_heldBy) (maxL := 2) (ret := (some .int)) (by decide) rfl (Nat.le_of_ble_eq_true rfl) ?_
  intro p e s m below meth c X hr hlk hout hV A hA hZ w ls hl
  have hl : lv_has ls 2 [(0, .ref x), (1, .int (iI sy))] := hl
  have hn := hI.n; have hk := hI.k; have ht := hI.t; have hsw := hI.s; have hz4 := hI.z4
  have hF : FC L f0 f0 x br ba pr sz lr := FC.rf _ _ _ _ _ _ _ _
  refine x_il_n X hl 1 rfl rfl dX3_heldBy_0 ?_
  refine x_iconst X dX3_heldBy_1 ?_
  refine x_bipush X (by decide) dX3_heldBy_2 ?_
  refine x_callS (As := [.int (iI sy), .int (iI 0), .int (iI 9)]) (rest := []) (c1 := 0) (s1 := 0) X w hA (c_X3_isIn l D cs L f0 sy 0 9 (by omega)) k_X3_heldBy_X3_isIn (by decide) rfl hl rfl (Nat.le_of_ble_eq_true rfl) (by decide) rfl rfl dX3_heldBy_4 (fun v L1 f1 H locs w hp => ?_)
  obtain ⟨rfl, rfl, hp⟩ := hp
  rcases hp with ⟨rfl, hq4⟩ | ⟨rfl, hq4⟩
  · show W p l e _ s m _ below meth c _ _ _ _ _ (F0 m 7 ls [.int (iI 1)])
    refine x_ifT_ne (tgt := 20) X (by decide) (by decide) (by decide) dX3_heldBy_7 ?_
    refine x_al_n X hl 0 rfl rfl dX3_heldBy_20 ?_
    refine x_get X w hC.mx hC.fx fq_X3_heldBy_10 rfl dX3_heldBy_21 ?_
    refine x_il_n X hl 1 rfl rfl dX3_heldBy_24 ?_
    obtain ⟨r25, hRB, hO⟩ := hC.rb
    refine x_callV (As := [.int (iI sy)]) (rest := []) (c1 := 0) (s1 := 0) X w hA (c_X1_sumOfSurety l D cs L f0 br ba (gN σ) r25 (gR σ) sy hRB hO (by omega) hI.r2) k_X3_heldBy_X1_sumOfSurety (by decide) hC.mb hC.fb rfl rfl rfl hl rfl (Nat.le_of_ble_eq_true rfl) (by decide) rfl rfl dX3_heldBy_25 (fun v L1 f1 H locs w hp => ?_)
    obtain ⟨rfl, rfl, hp⟩ := hp
    subst hp
    show W p l e _ s m _ below meth c _ _ _ _ _ (F0 m 28 ls [.int (iI (hs (gR σ) sy (gN σ)))])
    refine vx_ret ?_
    refine x_iret X w hr hlk ⟨by decide, by decide⟩ dX3_heldBy_28 ?_
    have ho : oHel sy σ = (0, hs (gR σ) sy (gN σ), σ) := by unfold oHel; rw [if_pos (by omega)]
    rw [ho]
    exact ⟨rfl, rfl, hC, fun _ h => h, hF⟩
  · show W p l e _ s m _ below meth c _ _ _ _ _ (F0 m 7 ls [.int (iI 0)])
    refine x_ifF_ne (tgt := 20) X (by decide) (by decide) (by decide) dX3_heldBy_7 ?_
    refine x_throw X w hl9 hV hZ hlk hout hl xt_X3_heldBy_120 dX3_heldBy_10 dX3_heldBy_13 dX3_heldBy_14 dX3_heldBy_16 dX3_heldBy_19 ⟨by decide, (Nat.le_of_ble_eq_true rfl), by decide, by decide⟩ ⟨by decide, by decide⟩ ?_
    exact Or.inl ⟨by unfold oHel; rw [if_neg (by omega)], rfl⟩

theorem k_X3_amnesty_X3_isIn : XS wsX3_amnesty RX3 35 yX3_isIn cX3_isIn 3 (some .boolean) wsX3_isIn 3 := ⟨gX3_amnesty_X3_isIn, ⟨_, rfl⟩, by decide, by decide, by decide +kernel⟩
theorem iw_X3_amnesty_X3 : ∀ w ∈ wsX30, w ∈ wsX3_amnesty := by decide +kernel
theorem fq_X3_amnesty_77 : XF wsX3_amnesty RX3 77 3 3 := ⟨RX3, TX3, 7, iw_X3_amnesty_X3, rfl, by decide, by decide +kernel⟩
theorem fq_X3_amnesty_10 : XF wsX3_amnesty RX3 10 3 0 := ⟨RX3, TX3, 7, iw_X3_amnesty_X3, rfl, by decide, by decide +kernel⟩
theorem k_X3_amnesty_X1_count : XV wsX3_amnesty RX3 50 RX1 yX1_count cX1_count 1 (some .int) wsX1_count 0 := ⟨gX3_amnesty_X1_count, ⟨_, rfl⟩, rfl, by decide, by decide, by decide +kernel⟩
theorem k_X3_amnesty_X1_bailAt : XV wsX3_amnesty RX3 113 RX1 yX1_bailAt cX1_bailAt 2 (some (.object "PageBail$Bail")) wsX1_bailAt 1 := ⟨gX3_amnesty_X1_bailAt, ⟨_, rfl⟩, rfl, by decide, by decide, by decide +kernel⟩
theorem k_X3_amnesty_X0_isUnder : XV wsX3_amnesty RX3 116 RX0 yX0_isUnder cX0_isUnder 3 (some .boolean) wsX0_isUnder 2 := ⟨gX3_amnesty_X0_isUnder, ⟨_, rfl⟩, rfl, by decide, by decide, by decide +kernel⟩
theorem fq_X3_amnesty_94 : XF wsX3_amnesty RX3 94 3 5 := ⟨RX3, TX3, 7, iw_X3_amnesty_X3, rfl, by decide, by decide +kernel⟩
theorem iw_X3_amnesty_X0 : ∀ w ∈ wsX00, w ∈ wsX3_amnesty := by decide +kernel
theorem fq_X3_amnesty_97 : XF wsX3_amnesty RX3 97 0 1 := ⟨RX0, TX0, 5, iw_X3_amnesty_X0, rfl, by decide, by decide +kernel⟩
theorem fp_X3_amnesty_94 : XGn wsX3_amnesty RX3 94 3 5 (tyX3 5) := ⟨RX3, TX3, 7, tyX3, iw_X3_amnesty_X3, rfl, by decide, by decide +kernel, tyX3_ok, nmX3, rfl, by decide +kernel⟩
theorem k_X3_amnesty_X3_takeOut : XV wsX3_amnesty RX3 103 RX3 yX3_takeOut cX3_takeOut 2 none wsX3_takeOut 1 := ⟨gX3_amnesty_X3_takeOut, ⟨_, rfl⟩, rfl, by decide, by decide, by decide +kernel⟩
theorem xt_X3_amnesty_111 : XT wsX3_amnesty RX3 39 111 43 XIA "sum or day out of range" := ⟨by decide +kernel, by decide +kernel, by decide +kernel, by decide, xt_g43.1, xt_g43.2, by decide, rfl⟩
set_option maxHeartbeats 4000000 in
set_option maxRecDepth 100000 in
theorem c_X3_amnesty (l : Launch) (D : va_G) (cs : ClassId × ClassId × ClassId) (hl9 : l.stackTraces = false) (L : List Nat) (f0 : Nat → va_E) (x br ba pr sz lr : Nat) (σ : Sg) (su dy : Int) (hC : CC cs L f0 x br ba pr sz lr σ) (hI : Inv σ) (hrg : (-2147483648 ≤ su ∧ su < 2147483648) ∧ (-2147483648 ≤ dy ∧ dy < 2147483648)) : C1 l yX3_amnesty wsX3_amnesty ({ frames := 7, cells := 1, slots := 6, locals := 140 } : Room) D cs [.ref x, .int (iI su), .int (iI dy)] L f0 (fun v L1 f1 => CPi cs L f0 x br ba pr sz lr (oAmn su dy σ) v L1 f1) (fun E => PXA (oAmn su dy σ) E) := by
  refine C1.of (cc := cX3_amnesty) (maxL := 7) (ret := (some .int)) (by decide) rfl (Nat.le_of_ble_eq_true rfl) ?_
  intro p e s m below meth c X hr hlk hout hV A hA hZ w ls hl
  have hl : lv_has ls 7 [(0, .ref x), (1, .int (iI su)), (2, .int (iI dy))] := hl
  have hn := hI.n; have hk := hI.k; have ht := hI.t; have hsw := hI.s; have hz4 := hI.z4
  have hF : FC L f0 f0 x br ba pr sz lr := FC.rf _ _ _ _ _ _ _ _
  refine x_il_n X hl 1 rfl rfl dX3_amnesty_0 ?_
  refine x_iconst X dX3_amnesty_1 ?_
  refine x_sipush X (by decide) dX3_amnesty_2 ?_
  refine x_callS (As := [.int (iI su), .int (iI 1), .int (iI 10000)]) (rest := []) (c1 := 0) (s1 := 0) X w hA (c_X3_isIn l D cs L f0 su 1 10000 (by omega)) k_X3_amnesty_X3_isIn (by decide) rfl hl rfl (Nat.le_of_ble_eq_true rfl) (by decide) rfl rfl dX3_amnesty_5 (fun v L1 f1 H locs w hp => ?_)
  obtain ⟨rfl, rfl, hp⟩ := hp
  rcases hp with ⟨rfl, hq5⟩ | ⟨rfl, hq5⟩
  · show W p l e _ s m _ below meth c _ _ _ _ _ (F0 m 8 ls [.int (iI 1)])
    refine x_ifF_eq (tgt := 23) X (by decide) (by decide) (by decide) dX3_amnesty_8 ?_
    refine x_il_n X hl 2 rfl rfl dX3_amnesty_11 ?_
    refine x_iconst X dX3_amnesty_12 ?_
    refine x_al_n X hl 0 rfl rfl dX3_amnesty_13 ?_
    refine x_get X w hC.mx hC.fx fq_X3_amnesty_77 rfl dX3_amnesty_14 ?_
    refine x_callS (As := [.int (iI dy), .int (iI 0), .int (iI (gT σ))]) (rest := []) (c1 := 0) (s1 := 0) X w hA (c_X3_isIn l D cs L f0 dy 0 (gT σ) (by omega)) k_X3_amnesty_X3_isIn (by decide) rfl hl rfl (Nat.le_of_ble_eq_true rfl) (by decide) rfl rfl dX3_amnesty_17 (fun v L1 f1 H locs w hp => ?_)
    obtain ⟨rfl, rfl, hp⟩ := hp
    rcases hp with ⟨rfl, hq17⟩ | ⟨rfl, hq17⟩
    · show W p l e _ s m _ below meth c _ _ _ _ _ (F0 m 20 ls [.int (iI 1)])
      refine x_ifT_ne (tgt := 33) X (by decide) (by decide) (by decide) dX3_amnesty_20 ?_
      refine x_iconst X dX3_amnesty_33 ?_
      refine x_is_n (lv' := [(3, .int (iI 0)), (0, .ref x), (1, .int (iI su)), (2, .int (iI dy))]) X hl rfl (by decide) rfl dX3_amnesty_34 (fun ls hl => ?_)
      refine x_iconst X dX3_amnesty_35 ?_
      refine x_is (lv' := [(4, .int (iI 0)), (3, .int (iI 0)), (0, .ref x), (1, .int (iI su)), (2, .int (iI dy))]) X hl (by decide) rfl dX3_amnesty_36 (fun ls hl => ?_)
      refine x_al_n X hl 2 rfl rfl dX3_amnesty_38 ?_
      refine x_get X w hC.mx hC.fx fq_X3_amnesty_10 rfl dX3_amnesty_39 ?_
      obtain ⟨r42, hRB, hO⟩ := hC.rb
      refine x_callV (As := []) (rest := []) (c1 := 0) (s1 := 0) X w hA (c_X1_count l D cs L f0 br ba (gN σ) r42 (gR σ)  hRB hO) k_X3_amnesty_X1_count (by decide) hC.mb hC.fb rfl rfl rfl hl rfl (Nat.le_of_ble_eq_true rfl) (by decide) rfl rfl dX3_amnesty_42 (fun v L1 f1 H locs w hp => ?_)
      obtain ⟨rfl, rfl, hp⟩ := hp
      subst hp
      show W p l e _ s m _ below meth c _ _ _ _ _ (F0 m 45 ls [.int (iI (gN σ))])
      refine x_is (lv' := [(5, .int (iI (gN σ))), (4, .int (iI 0)), (3, .int (iI 0)), (0, .ref x), (1, .int (iI su)), (2, .int (iI dy))]) X hl (by decide) rfl dX3_amnesty_45 (fun ls hl => ?_)
      have loop47 : ∀ (N9 : Nat) (σ2 : Sg) (f1 : Nat → va_E) (pl : Int) (tk : Int) (mm : Nat) (H : Heap) (locs : List Loc) (ls : Array Slot), mm < N9 → (Inv σ2) → (CC cs L f1 x br ba pr sz lr σ2) → (FC L f0 f1 x br ba pr sz lr) → (0 ≤ pl ∧ pl + (mm : Int) = gN σ2) → (gT σ2 = gT σ) → (tk + (oLoop (amP su dy) false mm pl σ2).1 = (oLoop (amP su dy) false (gN σ).toNat 0 σ).1) → ((oLoop (amP su dy) false mm pl σ2).2 = (oLoop (amP su dy) false (gN σ).toNat 0 σ).2) → XW D A s.heap L f1 H locs → lv_has ls 7 [(0, .ref x), (1, .int (iI su)), (2, .int (iI dy)), (3, .int (iI tk)), (4, .int (iI pl)), (5, .int (iI (mm : Int)))] → W p l e ({ frames := 7, cells := 1, slots := 6, locals := 140 } : Room) s m ([.ref x, .int (iI su), .int (iI dy)] : List Value).toArray below meth c H locs 0 0 (vx_MQ below (CQ D cs A (fun v L1 f1 => CPi cs L f0 x br ba pr sz lr (oAmn su dy σ) v L1 f1)) (EX D cs A L f0 (fun E => PXA (oAmn su dy σ) E)) ([.ref x, .int (iI su), .int (iI dy)] : List Value).toArray s 1 6 A) (F0 m 47 ls []) := by
        intro N9
        induction N9 with
        | zero => intro σ2 f1 pl tk mm H locs ls h9; exact absurd h9 (Nat.not_lt_zero _)
        | succ N9 ih47 =>
          intro σ2 f1 pl tk mm H locs ls h9 hI2 hC hF hp0 hT hQ hQ2 w hl
          have hn := hI2.n; have hk := hI2.k; have ht := hI2.t; have hsw := hI2.s; have hz4 := hI2.z4
          refine x_il X hl 5 rfl dX3_amnesty_47 ?_
          refine x_if_le (tgt := 113) X (by omega) (by decide) dX3_amnesty_49 (fun hb49 => ?_) (fun hb49 => ?_)
          · refine x_il_n X hl 3 rfl rfl dX3_amnesty_113 ?_
            refine vx_ret ?_
            refine x_iret X w hr hlk ⟨by decide, by decide⟩ dX3_amnesty_114 ?_
            have he9 : mm = 0 := by omega
            subst he9
            have hQ : tk + 0 = (oLoop (amP su dy) false (gN σ).toNat 0 σ).1 := hQ
            rw [Int.add_zero] at hQ
            have hQ2 : σ2 = (oLoop (amP su dy) false (gN σ).toNat 0 σ).2 := hQ2
            have ho : oAmn su dy σ = (0, tk, σ2) := by unfold oAmn; rw [if_pos (by omega), ← hQ, ← hQ2]
            rw [ho]
            exact ⟨rfl, rfl, hC, fun _ h => h, hF⟩
          · obtain ⟨m1, rfl⟩ : ∃ m1 : Nat, mm = m1 + 1 := ⟨mm - 1, by omega⟩
            have hrec := hI2.r pl (by omega) (by omega)
            refine x_al_n X hl 0 rfl rfl dX3_amnesty_52 ?_
            refine x_get X w hC.mx hC.fx fq_X3_amnesty_10 rfl dX3_amnesty_53 ?_
            refine x_il X hl 4 rfl dX3_amnesty_56 ?_
            obtain ⟨r58, hRB, hO⟩ := hC.rb
            refine x_callV (As := [.int (iI pl)]) (rest := []) (c1 := 0) (s1 := 0) X w hA (c_X1_bailAt l D cs L f1 br ba (gN σ2) r58 (gR σ2) pl hRB hO (by omega)) k_X3_amnesty_X1_bailAt (by decide) hC.mb hC.fb rfl rfl rfl hl rfl (Nat.le_of_ble_eq_true rfl) (by decide) rfl rfl dX3_amnesty_58 (fun v L1 f1 H locs w hp => ?_)
            obtain ⟨rfl, rfl, hp⟩ := hp
            rcases hp with ⟨a58, rfl, ha58, hm58, hf58, hq58⟩ | ⟨rfl, hq58⟩
            · show W p l e _ s m _ below meth c _ _ _ _ _ (F0 m 61 ls [.ref a58])
              refine x_as (lv' := [(6, .ref a58), (0, .ref x), (1, .int (iI su)), (2, .int (iI dy)), (3, .int (iI tk)), (4, .int (iI pl)), (5, .int (iI ((m1 + 1 : Nat) : Int)))]) X hl (by decide) rfl dX3_amnesty_61 (fun ls hl => ?_)
              refine x_al X hl 0 rfl dX3_amnesty_63 ?_
              refine x_ifnull_r X dX3_amnesty_65 ?_
              refine x_al X hl 0 rfl dX3_amnesty_68 ?_
              refine x_il_n X hl 2 rfl rfl dX3_amnesty_70 ?_
              refine x_il_n X hl 3 rfl rfl dX3_amnesty_71 ?_
              refine x_callV (As := [.int (iI su), .int (iI dy)]) (rest := []) (c1 := 0) (s1 := 0) X w hA (c_X0_isUnder l D cs L f1 a58 ((gR σ2) pl) su dy hm58 hf58 (by omega)) k_X3_amnesty_X0_isUnder (by decide) hm58 hf58 rfl rfl rfl hl rfl (Nat.le_of_ble_eq_true rfl) (by decide) rfl rfl dX3_amnesty_72 (fun v L1 f1 H locs w hp => ?_)
              obtain ⟨rfl, rfl, hp⟩ := hp
              rcases hp with ⟨rfl, hq72⟩ | ⟨rfl, hq72⟩
              · show W p l e _ s m _ below meth c _ _ _ _ _ (F0 m 75 ls [.int (iI 1)])
                refine x_ifF_eq (tgt := 104) X (by decide) (by decide) (by decide) dX3_amnesty_75 ?_
                refine x_al_n X hl 1 rfl rfl dX3_amnesty_78 ?_
                refine x_dup X rfl dX3_amnesty_79 ?_
                refine x_get X w hC.mx hC.fx fq_X3_amnesty_94 rfl dX3_amnesty_80 ?_
                refine x_al X hl 0 rfl dX3_amnesty_83 ?_
                refine x_get X w hm58 hf58 fq_X3_amnesty_97 rfl dX3_amnesty_85 ?_
                refine x_iadd X dX3_amnesty_88 ?_
                refine x_put X w hC.mx hC.fx fp_X3_amnesty_94 rfl rfl (Nat.le_of_ble_eq_true rfl) rfl dX3_amnesty_89 (fun H locs w => ?_)
                have hCo := hC
                obtain ⟨f92, w, hC, hF, hFx⟩ : ∃ f9, XW D A s.heap L f9 H locs ∧ CX cs L f9 x br ba pr sz lr (gN σ2) (gR σ2) (gK σ2) (gZ σ2) (gT σ2) (gP σ2) ((gB σ2) + ((gR σ2) pl 1)) (gS σ2) (gW σ2) ∧ FC L f0 f9 x br ba pr sz lr ∧ FT f1 f9 x br ba pr sz := ⟨_, w, hC.fld _ _ _ _, hF.xx, (FT.rf _ _ _ _ _ _).xx⟩
                have hf58 := FT.bail hCo hFx hf58
                refine x_al_n X hl 1 rfl rfl dX3_amnesty_92 ?_
                refine x_il X hl 5 rfl dX3_amnesty_93 ?_
                refine x_callV (As := [.int (iI pl)]) (rest := []) (c1 := 0) (s1 := 0) X w hA (c_X3_takeOut l D cs L f92 x br ba pr sz lr (oAdd false ((gR σ2) pl 1) σ2) pl hC hI2 (show 0 ≤ pl ∧ pl < gN σ2 from by omega)) k_X3_amnesty_X3_takeOut (by decide) hC.mx hC.fx rfl rfl rfl hl rfl (Nat.le_of_ble_eq_true rfl) (by decide) rfl rfl dX3_amnesty_95 (fun v L1 f1 H locs w hp => ?_)
                obtain ⟨rfl, rfl, hFT, hC2⟩ := hp
                have hf58 := FT.bail hC hFT hf58
                have hC := hC2
                have hF := hF.t hFT
                have hI95 : Inv (oTake pl (oAdd false ((gR σ2) pl 1) σ2)) := Inv.take hI2 (show 0 ≤ pl ∧ pl < gN σ2 from by omega)
                show W p l e _ s m _ below meth c _ _ _ _ _ (F0 m 98 ls [])
                refine x_iinc (lv' := [(3, .int (iI (tk + 1))), (6, .ref a58), (0, .ref x), (1, .int (iI su)), (2, .int (iI dy)), (4, .int (iI pl)), (5, .int (iI ((m1 + 1 : Nat) : Int)))]) X hl 4 rfl (by decide) rfl dX3_amnesty_98 (fun ls hl => ?_)
                refine x_goto (tgt := 107) X (by decide) dX3_amnesty_101 ?_
                refine x_iinc (lv' := [(5, .int (iI (((m1 + 1 : Nat) : Int) + (-1)))), (3, .int (iI (tk + 1))), (6, .ref a58), (0, .ref x), (1, .int (iI su)), (2, .int (iI dy)), (4, .int (iI pl))]) X hl 6 rfl (by decide) rfl dX3_amnesty_107 (fun ls hl => ?_)
                rw [show ((m1 + 1 : Nat) : Int) + (-1) = (m1 : Int) from by omega] at hl
                have hN1 : gN (oTake pl (oAdd false (gR σ2 pl 1) σ2)) = gN σ2 - 1 := rfl
                rw [oLoop_t (by exact hq72)] at hQ hQ2
                refine x_goto (tgt := 47) X (by decide) dX3_amnesty_110 ?_
                refine ih47 _ f1 pl (tk + 1) m1 _ _ _ (by omega) hI95 hC hF (⟨by omega, by rw [hN1]; omega⟩) hT (by rw [← hQ]; show _ = tk + (_ + 1); omega) hQ2 w (lv_sub hl [3, 4, 5, 1, 6, 0] rfl)
              · show W p l e _ s m _ below meth c _ _ _ _ _ (F0 m 75 ls [.int (iI 0)])
                refine x_ifT_eq (tgt := 104) X (by decide) (by decide) (by decide) dX3_amnesty_75 ?_
                refine x_iinc (lv' := [(4, .int (iI (pl + 1))), (6, .ref a58), (0, .ref x), (1, .int (iI su)), (2, .int (iI dy)), (3, .int (iI tk)), (5, .int (iI ((m1 + 1 : Nat) : Int)))]) X hl 5 rfl (by decide) rfl dX3_amnesty_104 (fun ls hl => ?_)
                refine x_iinc (lv' := [(5, .int (iI (((m1 + 1 : Nat) : Int) + (-1)))), (4, .int (iI (pl + 1))), (6, .ref a58), (0, .ref x), (1, .int (iI su)), (2, .int (iI dy)), (3, .int (iI tk))]) X hl 6 rfl (by decide) rfl dX3_amnesty_107 (fun ls hl => ?_)
                rw [show ((m1 + 1 : Nat) : Int) + (-1) = (m1 : Int) from by omega] at hl
                rw [oLoop_f (by exact hq72)] at hQ hQ2
                refine x_goto (tgt := 47) X (by decide) dX3_amnesty_110 ?_
                refine ih47 σ2 f1 (pl + 1) tk m1 _ _ _ (by omega) hI2 hC hF (by omega) hT hQ hQ2 w (lv_sub hl [3, 4, 5, 6, 1, 0] rfl)
            · exfalso; omega
      rw [show (gN σ) = ((gN σ).toNat : Int) from by omega] at hl
      refine loop47 _ σ f0 0 0 ((gN σ).toNat) _ _ _ (Nat.lt_succ_self _) hI hC hF (by omega) rfl (Int.zero_add _) rfl w (lv_sub hl [3, 4, 5, 2, 1, 0] rfl)
    · show W p l e _ s m _ below meth c _ _ _ _ _ (F0 m 20 ls [.int (iI 0)])
      refine x_ifF_ne (tgt := 33) X (by decide) (by decide) (by decide) dX3_amnesty_20 ?_
      refine x_throw X w hl9 hV hZ hlk hout hl xt_X3_amnesty_111 dX3_amnesty_23 dX3_amnesty_26 dX3_amnesty_27 dX3_amnesty_29 dX3_amnesty_32 ⟨by decide, (Nat.le_of_ble_eq_true rfl), by decide, by decide⟩ ⟨by decide, by decide⟩ ?_
      exact Or.inl ⟨by unfold oAmn; rw [if_neg (by omega)], rfl⟩
  · show W p l e _ s m _ below meth c _ _ _ _ _ (F0 m 8 ls [.int (iI 0)])
    refine x_ifT_eq (tgt := 23) X (by decide) (by decide) (by decide) dX3_amnesty_8 ?_
    refine x_throw X w hl9 hV hZ hlk hout hl xt_X3_amnesty_111 dX3_amnesty_23 dX3_amnesty_26 dX3_amnesty_27 dX3_amnesty_29 dX3_amnesty_32 ⟨by decide, (Nat.le_of_ble_eq_true rfl), by decide, by decide⟩ ⟨by decide, by decide⟩ ?_
    exact Or.inl ⟨by unfold oAmn; rw [if_neg (by omega)], rfl⟩

theorem k_X3_pass_X3_isIn : XS wsX3_pass RX3 35 yX3_isIn cX3_isIn 3 (some .boolean) wsX3_isIn 3 := ⟨gX3_pass_X3_isIn, ⟨_, rfl⟩, by decide, by decide, by decide +kernel⟩
theorem iw_X3_pass_X3 : ∀ w ∈ wsX30, w ∈ wsX3_pass := by decide +kernel
theorem fq_X3_pass_77 : XF wsX3_pass RX3 77 3 3 := ⟨RX3, TX3, 7, iw_X3_pass_X3, rfl, by decide, by decide +kernel⟩
theorem fp_X3_pass_77 : XGn wsX3_pass RX3 77 3 3 (tyX3 3) := ⟨RX3, TX3, 7, tyX3, iw_X3_pass_X3, rfl, by decide, by decide +kernel, tyX3_ok, nmX3, rfl, by decide +kernel⟩
theorem k_X3_pass_X3_keepOverdue : XV wsX3_pass RX3 132 RX3 yX3_keepOverdue cX3_keepOverdue 5 (some .int) wsX3_keepOverdue 0 := ⟨gX3_pass_X3_keepOverdue, ⟨_, rfl⟩, rfl, by decide, by decide, by decide +kernel⟩
theorem xt_X3_pass_130 : XT wsX3_pass RX3 54 130 58 XIS "today would be above the last day" := ⟨by decide +kernel, by decide +kernel, by decide +kernel, by decide, xt_g58.1, xt_g58.2, by decide, rfl⟩
theorem xt_X3_pass_128 : XT wsX3_pass RX3 39 128 43 XIA "days out of range" := ⟨by decide +kernel, by decide +kernel, by decide +kernel, by decide, xt_g43.1, xt_g43.2, by decide, rfl⟩
set_option maxHeartbeats 4000000 in
set_option maxRecDepth 100000 in
theorem c_X3_pass (l : Launch) (D : va_G) (cs : ClassId × ClassId × ClassId) (hl9 : l.stackTraces = false) (L : List Nat) (f0 : Nat → va_E) (x br ba pr sz lr : Nat) (σ : Sg) (d : Int) (hC : CC cs L f0 x br ba pr sz lr σ) (hI : Inv σ) (hrg : (-2147483648 ≤ d ∧ d < 2147483648)) : C1 l yX3_pass wsX3_pass ({ frames := 8, cells := 1, slots := 6, locals := 164 } : Room) D cs [.ref x, .int (iI d)] L f0 (fun v L1 f1 => CPi cs L f0 x br ba pr sz lr (oPas d σ) v L1 f1) (fun E => PXA (oPas d σ) E) := by
  refine C1.of (cc := cX3_pass) (maxL := 4) (ret := (some .int)) (by decide) rfl (Nat.le_of_ble_eq_true rfl) ?_
  intro p e s m below meth c X hr hlk hout hV A hA hZ w ls hl
  have hl : lv_has ls 4 [(0, .ref x), (1, .int (iI d))] := hl
  have hn := hI.n; have hk := hI.k; have ht := hI.t; have hsw := hI.s; have hz4 := hI.z4
  have hF : FC L f0 f0 x br ba pr sz lr := FC.rf _ _ _ _ _ _ _ _
  refine x_il_n X hl 1 rfl rfl dX3_pass_0 ?_
  refine x_iconst X dX3_pass_1 ?_
  refine x_bipush X (by decide) dX3_pass_2 ?_
  refine x_callS (As := [.int (iI d), .int (iI 1), .int (iI 100)]) (rest := []) (c1 := 0) (s1 := 0) X w hA (c_X3_isIn l D cs L f0 d 1 100 (by omega)) k_X3_pass_X3_isIn (by decide) rfl hl rfl (Nat.le_of_ble_eq_true rfl) (by decide) rfl rfl dX3_pass_4 (fun v L1 f1 H locs w hp => ?_)
  obtain ⟨rfl, rfl, hp⟩ := hp
  rcases hp with ⟨rfl, hq4⟩ | ⟨rfl, hq4⟩
  · show W p l e _ s m _ below meth c _ _ _ _ _ (F0 m 7 ls [.int (iI 1)])
    refine x_ifT_ne (tgt := 20) X (by decide) (by decide) (by decide) dX3_pass_7 ?_
    refine x_al_n X hl 0 rfl rfl dX3_pass_20 ?_
    refine x_get X w hC.mx hC.fx fq_X3_pass_77 rfl dX3_pass_21 ?_
    refine x_il_n X hl 1 rfl rfl dX3_pass_24 ?_
    refine x_iadd X dX3_pass_25 ?_
    refine x_sipush X (by decide) dX3_pass_26 ?_
    refine x_icmp_le (tgt := 42) X (by omega) (by decide) dX3_pass_29 (fun hb29 => ?_) (fun hb29 => ?_)
    · refine x_iconst X dX3_pass_42 ?_
      refine x_is_n (lv' := [(2, .int (iI 0)), (0, .ref x), (1, .int (iI d))]) X hl rfl (by decide) rfl dX3_pass_43 (fun ls hl => ?_)
      refine x_iconst X dX3_pass_44 ?_
      refine x_is_n (lv' := [(3, .int (iI 0)), (2, .int (iI 0)), (0, .ref x), (1, .int (iI d))]) X hl rfl (by decide) rfl dX3_pass_45 (fun ls hl => ?_)
      have loop46 : ∀ (N9 : Nat) (σ2 : Sg) (f1 : Nat → va_E) (i : Int) (tk : Int) (mm : Nat) (H : Heap) (locs : List Loc) (ls : Array Slot), mm < N9 → (Inv σ2) → (CC cs L f1 x br ba pr sz lr σ2) → (FC L f0 f1 x br ba pr sz lr) → (0 ≤ i ∧ i + (mm : Int) = d) → (gT σ2 + (mm : Int) ≤ 5000) → (tk + (oDays mm σ2).1 = (oDays d.toNat σ).1) → ((oDays mm σ2).2 = (oDays d.toNat σ).2) → XW D A s.heap L f1 H locs → lv_has ls 4 [(0, .ref x), (1, .int (iI d)), (2, .int (iI tk)), (3, .int (iI i))] → W p l e ({ frames := 8, cells := 1, slots := 6, locals := 164 } : Room) s m ([.ref x, .int (iI d)] : List Value).toArray below meth c H locs 0 0 (vx_MQ below (CQ D cs A (fun v L1 f1 => CPi cs L f0 x br ba pr sz lr (oPas d σ) v L1 f1)) (EX D cs A L f0 (fun E => PXA (oPas d σ) E)) ([.ref x, .int (iI d)] : List Value).toArray s 1 6 A) (F0 m 46 ls []) := by
        intro N9
        induction N9 with
        | zero => intro σ2 f1 i tk mm H locs ls h9; exact absurd h9 (Nat.not_lt_zero _)
        | succ N9 ih46 =>
          intro σ2 f1 i tk mm H locs ls h9 hI2 hC hF hi hT hQ hQ2 w hl
          have hn := hI2.n; have hk := hI2.k; have ht := hI2.t; have hsw := hI2.s; have hz4 := hI2.z4
          refine x_il_n X hl 3 rfl rfl dX3_pass_46 ?_
          refine x_il_n X hl 1 rfl rfl dX3_pass_47 ?_
          refine x_icmp_ge (tgt := 74) X (by omega) (by decide) dX3_pass_48 (fun hb48 => ?_) (fun hb48 => ?_)
          · refine x_il_n X hl 2 rfl rfl dX3_pass_74 ?_
            refine vx_ret ?_
            refine x_iret X w hr hlk ⟨by decide, by decide⟩ dX3_pass_75 ?_
            have he9 : mm = 0 := by omega
            subst he9
            have hQ : tk + 0 = (oDays d.toNat σ).1 := hQ
            rw [Int.add_zero] at hQ
            have hQ2 : σ2 = (oDays d.toNat σ).2 := hQ2
            have ho : oPas d σ = (0, tk, σ2) := by unfold oPas; rw [if_pos (by omega), if_neg (by omega), ← hQ, ← hQ2]
            rw [ho]
            exact ⟨rfl, rfl, hC, fun _ h => h, hF⟩
          · obtain ⟨m1, rfl⟩ : ∃ m1 : Nat, mm = m1 + 1 := ⟨mm - 1, by omega⟩
            refine x_al_n X hl 0 rfl rfl dX3_pass_51 ?_
            refine x_dup X rfl dX3_pass_52 ?_
            refine x_get X w hC.mx hC.fx fq_X3_pass_77 rfl dX3_pass_53 ?_
            refine x_iconst X dX3_pass_56 ?_
            refine x_iadd X dX3_pass_57 ?_
            refine x_put X w hC.mx hC.fx fp_X3_pass_77 rfl rfl (Nat.le_of_ble_eq_true rfl) rfl dX3_pass_58 (fun H locs w => ?_)
            obtain ⟨f61, w, hC, hF⟩ : ∃ f9, XW D A s.heap L f9 H locs ∧ CX cs L f9 x br ba pr sz lr (gN σ2) (gR σ2) (gK σ2) (gZ σ2) ((gT σ2) + 1) (gP σ2) (gB σ2) (gS σ2) (gW σ2) ∧ FC L f0 f9 x br ba pr sz lr := ⟨_, w, hC.fld _ _ _ _, hF.xx⟩
            have hId := Inv.day hI2 (by omega)
            refine x_il_n X hl 2 rfl rfl dX3_pass_61 ?_
            refine x_al_n X hl 0 rfl rfl dX3_pass_62 ?_
            refine x_callV (As := []) (rest := [.int (iI tk)]) (c1 := 0) (s1 := 0) X w hA (c_X3_keepOverdue l D cs L f61 x br ba pr sz lr (oDay σ2) hC hId) k_X3_pass_X3_keepOverdue (by decide) hC.mx hC.fx rfl rfl rfl hl rfl (Nat.le_of_ble_eq_true rfl) (by decide) rfl rfl dX3_pass_63 (fun v L1 f1 H locs w hp => ?_)
            obtain ⟨rfl, rfl, hFT, hC⟩ := hp
            have hF := hF.t hFT
            have hI63 := Inv.ov hId
            show W p l e _ s m _ below meth c _ _ _ _ _ (F0 m 66 ls [.int (iI ((oOv (oDay σ2)).1)), .int (iI tk)])
            refine x_iadd X dX3_pass_66 ?_
            refine x_is_n (lv' := [(2, .int (iI (tk + ((oOv (oDay σ2)).1)))), (0, .ref x), (1, .int (iI d)), (3, .int (iI i))]) X hl rfl (by decide) rfl dX3_pass_67 (fun ls hl => ?_)
            refine x_iinc (lv' := [(3, .int (iI (i + 1))), (2, .int (iI (tk + ((oOv (oDay σ2)).1)))), (0, .ref x), (1, .int (iI d))]) X hl 3 rfl (by decide) rfl dX3_pass_68 (fun ls hl => ?_)
            refine x_goto (tgt := 46) X (by decide) dX3_pass_71 ?_
            refine ih46 _ f1 (i + 1) (tk + (oOv (oDay σ2)).1) m1 _ _ _ (by omega) hI63 hC hF (by omega) (by have h9 : gT (oOv (oDay σ2)).2 = gT σ2 + 1 := (loop_T _).trans rfl; rw [h9]; omega) (by rw [← hQ]; show _ = tk + ((oOv (oDay σ2)).1 + (oDays m1 (oOv (oDay σ2)).2).1); omega) hQ2 w (lv_sub hl [2, 3, 1, 0] rfl)
      refine loop46 _ σ f0 0 0 (d.toNat) _ _ _ (Nat.lt_succ_self _) hI hC hF (by omega) (by omega) (Int.zero_add _) rfl w (lv_sub hl [2, 3, 1, 0] rfl)
    · refine x_throw X w hl9 hV hZ hlk hout hl xt_X3_pass_130 dX3_pass_32 dX3_pass_35 dX3_pass_36 dX3_pass_38 dX3_pass_41 ⟨by decide, (Nat.le_of_ble_eq_true rfl), by decide, by decide⟩ ⟨by decide, by decide⟩ ?_
      exact Or.inr ⟨by unfold oPas; rw [if_pos (by omega), if_pos (show 5000 < gT σ + d from by omega)], rfl⟩
  · show W p l e _ s m _ below meth c _ _ _ _ _ (F0 m 7 ls [.int (iI 0)])
    refine x_ifF_ne (tgt := 20) X (by decide) (by decide) (by decide) dX3_pass_7 ?_
    refine x_throw X w hl9 hV hZ hlk hout hl xt_X3_pass_128 dX3_pass_10 dX3_pass_13 dX3_pass_14 dX3_pass_16 dX3_pass_19 ⟨by decide, (Nat.le_of_ble_eq_true rfl), by decide, by decide⟩ ⟨by decide, by decide⟩ ?_
    exact Or.inl ⟨by unfold oPas; rw [if_neg (by omega)], rfl⟩

theorem k_X3_step_X3_isIn : XS wsX3_step RX3 35 yX3_isIn cX3_isIn 3 (some .boolean) wsX3_isIn 3 := ⟨gX3_step_X3_isIn, ⟨_, rfl⟩, by decide, by decide, by decide +kernel⟩
theorem iw_X3_step_X3 : ∀ w ∈ wsX30, w ∈ wsX3_step := by decide +kernel
theorem fq_X3_step_27 : XF wsX3_step RX3 27 3 6 := ⟨RX3, TX3, 7, iw_X3_step_X3, rfl, by decide, by decide +kernel⟩
theorem k_X3_step_X3_sweepOn : XV wsX3_step RX3 161 RX3 yX3_sweepOn cX3_sweepOn 1 (some .int) wsX3_sweepOn 0 := ⟨gX3_step_X3_sweepOn, ⟨_, rfl⟩, rfl, by decide, by decide, by decide +kernel⟩
theorem xt_X3_step_159 : XT wsX3_step RX3 54 159 58 XIS "no sweep goes on" := ⟨by decide +kernel, by decide +kernel, by decide +kernel, by decide, xt_g58.1, xt_g58.2, by decide, rfl⟩
theorem xt_X3_step_157 : XT wsX3_step RX3 39 157 43 XIA "steps out of range" := ⟨by decide +kernel, by decide +kernel, by decide +kernel, by decide, xt_g43.1, xt_g43.2, by decide, rfl⟩
set_option maxHeartbeats 4000000 in
set_option maxRecDepth 100000 in
theorem c_X3_step (l : Launch) (D : va_G) (cs : ClassId × ClassId × ClassId) (hl9 : l.stackTraces = false) (L : List Nat) (f0 : Nat → va_E) (x br ba pr sz lr : Nat) (σ : Sg) (d : Int) (hC : CC cs L f0 x br ba pr sz lr σ) (hI : Inv σ) (hrg : (-2147483648 ≤ d ∧ d < 2147483648)) : C1 l yX3_step wsX3_step ({ frames := 6, cells := 1, slots := 6, locals := 97 } : Room) D cs [.ref x, .int (iI d)] L f0 (fun v L1 f1 => CPi cs L f0 x br ba pr sz lr (oSte d σ) v L1 f1) (fun E => PXA (oSte d σ) E) := by
  refine C1.of (cc := cX3_step) (maxL := 4) (ret := (some .int)) (by decide) rfl (Nat.le_of_ble_eq_true rfl) ?_
  intro p e s m below meth c X hr hlk hout hV A hA hZ w ls hl
  have hl : lv_has ls 4 [(0, .ref x), (1, .int (iI d))] := hl
  have hn := hI.n; have hk := hI.k; have ht := hI.t; have hsw := hI.s; have hz4 := hI.z4
  have hF : FC L f0 f0 x br ba pr sz lr := FC.rf _ _ _ _ _ _ _ _
  refine x_il_n X hl 1 rfl rfl dX3_step_0 ?_
  refine x_iconst X dX3_step_1 ?_
  refine x_bipush X (by decide) dX3_step_2 ?_
  refine x_callS (As := [.int (iI d), .int (iI 1), .int (iI 100)]) (rest := []) (c1 := 0) (s1 := 0) X w hA (c_X3_isIn l D cs L f0 d 1 100 (by omega)) k_X3_step_X3_isIn (by decide) rfl hl rfl (Nat.le_of_ble_eq_true rfl) (by decide) rfl rfl dX3_step_4 (fun v L1 f1 H locs w hp => ?_)
  obtain ⟨rfl, rfl, hp⟩ := hp
  rcases hp with ⟨rfl, hq4⟩ | ⟨rfl, hq4⟩
  · show W p l e _ s m _ below meth c _ _ _ _ _ (F0 m 7 ls [.int (iI 1)])
    refine x_ifT_ne (tgt := 20) X (by decide) (by decide) (by decide) dX3_step_7 ?_
    refine x_al_n X hl 0 rfl rfl dX3_step_20 ?_
    refine x_get X w hC.mx hC.fx fq_X3_step_27 rfl dX3_step_21 ?_
    refine x_iconst X dX3_step_24 ?_
    refine x_icmp_ne (tgt := 38) X (by omega) (by decide) dX3_step_25 (fun hb25 => ?_) (fun hb25 => ?_)
    · refine x_iconst X dX3_step_38 ?_
      refine x_is_n (lv' := [(2, .int (iI 0)), (0, .ref x), (1, .int (iI d))]) X hl rfl (by decide) rfl dX3_step_39 (fun ls hl => ?_)
      refine x_iconst X dX3_step_40 ?_
      refine x_is_n (lv' := [(3, .int (iI 0)), (2, .int (iI 0)), (0, .ref x), (1, .int (iI d))]) X hl rfl (by decide) rfl dX3_step_41 (fun ls hl => ?_)
      have loop42 : ∀ (N9 : Nat) (σ2 : Sg) (f1 : Nat → va_E) (i : Int) (tk : Int) (mm : Nat) (H : Heap) (locs : List Loc) (ls : Array Slot), mm < N9 → (Inv σ2) → (CC cs L f1 x br ba pr sz lr σ2) → (FC L f0 f1 x br ba pr sz lr) → (0 ≤ i ∧ i + (mm : Int) = d) → (tk + (oSteps mm σ2).1 = (oSteps d.toNat σ).1) → ((oSteps mm σ2).2 = (oSteps d.toNat σ).2) → XW D A s.heap L f1 H locs → lv_has ls 4 [(0, .ref x), (1, .int (iI d)), (2, .int (iI tk)), (3, .int (iI i))] → W p l e ({ frames := 6, cells := 1, slots := 6, locals := 97 } : Room) s m ([.ref x, .int (iI d)] : List Value).toArray below meth c H locs 0 0 (vx_MQ below (CQ D cs A (fun v L1 f1 => CPi cs L f0 x br ba pr sz lr (oSte d σ) v L1 f1)) (EX D cs A L f0 (fun E => PXA (oSte d σ) E)) ([.ref x, .int (iI d)] : List Value).toArray s 1 6 A) (F0 m 42 ls []) := by
        intro N9
        induction N9 with
        | zero => intro σ2 f1 i tk mm H locs ls h9; exact absurd h9 (Nat.not_lt_zero _)
        | succ N9 ih42 =>
          intro σ2 f1 i tk mm H locs ls h9 hI2 hC hF hi hQ hQ2 w hl
          have hn := hI2.n; have hk := hI2.k; have ht := hI2.t; have hsw := hI2.s; have hz4 := hI2.z4
          refine x_il_n X hl 3 rfl rfl dX3_step_42 ?_
          refine x_il_n X hl 1 rfl rfl dX3_step_43 ?_
          refine x_icmp_ge (tgt := 68) X (by omega) (by decide) dX3_step_44 (fun hb44 => ?_) (fun hb44 => ?_)
          · refine x_il_n X hl 2 rfl rfl dX3_step_68 ?_
            refine vx_ret ?_
            refine x_iret X w hr hlk ⟨by decide, by decide⟩ dX3_step_69 ?_
            have he9 : mm = 0 := by omega
            subst he9
            have hQ : tk + 0 = (oSteps d.toNat σ).1 := hQ
            rw [Int.add_zero] at hQ
            have hQ2 : σ2 = (oSteps d.toNat σ).2 := hQ2
            have ho : oSte d σ = (0, tk, σ2) := by unfold oSte; rw [if_pos (by omega), if_neg (by omega), ← hQ, ← hQ2]
            rw [ho]
            exact ⟨rfl, rfl, hC, fun _ h => h, hF⟩
          · refine x_al_n X hl 0 rfl rfl dX3_step_47 ?_
            refine x_get X w hC.mx hC.fx fq_X3_step_27 rfl dX3_step_48 ?_
            refine x_iconst X dX3_step_51 ?_
            refine x_icmp_eq (tgt := 68) X (by omega) (by decide) dX3_step_52 (fun hb52 => ?_) (fun hb52 => ?_)
            · refine x_il_n X hl 2 rfl rfl dX3_step_68 ?_
              refine vx_ret ?_
              refine x_iret X w hr hlk ⟨by decide, by decide⟩ dX3_step_69 ?_
              rw [oSteps_0 hb52] at hQ hQ2
              have hQ : tk + 0 = (oSteps d.toNat σ).1 := hQ
              rw [Int.add_zero] at hQ
              have hQ2 : σ2 = (oSteps d.toNat σ).2 := hQ2
              have ho : oSte d σ = (0, tk, σ2) := by unfold oSte; rw [if_pos (by omega), if_neg (by omega), ← hQ, ← hQ2]
              rw [ho]
              exact ⟨rfl, rfl, hC, fun _ h => h, hF⟩
            · obtain ⟨m1, rfl⟩ : ∃ m1 : Nat, mm = m1 + 1 := ⟨mm - 1, by omega⟩
              rw [oSteps_n hb52] at hQ hQ2
              refine x_il_n X hl 2 rfl rfl dX3_step_55 ?_
              refine x_al_n X hl 0 rfl rfl dX3_step_56 ?_
              refine x_callV (As := []) (rest := [.int (iI tk)]) (c1 := 0) (s1 := 0) X w hA (c_X3_sweepOn l D cs L f1 x br ba pr sz lr σ2 hC hI2 (by omega)) k_X3_step_X3_sweepOn (by decide) hC.mx hC.fx rfl rfl rfl hl rfl (Nat.le_of_ble_eq_true rfl) (by decide) rfl rfl dX3_step_57 (fun v L1 f1 H locs w hp => ?_)
              obtain ⟨rfl, rfl, hFT, hC⟩ := hp
              have hF := hF.t hFT
              have hI57 := Inv.sw hI2 (by omega)
              show W p l e _ s m _ below meth c _ _ _ _ _ (F0 m 60 ls [.int (iI ((oSw σ2).1)), .int (iI tk)])
              refine x_iadd X dX3_step_60 ?_
              refine x_is_n (lv' := [(2, .int (iI (tk + ((oSw σ2).1)))), (0, .ref x), (1, .int (iI d)), (3, .int (iI i))]) X hl rfl (by decide) rfl dX3_step_61 (fun ls hl => ?_)
              refine x_iinc (lv' := [(3, .int (iI (i + 1))), (2, .int (iI (tk + ((oSw σ2).1)))), (0, .ref x), (1, .int (iI d))]) X hl 3 rfl (by decide) rfl dX3_step_62 (fun ls hl => ?_)
              refine x_goto (tgt := 42) X (by decide) dX3_step_65 ?_
              refine ih42 _ f1 (i + 1) (tk + (oSw σ2).1) m1 _ _ _ (by omega) hI57 hC hF (by omega) (by rw [← hQ]; show _ = tk + ((oSw σ2).1 + (oSteps m1 (oSw σ2).2).1); omega) hQ2 w (lv_sub hl [2, 3, 1, 0] rfl)
      refine loop42 _ σ f0 0 0 (d.toNat) _ _ _ (Nat.lt_succ_self _) hI hC hF (by omega) (Int.zero_add _) rfl w (lv_sub hl [2, 3, 1, 0] rfl)
    · refine x_throw X w hl9 hV hZ hlk hout hl xt_X3_step_159 dX3_step_28 dX3_step_31 dX3_step_32 dX3_step_34 dX3_step_37 ⟨by decide, (Nat.le_of_ble_eq_true rfl), by decide, by decide⟩ ⟨by decide, by decide⟩ ?_
      exact Or.inr ⟨by unfold oSte; rw [if_pos (by omega), if_pos (show gS σ = -1 from by omega)], rfl⟩
  · show W p l e _ s m _ below meth c _ _ _ _ _ (F0 m 7 ls [.int (iI 0)])
    refine x_ifF_ne (tgt := 20) X (by decide) (by decide) (by decide) dX3_step_7 ?_
    refine x_throw X w hl9 hV hZ hlk hout hl xt_X3_step_157 dX3_step_10 dX3_step_13 dX3_step_14 dX3_step_16 dX3_step_19 ⟨by decide, (Nat.le_of_ble_eq_true rfl), by decide, by decide⟩ ⟨by decide, by decide⟩ ?_
    exact Or.inl ⟨by unfold oSte; rw [if_neg (by omega)], rfl⟩

theorem iw_X3_size_X3 : ∀ w ∈ wsX30, w ∈ wsX3_size := by decide +kernel
theorem fq_X3_size_19 : XF wsX3_size RX3 19 3 1 := ⟨RX3, TX3, 7, iw_X3_size_X3, rfl, by decide, by decide +kernel⟩
theorem k_X3_size_X2_has : XV wsX3_size RX3 135 RX2 yX2_has cX2_has 2 (some .boolean) wsX2_has 1 := ⟨gX3_size_X2_has, ⟨_, rfl⟩, rfl, by decide, by decide, by decide +kernel⟩
theorem k_X3_size_X2_sizeOf : XV wsX3_size RX3 66 RX2 yX2_sizeOf cX2_sizeOf 2 (some .int) wsX2_sizeOf 1 := ⟨gX3_size_X2_sizeOf, ⟨_, rfl⟩, rfl, by decide, by decide, by decide +kernel⟩
theorem xt_X3_size_141 : XT wsX3_size RX3 139 141 143 XIO "no such page" := ⟨by decide +kernel, by decide +kernel, by decide +kernel, by decide, xt_g143.1, xt_g143.2, by decide, rfl⟩
set_option maxHeartbeats 4000000 in
set_option maxRecDepth 100000 in
theorem c_X3_size (l : Launch) (D : va_G) (cs : ClassId × ClassId × ClassId) (hl9 : l.stackTraces = false) (L : List Nat) (f0 : Nat → va_E) (x br ba pr sz lr : Nat) (σ : Sg) (pg : Int) (hC : CC cs L f0 x br ba pr sz lr σ) (hI : Inv σ) (hrg : (-2147483648 ≤ pg ∧ pg < 2147483648)) : C1 l yX3_size wsX3_size ({ frames := 6, cells := 1, slots := 6, locals := 90 } : Room) D cs [.ref x, .int (iI pg)] L f0 (fun v L1 f1 => CPi cs L f0 x br ba pr sz lr (oSiz pg σ) v L1 f1) (fun E => PXO (oSiz pg σ) E) := by
  refine C1.of (cc := cX3_size) (maxL := 2) (ret := (some .int)) (by decide) rfl (Nat.le_of_ble_eq_true rfl) ?_
  intro p e s m below meth c X hr hlk hout hV A hA hZ w ls hl
  have hl : lv_has ls 2 [(0, .ref x), (1, .int (iI pg))] := hl
  have hn := hI.n; have hk := hI.k; have ht := hI.t; have hsw := hI.s; have hz4 := hI.z4
  have hF : FC L f0 f0 x br ba pr sz lr := FC.rf _ _ _ _ _ _ _ _
  refine x_al_n X hl 0 rfl rfl dX3_size_0 ?_
  refine x_get X w hC.mx hC.fx fq_X3_size_19 rfl dX3_size_1 ?_
  refine x_il_n X hl 1 rfl rfl dX3_size_4 ?_
  refine x_callV (As := [.int (iI pg)]) (rest := []) (c1 := 0) (s1 := 0) X w hA (c_X2_has l D cs L f0 pr sz (gK σ) (gZ σ) pg hC.pp (by omega)) k_X3_size_X2_has (by decide) hC.pp.mp hC.pp.fp rfl rfl rfl hl rfl (Nat.le_of_ble_eq_true rfl) (by decide) rfl rfl dX3_size_5 (fun v L1 f1 H locs w hp => ?_)
  obtain ⟨rfl, rfl, hp⟩ := hp
  rcases hp with ⟨rfl, hq5⟩ | ⟨rfl, hq5⟩
  · show W p l e _ s m _ below meth c _ _ _ _ _ (F0 m 8 ls [.int (iI 1)])
    refine x_ifT_ne (tgt := 21) X (by decide) (by decide) (by decide) dX3_size_8 ?_
    refine x_al_n X hl 0 rfl rfl dX3_size_21 ?_
    refine x_get X w hC.mx hC.fx fq_X3_size_19 rfl dX3_size_22 ?_
    refine x_il_n X hl 1 rfl rfl dX3_size_25 ?_
    refine x_callV (As := [.int (iI pg)]) (rest := []) (c1 := 0) (s1 := 0) X w hA (c_X2_sizeOf l D cs L f0 pr sz (gK σ) (gZ σ) pg hC.pp (by omega)) k_X3_size_X2_sizeOf (by decide) hC.pp.mp hC.pp.fp rfl rfl rfl hl rfl (Nat.le_of_ble_eq_true rfl) (by decide) rfl rfl dX3_size_26 (fun v L1 f1 H locs w hp => ?_)
    obtain ⟨rfl, rfl, hp⟩ := hp
    rcases hp with ⟨rfl, hq26⟩ | ⟨rfl, hq26⟩
    · show W p l e _ s m _ below meth c _ _ _ _ _ (F0 m 29 ls [.int (iI ((gZ σ) pg))])
      refine vx_ret ?_
      refine x_iret X w hr hlk ⟨by decide, by decide⟩ dX3_size_29 ?_
      have ho : oSiz pg σ = (0, gZ σ pg, σ) := by unfold oSiz; rw [if_pos (by omega)]
      rw [ho]
      exact ⟨rfl, rfl, hC, fun _ h => h, hF⟩
    · exfalso; omega
  · show W p l e _ s m _ below meth c _ _ _ _ _ (F0 m 8 ls [.int (iI 0)])
    refine x_ifF_ne (tgt := 21) X (by decide) (by decide) (by decide) dX3_size_8 ?_
    refine x_throw X w hl9 hV hZ hlk hout hl xt_X3_size_141 dX3_size_11 dX3_size_14 dX3_size_15 dX3_size_17 dX3_size_20 ⟨by decide, (Nat.le_of_ble_eq_true rfl), by decide, by decide⟩ ⟨by decide, by decide⟩ ?_
    exact ⟨by unfold oSiz; rw [if_neg (by omega)], rfl⟩

theorem iw_X3_at_X3 : ∀ w ∈ wsX30, w ∈ wsX3_at := by decide +kernel
theorem fq_X3_at_19 : XF wsX3_at RX3 19 3 1 := ⟨RX3, TX3, 7, iw_X3_at_X3, rfl, by decide, by decide +kernel⟩
theorem k_X3_at_X2_has : XV wsX3_at RX3 135 RX2 yX2_has cX2_has 2 (some .boolean) wsX2_has 1 := ⟨gX3_at_X2_has, ⟨_, rfl⟩, rfl, by decide, by decide, by decide +kernel⟩
theorem k_X3_at_X2_sizeOf : XV wsX3_at RX3 66 RX2 yX2_sizeOf cX2_sizeOf 2 (some .int) wsX2_sizeOf 1 := ⟨gX3_at_X2_sizeOf, ⟨_, rfl⟩, rfl, by decide, by decide, by decide +kernel⟩
theorem k_X3_at_X3_isIn : XS wsX3_at RX3 35 yX3_isIn cX3_isIn 3 (some .boolean) wsX3_isIn 3 := ⟨gX3_at_X3_isIn, ⟨_, rfl⟩, by decide, by decide, by decide +kernel⟩
theorem fq_X3_at_10 : XF wsX3_at RX3 10 3 0 := ⟨RX3, TX3, 7, iw_X3_at_X3, rfl, by decide, by decide +kernel⟩
theorem k_X3_at_X2_beginOf : XV wsX3_at RX3 146 RX2 yX2_beginOf cX2_beginOf 4 (some .int) wsX2_beginOf 1 := ⟨gX3_at_X2_beginOf, ⟨_, rfl⟩, rfl, by decide, by decide, by decide +kernel⟩
theorem k_X3_at_X1_numberAt : XV wsX3_at RX3 149 RX1 yX1_numberAt cX1_numberAt 3 (some .int) wsX1_numberAt 1 := ⟨gX3_at_X1_numberAt, ⟨_, rfl⟩, rfl, by decide, by decide, by decide +kernel⟩
theorem xt_X3_at_144 : XT wsX3_at RX3 139 144 143 XIO "no such page, or no such place on it" := ⟨by decide +kernel, by decide +kernel, by decide +kernel, by decide, xt_g143.1, xt_g143.2, by decide, rfl⟩
set_option maxHeartbeats 4000000 in
set_option maxRecDepth 100000 in
theorem c_X3_at (l : Launch) (D : va_G) (cs : ClassId × ClassId × ClassId) (hl9 : l.stackTraces = false) (L : List Nat) (f0 : Nat → va_E) (x br ba pr sz lr : Nat) (σ : Sg) (pg pl : Int) (hC : CC cs L f0 x br ba pr sz lr σ) (hI : Inv σ) (hrg : (-2147483648 ≤ pg ∧ pg < 2147483648) ∧ (-2147483648 ≤ pl ∧ pl < 2147483648)) : C1 l yX3_at wsX3_at ({ frames := 6, cells := 1, slots := 6, locals := 90 } : Room) D cs [.ref x, .int (iI pg), .int (iI pl)] L f0 (fun v L1 f1 => CPi cs L f0 x br ba pr sz lr (oAt pg pl σ) v L1 f1) (fun E => PXO (oAt pg pl σ) E) := by
  refine C1.of (cc := cX3_at) (maxL := 3) (ret := (some .int)) (by decide) rfl (Nat.le_of_ble_eq_true rfl) ?_
  intro p e s m below meth c X hr hlk hout hV A hA hZ w ls hl
  have hl : lv_has ls 3 [(0, .ref x), (1, .int (iI pg)), (2, .int (iI pl))] := hl
  have hn := hI.n; have hk := hI.k; have ht := hI.t; have hsw := hI.s; have hz4 := hI.z4
  have hF : FC L f0 f0 x br ba pr sz lr := FC.rf _ _ _ _ _ _ _ _
  refine x_al_n X hl 0 rfl rfl dX3_at_0 ?_
  refine x_get X w hC.mx hC.fx fq_X3_at_19 rfl dX3_at_1 ?_
  refine x_il_n X hl 1 rfl rfl dX3_at_4 ?_
  refine x_callV (As := [.int (iI pg)]) (rest := []) (c1 := 0) (s1 := 0) X w hA (c_X2_has l D cs L f0 pr sz (gK σ) (gZ σ) pg hC.pp (by omega)) k_X3_at_X2_has (by decide) hC.pp.mp hC.pp.fp rfl rfl rfl hl rfl (Nat.le_of_ble_eq_true rfl) (by decide) rfl rfl dX3_at_5 (fun v L1 f1 H locs w hp => ?_)
  obtain ⟨rfl, rfl, hp⟩ := hp
  rcases hp with ⟨rfl, hq5⟩ | ⟨rfl, hq5⟩
  · show W p l e _ s m _ below meth c _ _ _ _ _ (F0 m 8 ls [.int (iI 1)])
    refine x_ifF_eq (tgt := 29) X (by decide) (by decide) (by decide) dX3_at_8 ?_
    refine x_il_n X hl 2 rfl rfl dX3_at_11 ?_
    refine x_iconst X dX3_at_12 ?_
    refine x_al_n X hl 0 rfl rfl dX3_at_13 ?_
    refine x_get X w hC.mx hC.fx fq_X3_at_19 rfl dX3_at_14 ?_
    refine x_il_n X hl 1 rfl rfl dX3_at_17 ?_
    refine x_callV (As := [.int (iI pg)]) (rest := [.int (iI 0), .int (iI pl)]) (c1 := 0) (s1 := 0) X w hA (c_X2_sizeOf l D cs L f0 pr sz (gK σ) (gZ σ) pg hC.pp (by omega)) k_X3_at_X2_sizeOf (by decide) hC.pp.mp hC.pp.fp rfl rfl rfl hl rfl (Nat.le_of_ble_eq_true rfl) (by decide) rfl rfl dX3_at_18 (fun v L1 f1 H locs w hp => ?_)
    obtain ⟨rfl, rfl, hp⟩ := hp
    rcases hp with ⟨rfl, hq18⟩ | ⟨rfl, hq18⟩
    · show W p l e _ s m _ below meth c _ _ _ _ _ (F0 m 21 ls [.int (iI ((gZ σ) pg)), .int (iI 0), .int (iI pl)])
      have hzz := hz4 pg (by omega) (by omega)
      refine x_iconst X dX3_at_21 ?_
      refine x_isub X dX3_at_22 ?_
      refine x_callS (As := [.int (iI pl), .int (iI 0), .int (iI (((gZ σ) pg) - 1))]) (rest := []) (c1 := 0) (s1 := 0) X w hA (c_X3_isIn l D cs L f0 pl 0 (((gZ σ) pg) - 1) (by omega)) k_X3_at_X3_isIn (by decide) rfl hl rfl (Nat.le_of_ble_eq_true rfl) (by decide) rfl rfl dX3_at_23 (fun v L1 f1 H locs w hp => ?_)
      obtain ⟨rfl, rfl, hp⟩ := hp
      rcases hp with ⟨rfl, hq23⟩ | ⟨rfl, hq23⟩
      · show W p l e _ s m _ below meth c _ _ _ _ _ (F0 m 26 ls [.int (iI 1)])
        refine x_ifT_ne (tgt := 39) X (by decide) (by decide) (by decide) dX3_at_26 ?_
        refine x_al_n X hl 0 rfl rfl dX3_at_39 ?_
        refine x_get X w hC.mx hC.fx fq_X3_at_10 rfl dX3_at_40 ?_
        refine x_al_n X hl 0 rfl rfl dX3_at_43 ?_
        refine x_get X w hC.mx hC.fx fq_X3_at_19 rfl dX3_at_44 ?_
        refine x_il_n X hl 1 rfl rfl dX3_at_47 ?_
        refine x_callV (As := [.int (iI pg)]) (rest := [.ref br]) (c1 := 0) (s1 := 0) X w hA (c_X2_beginOf l D cs L f0 pr sz (gK σ) (gZ σ) pg hC.pp (by omega)) k_X3_at_X2_beginOf (by decide) hC.pp.mp hC.pp.fp rfl rfl rfl hl rfl (Nat.le_of_ble_eq_true rfl) (by decide) rfl rfl dX3_at_48 (fun v L1 f1 H locs w hp => ?_)
        obtain ⟨rfl, rfl, hp⟩ := hp
        subst hp
        show W p l e _ s m _ below meth c _ _ _ _ _ (F0 m 51 ls [.int (iI (sm (gZ σ) pg)), .ref br])
        have h1s := sm_b hz4 (p := pg) (by omega)
        have h2s := sm_s (gZ σ) (p := pg) (by omega)
        have h3s := sm_mo hI.z0 (a := pg + 1) (b := gK σ) (by omega)
        rw [hI.sm] at h3s
        refine x_il_n X hl 2 rfl rfl dX3_at_51 ?_
        refine x_iadd X dX3_at_52 ?_
        obtain ⟨r53, hRB, hO⟩ := hC.rb
        refine x_callV (As := [.int (iI ((sm (gZ σ) pg) + pl))]) (rest := []) (c1 := 0) (s1 := 0) X w hA (c_X1_numberAt l D cs L f0 br ba (gN σ) r53 (gR σ) ((sm (gZ σ) pg) + pl) hRB hO (by omega)) k_X3_at_X1_numberAt (by decide) hC.mb hC.fb rfl rfl rfl hl rfl (Nat.le_of_ble_eq_true rfl) (by decide) rfl rfl dX3_at_53 (fun v L1 f1 H locs w hp => ?_)
        obtain ⟨rfl, rfl, hp⟩ := hp
        rcases hp with ⟨rfl, hq53⟩ | ⟨rfl, hq53⟩
        · show W p l e _ s m _ below meth c _ _ _ _ _ (F0 m 56 ls [.int (iI ((gR σ) ((sm (gZ σ) pg) + pl) 0))])
          refine vx_ret ?_
          refine x_iret X w hr hlk ⟨by decide, by decide⟩ dX3_at_56 ?_
          have ho : oAt pg pl σ = (0, gR σ (sm (gZ σ) pg + pl) 0, σ) := by unfold oAt; rw [if_pos (by omega)]
          rw [ho]
          exact ⟨rfl, rfl, hC, fun _ h => h, hF⟩
        · exfalso; omega
      · show W p l e _ s m _ below meth c _ _ _ _ _ (F0 m 26 ls [.int (iI 0)])
        refine x_ifF_ne (tgt := 39) X (by decide) (by decide) (by decide) dX3_at_26 ?_
        refine x_throw X w hl9 hV hZ hlk hout hl xt_X3_at_144 dX3_at_29 dX3_at_32 dX3_at_33 dX3_at_35 dX3_at_38 ⟨by decide, (Nat.le_of_ble_eq_true rfl), by decide, by decide⟩ ⟨by decide, by decide⟩ ?_
        exact ⟨by unfold oAt; rw [if_neg (by omega)], rfl⟩
    · exfalso; omega
  · show W p l e _ s m _ below meth c _ _ _ _ _ (F0 m 8 ls [.int (iI 0)])
    refine x_ifT_eq (tgt := 29) X (by decide) (by decide) (by decide) dX3_at_8 ?_
    refine x_throw X w hl9 hV hZ hlk hout hl xt_X3_at_144 dX3_at_29 dX3_at_32 dX3_at_33 dX3_at_35 dX3_at_38 ⟨by decide, (Nat.le_of_ble_eq_true rfl), by decide, by decide⟩ ⟨by decide, by decide⟩ ?_
    exact ⟨by unfold oAt; rw [if_neg (by omega)], rfl⟩

theorem k_X3_pageOf_X3_requireCase : XS wsX3_pageOf RX3 31 yX3_requireCase cX3_requireCase 1 none wsX3_requireCase 1 := ⟨gX3_pageOf_X3_requireCase, ⟨_, rfl⟩, by decide, by decide, by decide +kernel⟩
theorem iw_X3_pageOf_X3 : ∀ w ∈ wsX30, w ∈ wsX3_pageOf := by decide +kernel
theorem fq_X3_pageOf_19 : XF wsX3_pageOf RX3 19 3 1 := ⟨RX3, TX3, 7, iw_X3_pageOf_X3, rfl, by decide, by decide +kernel⟩
theorem fq_X3_pageOf_10 : XF wsX3_pageOf RX3 10 3 0 := ⟨RX3, TX3, 7, iw_X3_pageOf_X3, rfl, by decide, by decide +kernel⟩
theorem k_X3_pageOf_X1_placeOf : XV wsX3_pageOf RX3 100 RX1 yX1_placeOf cX1_placeOf 3 (some .int) wsX1_placeOf 1 := ⟨gX3_pageOf_X1_placeOf, ⟨_, rfl⟩, rfl, by decide, by decide, by decide +kernel⟩
theorem k_X3_pageOf_X2_pageWith : XV wsX3_pageOf RX3 152 RX2 yX2_pageWith cX2_pageWith 4 (some .int) wsX2_pageWith 1 := ⟨gX3_pageOf_X2_pageWith, ⟨_, rfl⟩, rfl, by decide, by decide, by decide +kernel⟩
set_option maxHeartbeats 4000000 in
set_option maxRecDepth 100000 in
theorem c_X3_pageOf (l : Launch) (D : va_G) (cs : ClassId × ClassId × ClassId) (hl9 : l.stackTraces = false) (L : List Nat) (f0 : Nat → va_E) (x br ba pr sz lr : Nat) (σ : Sg) (nu : Int) (hC : CC cs L f0 x br ba pr sz lr σ) (hI : Inv σ) (hrg : (-2147483648 ≤ nu ∧ nu < 2147483648)) : C1 l yX3_pageOf wsX3_pageOf ({ frames := 7, cells := 1, slots := 6, locals := 110 } : Room) D cs [.ref x, .int (iI nu)] L f0 (fun v L1 f1 => CPi cs L f0 x br ba pr sz lr (oPgO nu σ) v L1 f1) (fun E => PXA (oPgO nu σ) E) := by
  refine C1.of (cc := cX3_pageOf) (maxL := 2) (ret := (some .int)) (by decide) rfl (Nat.le_of_ble_eq_true rfl) ?_
  intro p e s m below meth c X hr hlk hout hV A hA hZ w ls hl
  have hl : lv_has ls 2 [(0, .ref x), (1, .int (iI nu))] := hl
  have hn := hI.n; have hk := hI.k; have ht := hI.t; have hsw := hI.s; have hz4 := hI.z4
  have hF : FC L f0 f0 x br ba pr sz lr := FC.rf _ _ _ _ _ _ _ _
  refine x_il_n X hl 1 rfl rfl dX3_pageOf_0 ?_
  refine x_callS1 (As := [.int (iI nu)]) (rest := []) (c1 := 1) (s1 := 6) X w hA hV hZ (c_X3_requireCase l D cs hl9 L f0 nu (by omega)) k_X3_pageOf_X3_requireCase (by decide) rfl hl rfl (Nat.le_of_ble_eq_true rfl) (by decide) rfl rfl dX3_pageOf_1 (fun E ce a9 H locs w hpx hce hcv hcl => ?_) (fun v L1 f1 H locs w hp => ?_)
  · exact x_out X w hlk hout hce hcv hcl ⟨by decide, by decide⟩ (Or.inl ⟨by unfold oPgO; rw [if_neg (by have h9 := hpx.1; omega)], hpx.2⟩)
  · obtain ⟨rfl, rfl, rfl, hrc⟩ := hp
    show W p l e _ s m _ below meth c _ _ _ _ _ (F0 m 4 ls [])
    refine x_al_n X hl 0 rfl rfl dX3_pageOf_4 ?_
    refine x_get X w hC.mx hC.fx fq_X3_pageOf_19 rfl dX3_pageOf_5 ?_
    refine x_al_n X hl 0 rfl rfl dX3_pageOf_8 ?_
    refine x_get X w hC.mx hC.fx fq_X3_pageOf_10 rfl dX3_pageOf_9 ?_
    refine x_il_n X hl 1 rfl rfl dX3_pageOf_12 ?_
    obtain ⟨r13, hRB, hO⟩ := hC.rb
    refine x_callV (As := [.int (iI nu)]) (rest := [.ref pr]) (c1 := 1) (s1 := 6) X w hA (c_X1_placeOf l D cs L f0 br ba (gN σ) r13 (gR σ) nu hRB hO (by omega) hI.r0 hI.so) k_X3_pageOf_X1_placeOf (by decide) hC.mb hC.fb rfl rfl rfl hl rfl (Nat.le_of_ble_eq_true rfl) (by decide) rfl rfl dX3_pageOf_13 (fun v L1 f1 H locs w hp => ?_)
    obtain ⟨rfl, rfl, hp⟩ := hp
    subst hp
    show W p l e _ s m _ below meth c _ _ _ _ _ (F0 m 16 ls [.int (iI (fd (gR σ) (gN σ) nu)), .ref pr])
    have hfr := fd_rg (R := gR σ) (n := gN σ) (v := nu) (by omega)
    refine x_callV (As := [.int (iI (fd (gR σ) (gN σ) nu))]) (rest := []) (c1 := 1) (s1 := 6) X w hA (c_X2_pageWith l D cs L f0 pr sz (gK σ) (gZ σ) (fd (gR σ) (gN σ) nu) hC.pp (by omega) hz4) k_X3_pageOf_X2_pageWith (by decide) hC.pp.mp hC.pp.fp rfl rfl rfl hl rfl (Nat.le_of_ble_eq_true rfl) (by decide) rfl rfl dX3_pageOf_16 (fun v L1 f1 H locs w hp => ?_)
    obtain ⟨rfl, rfl, hp⟩ := hp
    subst hp
    show W p l e _ s m _ below meth c _ _ _ _ _ (F0 m 19 ls [.int (iI (pw (gZ σ) (gK σ) (fd (gR σ) (gN σ) nu)))])
    refine vx_ret ?_
    refine x_iret X w hr hlk ⟨by decide, by decide⟩ dX3_pageOf_19 ?_
    have ho : oPgO nu σ = (0, pw (gZ σ) (gK σ) (qF nu σ), σ) := by unfold oPgO; rw [if_pos (by omega)]
    rw [ho]
    exact ⟨rfl, rfl, hC, fun _ h => h, hF⟩

theorem iw_X3_sweep_X3 : ∀ w ∈ wsX30, w ∈ wsX3_sweep := by decide +kernel
theorem fq_X3_sweep_27 : XF wsX3_sweep RX3 27 3 6 := ⟨RX3, TX3, 7, iw_X3_sweep_X3, rfl, by decide, by decide +kernel⟩
theorem fp_X3_sweep_27 : XGn wsX3_sweep RX3 27 3 6 (tyX3 6) := ⟨RX3, TX3, 7, tyX3, iw_X3_sweep_X3, rfl, by decide, by decide +kernel, tyX3_ok, nmX3, rfl, by decide +kernel⟩
theorem xt_X3_sweep_155 : XT wsX3_sweep RX3 54 155 58 XIS "a sweep goes on" := ⟨by decide +kernel, by decide +kernel, by decide +kernel, by decide, xt_g58.1, xt_g58.2, by decide, rfl⟩
set_option maxHeartbeats 4000000 in
set_option maxRecDepth 100000 in
theorem c_X3_sweep (l : Launch) (D : va_G) (cs : ClassId × ClassId × ClassId) (hl9 : l.stackTraces = false) (L : List Nat) (f0 : Nat → va_E) (x br ba pr sz lr : Nat) (σ : Sg) (hC : CC cs L f0 x br ba pr sz lr σ) (hI : Inv σ) : C1 l yX3_sweep wsX3_sweep ({ frames := 6, cells := 1, slots := 6, locals := 90 } : Room) D cs [.ref x] L f0 (fun v L1 f1 => CPv cs L f0 x br ba pr sz lr (oSwe σ) v L1 f1) (fun E => PXS (oSwe σ) E) := by
  refine C1.of (cc := cX3_sweep) (maxL := 1) (ret := none) (by decide) rfl (Nat.le_of_ble_eq_true rfl) ?_
  intro p e s m below meth c X hr hlk hout hV A hA hZ w ls hl
  have hl : lv_has ls 1 [(0, .ref x)] := hl
  have hn := hI.n; have hk := hI.k; have ht := hI.t; have hsw := hI.s; have hz4 := hI.z4
  have hF : FC L f0 f0 x br ba pr sz lr := FC.rf _ _ _ _ _ _ _ _
  refine x_al_n X hl 0 rfl rfl dX3_sweep_0 ?_
  refine x_get X w hC.mx hC.fx fq_X3_sweep_27 rfl dX3_sweep_1 ?_
  refine x_iconst X dX3_sweep_4 ?_
  refine x_icmp_eq (tgt := 18) X (by omega) (by decide) dX3_sweep_5 (fun hb5 => ?_) (fun hb5 => ?_)
  · refine x_al_n X hl 0 rfl rfl dX3_sweep_18 ?_
    refine x_iconst X dX3_sweep_19 ?_
    refine x_put X w hC.mx hC.fx fp_X3_sweep_27 rfl rfl (Nat.le_of_ble_eq_true rfl) rfl dX3_sweep_20 (fun H locs w => ?_)
    obtain ⟨f23, w, hC, hF⟩ : ∃ f9, XW D A s.heap L f9 H locs ∧ CX cs L f9 x br ba pr sz lr (gN σ) (gR σ) (gK σ) (gZ σ) (gT σ) (gP σ) (gB σ) 0 (gW σ) ∧ FC L f0 f9 x br ba pr sz lr := ⟨_, w, hC.fld _ _ _ _, hF.xx⟩
    refine vx_ret ?_
    refine x_vret X w hr hlk ⟨by decide, by decide⟩ dX3_sweep_23 ?_
    have ho : oSwe σ = (0, 0, oSetS 0 σ) := by unfold oSwe; rw [if_pos (by omega)]
    rw [ho]
    exact ⟨rfl, rfl, hC, fun _ h => h, hF⟩
  · refine x_throw X w hl9 hV hZ hlk hout hl xt_X3_sweep_155 dX3_sweep_8 dX3_sweep_11 dX3_sweep_12 dX3_sweep_14 dX3_sweep_17 ⟨by decide, (Nat.le_of_ble_eq_true rfl), by decide, by decide⟩ ⟨by decide, by decide⟩ ?_
    exact ⟨by unfold oSwe; rw [if_neg (by omega)], rfl⟩

theorem k_X3_walk_X3_isIn : XS wsX3_walk RX3 35 yX3_isIn cX3_isIn 3 (some .boolean) wsX3_isIn 3 := ⟨gX3_walk_X3_isIn, ⟨_, rfl⟩, by decide, by decide, by decide +kernel⟩
theorem iw_X3_walk_X3 : ∀ w ∈ wsX30, w ∈ wsX3_walk := by decide +kernel
theorem fq_X3_walk_23 : XF wsX3_walk RX3 23 3 2 := ⟨RX3, TX3, 7, iw_X3_walk_X3, rfl, by decide, by decide +kernel⟩
theorem fq_X3_walk_10 : XF wsX3_walk RX3 10 3 0 := ⟨RX3, TX3, 7, iw_X3_walk_X3, rfl, by decide, by decide +kernel⟩
theorem k_X3_walk_X1_countUpTo : XV wsX3_walk RX3 59 RX1 yX1_countUpTo cX1_countUpTo 3 (some .int) wsX1_countUpTo 1 := ⟨gX3_walk_X1_countUpTo, ⟨_, rfl⟩, rfl, by decide, by decide, by decide +kernel⟩
theorem k_X3_walk_X1_numberAt : XV wsX3_walk RX3 149 RX1 yX1_numberAt cX1_numberAt 3 (some .int) wsX1_numberAt 1 := ⟨gX3_walk_X1_numberAt, ⟨_, rfl⟩, rfl, by decide, by decide, by decide +kernel⟩
theorem xt_X3_walk_164 : XT wsX3_walk RX3 39 164 43 XIA "reader out of range" := ⟨by decide +kernel, by decide +kernel, by decide +kernel, by decide, xt_g43.1, xt_g43.2, by decide, rfl⟩
set_option maxHeartbeats 4000000 in
set_option maxRecDepth 100000 in
theorem c_X3_walk (l : Launch) (D : va_G) (cs : ClassId × ClassId × ClassId) (hl9 : l.stackTraces = false) (L : List Nat) (f0 : Nat → va_E) (x br ba pr sz lr : Nat) (σ : Sg) (rd : Int) (hC : CC cs L f0 x br ba pr sz lr σ) (hI : Inv σ) (hrg : (-2147483648 ≤ rd ∧ rd < 2147483648)) : C1 l yX3_walk wsX3_walk ({ frames := 6, cells := 1, slots := 6, locals := 90 } : Room) D cs [.ref x, .int (iI rd)] L f0 (fun v L1 f1 => CPi cs L f0 x br ba pr sz lr (oWal rd σ) v L1 f1) (fun E => PXA (oWal rd σ) E) := by
  refine C1.of (cc := cX3_walk) (maxL := 2) (ret := (some .int)) (by decide) rfl (Nat.le_of_ble_eq_true rfl) ?_
  intro p e s m below meth c X hr hlk hout hV A hA hZ w ls hl
  have hl : lv_has ls 2 [(0, .ref x), (1, .int (iI rd))] := hl
  have hn := hI.n; have hk := hI.k; have ht := hI.t; have hsw := hI.s; have hz4 := hI.z4
  have hF : FC L f0 f0 x br ba pr sz lr := FC.rf _ _ _ _ _ _ _ _
  refine x_il_n X hl 1 rfl rfl dX3_walk_0 ?_
  refine x_iconst X dX3_walk_1 ?_
  refine x_iconst X dX3_walk_2 ?_
  refine x_callS (As := [.int (iI rd), .int (iI 0), .int (iI 3)]) (rest := []) (c1 := 0) (s1 := 0) X w hA (c_X3_isIn l D cs L f0 rd 0 3 (by omega)) k_X3_walk_X3_isIn (by decide) rfl hl rfl (Nat.le_of_ble_eq_true rfl) (by decide) rfl rfl dX3_walk_3 (fun v L1 f1 H locs w hp => ?_)
  obtain ⟨rfl, rfl, hp⟩ := hp
  rcases hp with ⟨rfl, hq3⟩ | ⟨rfl, hq3⟩
  · show W p l e _ s m _ below meth c _ _ _ _ _ (F0 m 6 ls [.int (iI 1)])
    refine x_ifT_ne (tgt := 19) X (by decide) (by decide) (by decide) dX3_walk_6 ?_
    obtain ⟨ww, hfl, hwl⟩ := hC.fl
    have hww := hI.w rd (by omega) (by omega)
    refine x_al_n X hl 0 rfl rfl dX3_walk_19 ?_
    refine x_get X w hC.mx hC.fx fq_X3_walk_23 rfl dX3_walk_20 ?_
    refine x_il_n X hl 1 rfl rfl dX3_walk_23 ?_
    refine x_al_n X hl 0 rfl rfl dX3_walk_24 ?_
    refine x_get X w hC.mx hC.fx fq_X3_walk_10 rfl dX3_walk_25 ?_
    refine x_al_n X hl 0 rfl rfl dX3_walk_28 ?_
    refine x_get X w hC.mx hC.fx fq_X3_walk_10 rfl dX3_walk_29 ?_
    refine x_al_n X hl 0 rfl rfl dX3_walk_32 ?_
    refine x_get X w hC.mx hC.fx fq_X3_walk_23 rfl dX3_walk_33 ?_
    refine x_il_n X hl 1 rfl rfl dX3_walk_36 ?_
    refine x_ialdv (v := gW σ rd) X w hC.ml hfl (by omega) (hwl rd (by omega) (by omega)) dX3_walk_37 ?_
    obtain ⟨r38, hRB, hO⟩ := hC.rb
    refine x_callV (As := [.int (iI (gW σ rd))]) (rest := [.ref br, .int (iI rd), .ref lr]) (c1 := 0) (s1 := 0) X w hA (c_X1_countUpTo l D cs L f0 br ba (gN σ) r38 (gR σ) (gW σ rd) hRB hO (by omega) hI.r0) k_X3_walk_X1_countUpTo (by decide) hC.mb hC.fb rfl rfl rfl hl rfl (Nat.le_of_ble_eq_true rfl) (by decide) rfl rfl dX3_walk_38 (fun v L1 f1 H locs w hp => ?_)
    obtain ⟨rfl, rfl, hp⟩ := hp
    subst hp
    show W p l e _ s m _ below meth c _ _ _ _ _ (F0 m 41 ls [.int (iI (cu (gR σ) (gN σ) (gW σ rd))), .ref br, .int (iI rd), .ref lr])
    have hcu := cu_is (gR σ) (n := gN σ) (gW σ rd) hn.1
    have hcu1 := hcu.1
    have hcu2 := hcu.2.1
    obtain ⟨r41, hRB, hO⟩ := hC.rb
    refine x_callV (As := [.int (iI (cu (gR σ) (gN σ) (gW σ rd)))]) (rest := [.int (iI rd), .ref lr]) (c1 := 0) (s1 := 0) X w hA (c_X1_numberAt l D cs L f0 br ba (gN σ) r41 (gR σ) (cu (gR σ) (gN σ) (gW σ rd)) hRB hO (by omega)) k_X3_walk_X1_numberAt (by decide) hC.mb hC.fb rfl rfl rfl hl rfl (Nat.le_of_ble_eq_true rfl) (by decide) rfl rfl dX3_walk_41 (fun v L1 f1 H locs w hp => ?_)
    obtain ⟨rfl, rfl, hp⟩ := hp
    rcases hp with ⟨rfl, hq41⟩ | ⟨rfl, hq41⟩
    · show W p l e _ s m _ below meth c _ _ _ _ _ (F0 m 44 ls [.int (iI ((gR σ) (cu (gR σ) (gN σ) (gW σ rd)) 0)), .int (iI rd), .ref lr])
      refine x_iast X w hC.ml hfl (by omega) dX3_walk_44 (fun H locs w => ?_)
      obtain ⟨f45, w, hC, hF⟩ : ∃ f9, XW D A s.heap L f9 H locs ∧ CX cs L f9 x br ba pr sz lr (gN σ) (gR σ) (gK σ) (gZ σ) (gT σ) (gP σ) (gB σ) (gS σ) (uI (gW σ) rd ((gR σ) (cu (gR σ) (gN σ) (gW σ rd)) 0)) ∧ FC L f0 f9 x br ba pr sz lr := ⟨_, w, hC.rd hfl hwl, hF.l⟩
      obtain ⟨ww, hfl, hwl⟩ := hC.fl
      refine x_al_n X hl 0 rfl rfl dX3_walk_45 ?_
      refine x_get X w hC.mx hC.fx fq_X3_walk_23 rfl dX3_walk_46 ?_
      refine x_il_n X hl 1 rfl rfl dX3_walk_49 ?_
      refine x_ialdv (v := (gR σ) (cu (gR σ) (gN σ) (gW σ rd)) 0) X w hC.ml hfl (by omega) ((hwl rd (by omega) (by omega)).trans (uI_s _ _ _)) dX3_walk_50 ?_
      refine vx_ret ?_
      refine x_iret X w hr hlk ⟨by decide, by decide⟩ dX3_walk_51 ?_
      have he9 : wkV rd σ = (gR σ) (cu (gR σ) (gN σ) (gW σ rd)) 0 := if_pos (by omega)
      have ho : oWal rd σ = (0, (gR σ) (cu (gR σ) (gN σ) (gW σ rd)) 0, oSetW (uI (gW σ) rd ((gR σ) (cu (gR σ) (gN σ) (gW σ rd)) 0)) σ) := by unfold oWal; rw [if_pos (by omega), he9]
      rw [ho]
      exact ⟨rfl, rfl, hC, fun _ h => h, hF⟩
    · show W p l e _ s m _ below meth c _ _ _ _ _ (F0 m 44 ls [.int (iI (-1)), .int (iI rd), .ref lr])
      refine x_iast X w hC.ml hfl (by omega) dX3_walk_44 (fun H locs w => ?_)
      obtain ⟨f45, w, hC, hF⟩ : ∃ f9, XW D A s.heap L f9 H locs ∧ CX cs L f9 x br ba pr sz lr (gN σ) (gR σ) (gK σ) (gZ σ) (gT σ) (gP σ) (gB σ) (gS σ) (uI (gW σ) rd (-1)) ∧ FC L f0 f9 x br ba pr sz lr := ⟨_, w, hC.rd hfl hwl, hF.l⟩
      obtain ⟨ww, hfl, hwl⟩ := hC.fl
      refine x_al_n X hl 0 rfl rfl dX3_walk_45 ?_
      refine x_get X w hC.mx hC.fx fq_X3_walk_23 rfl dX3_walk_46 ?_
      refine x_il_n X hl 1 rfl rfl dX3_walk_49 ?_
      refine x_ialdv (v := -1) X w hC.ml hfl (by omega) ((hwl rd (by omega) (by omega)).trans (uI_s _ _ _)) dX3_walk_50 ?_
      refine vx_ret ?_
      refine x_iret X w hr hlk ⟨by decide, by decide⟩ dX3_walk_51 ?_
      have he9 : wkV rd σ = -1 := if_neg (by omega)
      have ho : oWal rd σ = (0, -1, oSetW (uI (gW σ) rd (-1)) σ) := by unfold oWal; rw [if_pos (by omega), he9]
      rw [ho]
      exact ⟨rfl, rfl, hC, fun _ h => h, hF⟩
  · show W p l e _ s m _ below meth c _ _ _ _ _ (F0 m 6 ls [.int (iI 0)])
    refine x_ifF_ne (tgt := 19) X (by decide) (by decide) (by decide) dX3_walk_6 ?_
    refine x_throw X w hl9 hV hZ hlk hout hl xt_X3_walk_164 dX3_walk_9 dX3_walk_12 dX3_walk_13 dX3_walk_15 dX3_walk_18 ⟨by decide, (Nat.le_of_ble_eq_true rfl), by decide, by decide⟩ ⟨by decide, by decide⟩ ?_
    exact Or.inl ⟨by unfold oWal; rw [if_neg (by omega)], rfl⟩

theorem k_X3_put_X3_requireCase : XS wsX3_put RX3 31 yX3_requireCase cX3_requireCase 1 none wsX3_requireCase 1 := ⟨gX3_put_X3_requireCase, ⟨_, rfl⟩, by decide, by decide, by decide +kernel⟩
theorem k_X3_put_X3_isIn : XS wsX3_put RX3 35 yX3_isIn cX3_isIn 3 (some .boolean) wsX3_isIn 3 := ⟨gX3_put_X3_isIn, ⟨_, rfl⟩, by decide, by decide, by decide +kernel⟩
theorem iw_X3_put_X3 : ∀ w ∈ wsX30, w ∈ wsX3_put := by decide +kernel
theorem fq_X3_put_10 : XF wsX3_put RX3 10 3 0 := ⟨RX3, TX3, 7, iw_X3_put_X3, rfl, by decide, by decide +kernel⟩
theorem k_X3_put_X1_find : XV wsX3_put RX3 46 RX1 yX1_find cX1_find 2 (some (.object "PageBail$Bail")) wsX1_find 1 := ⟨gX3_put_X1_find, ⟨_, rfl⟩, rfl, by decide, by decide, by decide +kernel⟩
theorem xt_X3_put_56 : XT wsX3_put RX3 54 56 58 XIS "the case has a record, or the register is full" := ⟨by decide +kernel, by decide +kernel, by decide +kernel, by decide, xt_g58.1, xt_g58.2, by decide, rfl⟩
theorem k_X3_put_X1_count : XV wsX3_put RX3 50 RX1 yX1_count cX1_count 1 (some .int) wsX1_count 0 := ⟨gX3_put_X1_count, ⟨_, rfl⟩, rfl, by decide, by decide, by decide +kernel⟩
theorem k_X3_put_X1_countUpTo : XV wsX3_put RX3 59 RX1 yX1_countUpTo cX1_countUpTo 3 (some .int) wsX1_countUpTo 1 := ⟨gX3_put_X1_countUpTo, ⟨_, rfl⟩, rfl, by decide, by decide, by decide +kernel⟩
theorem fq_X3_put_19 : XF wsX3_put RX3 19 3 1 := ⟨RX3, TX3, 7, iw_X3_put_X3, rfl, by decide, by decide +kernel⟩
theorem k_X3_put_X3_pageToPutOn : XV wsX3_put RX3 63 RX3 yX3_pageToPutOn cX3_pageToPutOn 2 (some .int) wsX3_pageToPutOn 1 := ⟨gX3_put_X3_pageToPutOn, ⟨_, rfl⟩, rfl, by decide, by decide, by decide +kernel⟩
theorem k_X3_put_X2_sizeOf : XV wsX3_put RX3 66 RX2 yX2_sizeOf cX2_sizeOf 2 (some .int) wsX2_sizeOf 1 := ⟨gX3_put_X2_sizeOf, ⟨_, rfl⟩, rfl, by decide, by decide, by decide +kernel⟩
theorem k_X3_put_X2_addTo : XV wsX3_put RX3 72 RX2 yX2_addTo cX2_addTo 2 none wsX2_addTo 1 := ⟨gX3_put_X2_addTo, ⟨_, rfl⟩, rfl, by decide, by decide, by decide +kernel⟩
theorem iw_X3_put_X0 : ∀ w ∈ wsX00, w ∈ wsX3_put := by decide +kernel
theorem fq_X3_put_77 : XF wsX3_put RX3 77 3 3 := ⟨RX3, TX3, 7, iw_X3_put_X3, rfl, by decide, by decide +kernel⟩
theorem k_X3_put_X0_init : XI wsX3_put RX3 80 yX0_init cX0_init 5 wsX0_init 4 := ⟨gX3_put_X0_init, ⟨_, rfl⟩, ⟨by decide +kernel, by decide +kernel, by decide +kernel⟩, rfl, by decide, by decide, by decide +kernel⟩
theorem k_X3_put_X1_insert : XV wsX3_put RX3 83 RX1 yX1_insert cX1_insert 4 none wsX1_insert 2 := ⟨gX3_put_X1_insert, ⟨_, rfl⟩, rfl, by decide, by decide, by decide +kernel⟩
theorem k_X3_put_X2_count : XV wsX3_put RX3 87 RX2 yX2_count cX2_count 1 (some .int) wsX2_count 0 := ⟨gX3_put_X2_count, ⟨_, rfl⟩, rfl, by decide, by decide, by decide +kernel⟩
theorem k_X3_put_X2_split : XV wsX3_put RX3 69 RX2 yX2_split cX2_split 3 none wsX2_split 1 := ⟨gX3_put_X2_split, ⟨_, rfl⟩, rfl, by decide, by decide, by decide +kernel⟩
theorem xt_X3_put_41 : XT wsX3_put RX3 39 41 43 XIA "sum or surety out of range" := ⟨by decide +kernel, by decide +kernel, by decide +kernel, by decide, xt_g43.1, xt_g43.2, by decide, rfl⟩
set_option maxHeartbeats 4000000 in
set_option maxRecDepth 100000 in
theorem c_X3_put (l : Launch) (D : va_G) (cs : ClassId × ClassId × ClassId) (hl9 : l.stackTraces = false) (L : List Nat) (f0 : Nat → va_E) (x br ba pr sz lr : Nat) (σ : Sg) (nu su sy : Int) (hC : CC cs L f0 x br ba pr sz lr σ) (hI : Inv σ) (hrg : (-2147483648 ≤ nu ∧ nu < 2147483648) ∧ (-2147483648 ≤ su ∧ su < 2147483648) ∧ (-2147483648 ≤ sy ∧ sy < 2147483648)) : C1 l yX3_put wsX3_put ({ frames := 7, cells := 2, slots := 12, locals := 120 } : Room) D cs [.ref x, .int (iI nu), .int (iI su), .int (iI sy)] L f0 (fun v L1 f1 => CPi cs L f0 x br ba pr sz lr (oPut nu su sy σ) v L1 f1) (fun E => PXA (oPut nu su sy σ) E) := by
  refine C1.of (cc := cX3_put) (maxL := 5) (ret := (some .int)) (by decide) rfl (Nat.le_of_ble_eq_true rfl) ?_
  intro p e s m below meth c X hr hlk hout hV A hA hZ w ls hl
  have hl : lv_has ls 5 [(0, .ref x), (1, .int (iI nu)), (2, .int (iI su)), (3, .int (iI sy))] := hl
  have hn := hI.n; have hk := hI.k; have ht := hI.t; have hsw := hI.s; have hz4 := hI.z4
  have hF : FC L f0 f0 x br ba pr sz lr := FC.rf _ _ _ _ _ _ _ _
  refine x_il_n X hl 1 rfl rfl dX3_put_0 ?_
  refine x_callS1 (As := [.int (iI nu)]) (rest := []) (c1 := 1) (s1 := 6) X w hA hV hZ (c_X3_requireCase l D cs hl9 L f0 nu (by omega)) k_X3_put_X3_requireCase (by decide) rfl hl rfl (Nat.le_of_ble_eq_true rfl) (by decide) rfl rfl dX3_put_1 (fun E ce a9 H locs w hpx hce hcv hcl => ?_) (fun v L1 f1 H locs w hp => ?_)
  · exact x_out X w hlk hout hce hcv hcl ⟨by decide, by decide⟩ (Or.inl ⟨by unfold oPut; rw [if_neg (by have h9 := hpx.1; omega)], hpx.2⟩)
  · obtain ⟨rfl, rfl, rfl, hrc⟩ := hp
    show W p l e _ s m _ below meth c _ _ _ _ _ (F0 m 4 ls [])
    refine x_il_n X hl 2 rfl rfl dX3_put_4 ?_
    refine x_iconst X dX3_put_5 ?_
    refine x_sipush X (by decide) dX3_put_6 ?_
    refine x_callS (As := [.int (iI su), .int (iI 1), .int (iI 10000)]) (rest := []) (c1 := 1) (s1 := 6) X w hA (c_X3_isIn l D cs L f0 su 1 10000 (by omega)) k_X3_put_X3_isIn (by decide) rfl hl rfl (Nat.le_of_ble_eq_true rfl) (by decide) rfl rfl dX3_put_9 (fun v L1 f1 H locs w hp => ?_)
    obtain ⟨rfl, rfl, hp⟩ := hp
    rcases hp with ⟨rfl, hq9⟩ | ⟨rfl, hq9⟩
    · show W p l e _ s m _ below meth c _ _ _ _ _ (F0 m 12 ls [.int (iI 1)])
      refine x_ifF_eq (tgt := 25) X (by decide) (by decide) (by decide) dX3_put_12 ?_
      refine x_il_n X hl 3 rfl rfl dX3_put_15 ?_
      refine x_iconst X dX3_put_16 ?_
      refine x_bipush X (by decide) dX3_put_17 ?_
      refine x_callS (As := [.int (iI sy), .int (iI 0), .int (iI 9)]) (rest := []) (c1 := 1) (s1 := 6) X w hA (c_X3_isIn l D cs L f0 sy 0 9 (by omega)) k_X3_put_X3_isIn (by decide) rfl hl rfl (Nat.le_of_ble_eq_true rfl) (by decide) rfl rfl dX3_put_19 (fun v L1 f1 H locs w hp => ?_)
      obtain ⟨rfl, rfl, hp⟩ := hp
      rcases hp with ⟨rfl, hq19⟩ | ⟨rfl, hq19⟩
      · show W p l e _ s m _ below meth c _ _ _ _ _ (F0 m 22 ls [.int (iI 1)])
        refine x_ifT_ne (tgt := 35) X (by decide) (by decide) (by decide) dX3_put_22 ?_
        refine x_al_n X hl 0 rfl rfl dX3_put_35 ?_
        refine x_get X w hC.mx hC.fx fq_X3_put_10 rfl dX3_put_36 ?_
        refine x_il_n X hl 1 rfl rfl dX3_put_39 ?_
        obtain ⟨r40, hRB, hO⟩ := hC.rb
        refine x_callV (As := [.int (iI nu)]) (rest := []) (c1 := 1) (s1 := 6) X w hA (c_X1_find l D cs L f0 br ba (gN σ) r40 (gR σ) nu hRB hO (by omega) hI.r0 hI.so) k_X3_put_X1_find (by decide) hC.mb hC.fb rfl rfl rfl hl rfl (Nat.le_of_ble_eq_true rfl) (by decide) rfl rfl dX3_put_40 (fun v L1 f1 H locs w hp => ?_)
        obtain ⟨rfl, rfl, hp⟩ := hp
        rcases hp with ⟨a40, rfl, ha40, hm40, hf40, hq40⟩ | ⟨rfl, hq40⟩
        · show W p l e _ s m _ below meth c _ _ _ _ _ (F0 m 43 ls [.ref a40])
          refine x_ifnonnull_r (tgt := 58) X (by decide) dX3_put_43 ?_
          refine x_throw X w hl9 hV hZ hlk hout hl xt_X3_put_56 dX3_put_58 dX3_put_61 dX3_put_62 dX3_put_64 dX3_put_67 ⟨by decide, (Nat.le_of_ble_eq_true rfl), by decide, by decide⟩ ⟨by decide, by decide⟩ ?_
          exact Or.inr ⟨by unfold oPut; rw [if_pos (by omega), if_pos (show qF nu σ ≠ -1 ∨ 80 ≤ gN σ from Or.inl (by show fd (gR σ) (gN σ) nu ≠ -1; omega))], rfl⟩
        · show W p l e _ s m _ below meth c _ _ _ _ _ (F0 m 43 ls [.null])
          refine x_ifnonnull_n X dX3_put_43 ?_
          refine x_al_n X hl 0 rfl rfl dX3_put_46 ?_
          refine x_get X w hC.mx hC.fx fq_X3_put_10 rfl dX3_put_47 ?_
          obtain ⟨r50, hRB, hO⟩ := hC.rb
          refine x_callV (As := []) (rest := []) (c1 := 1) (s1 := 6) X w hA (c_X1_count l D cs L f0 br ba (gN σ) r50 (gR σ)  hRB hO) k_X3_put_X1_count (by decide) hC.mb hC.fb rfl rfl rfl hl rfl (Nat.le_of_ble_eq_true rfl) (by decide) rfl rfl dX3_put_50 (fun v L1 f1 H locs w hp => ?_)
          obtain ⟨rfl, rfl, hp⟩ := hp
          subst hp
          show W p l e _ s m _ below meth c _ _ _ _ _ (F0 m 53 ls [.int (iI (gN σ))])
          refine x_bipush X (by decide) dX3_put_53 ?_
          refine x_icmp_lt (tgt := 68) X (by omega) (by decide) dX3_put_55 (fun hb55 => ?_) (fun hb55 => ?_)
          · refine x_al_n X hl 0 rfl rfl dX3_put_68 ?_
            refine x_get X w hC.mx hC.fx fq_X3_put_10 rfl dX3_put_69 ?_
            refine x_il_n X hl 1 rfl rfl dX3_put_72 ?_
            obtain ⟨r73, hRB, hO⟩ := hC.rb
            refine x_callV (As := [.int (iI nu)]) (rest := []) (c1 := 1) (s1 := 6) X w hA (c_X1_countUpTo l D cs L f0 br ba (gN σ) r73 (gR σ) nu hRB hO (by omega) hI.r0) k_X3_put_X1_countUpTo (by decide) hC.mb hC.fb rfl rfl rfl hl rfl (Nat.le_of_ble_eq_true rfl) (by decide) rfl rfl dX3_put_73 (fun v L1 f1 H locs w hp => ?_)
            obtain ⟨rfl, rfl, hp⟩ := hp
            subst hp
            show W p l e _ s m _ below meth c _ _ _ _ _ (F0 m 76 ls [.int (iI (cu (gR σ) (gN σ) nu))])
            refine x_is (lv' := [(4, .int (iI (cu (gR σ) (gN σ) nu))), (0, .ref x), (1, .int (iI nu)), (2, .int (iI su)), (3, .int (iI sy))]) X hl (by decide) rfl dX3_put_76 (fun ls hl => ?_)
            have hcu := cu_is (gR σ) (n := gN σ) nu hn.1
            have hcu1 := hcu.1
            have hcu2 := hcu.2.1
            have hkn := k_le hk.1 hI.z1
            rw [hI.sm] at hkn
            have hpb := pw_b (z := gZ σ) (p := pp1 (cu (gR σ) (gN σ) nu)) hk.1
            have hpg : gK σ = 0 ∨ (0 ≤ pw (gZ σ) (gK σ) (pp1 (cu (gR σ) (gN σ) nu)) ∧ pw (gZ σ) (gK σ) (pp1 (cu (gR σ) (gN σ) nu)) < gK σ) := by
              by_cases h9 : gK σ = 0
              · exact Or.inl h9
              · exact Or.inr (hI.pgr (pp1_r ⟨hcu1, hcu2⟩ (by omega)))
            refine x_al_n X hl 1 rfl rfl dX3_put_78 ?_
            refine x_get X w hC.mx hC.fx fq_X3_put_19 rfl dX3_put_79 ?_
            refine x_al_n X hl 1 rfl rfl dX3_put_82 ?_
            refine x_il X hl 0 rfl dX3_put_83 ?_
            refine x_callV (As := [.int (iI (cu (gR σ) (gN σ) nu))]) (rest := [.ref pr]) (c1 := 1) (s1 := 6) X w hA (c_X3_pageToPutOn l D cs L f0 x br ba pr sz lr (gK σ) (gZ σ) (gT σ) (gP σ) (gB σ) (gS σ) (cu (gR σ) (gN σ) nu) hC.mx hC.fx hC.pp (by omega) hz4) k_X3_put_X3_pageToPutOn (by decide) hC.mx hC.fx rfl rfl rfl hl rfl (Nat.le_of_ble_eq_true rfl) (by decide) rfl rfl dX3_put_85 (fun v L1 f1 H locs w hp => ?_)
            obtain ⟨rfl, rfl, hp⟩ := hp
            subst hp
            show W p l e _ s m _ below meth c _ _ _ _ _ (F0 m 88 ls [.int (iI (pw (gZ σ) (gK σ) (pp1 (cu (gR σ) (gN σ) nu)))), .ref pr])
            refine x_callV (As := [.int (iI (pw (gZ σ) (gK σ) (pp1 (cu (gR σ) (gN σ) nu))))]) (rest := []) (c1 := 1) (s1 := 6) X w hA (c_X2_sizeOf l D cs L f0 pr sz (gK σ) (gZ σ) (pw (gZ σ) (gK σ) (pp1 (cu (gR σ) (gN σ) nu))) hC.pp (by omega)) k_X3_put_X2_sizeOf (by decide) hC.pp.mp hC.pp.fp rfl rfl rfl hl rfl (Nat.le_of_ble_eq_true rfl) (by decide) rfl rfl dX3_put_88 (fun v L1 f1 H locs w hp => ?_)
            obtain ⟨rfl, rfl, hp⟩ := hp
            rcases hp with ⟨rfl, hq88⟩ | ⟨rfl, hq88⟩
            · show W p l e _ s m _ below meth c _ _ _ _ _ (F0 m 91 ls [.int (iI ((gZ σ) (pw (gZ σ) (gK σ) (pp1 (cu (gR σ) (gN σ) nu)))))])
              have hzq := hz4 (pw (gZ σ) (gK σ) (pp1 (cu (gR σ) (gN σ) nu))) (by omega) (by omega)
              refine x_iconst X dX3_put_91 ?_
              refine x_icmp_lt (tgt := 108) X (by omega) (by decide) dX3_put_92 (fun hb92 => ?_) (fun hb92 => ?_)
              · have hsK : spK (gZ σ) (gK σ) (cu (gR σ) (gN σ) nu) = gK σ := if_neg (by omega)
                have hsZ : spZ (gZ σ) (gK σ) (cu (gR σ) (gN σ) nu) = gZ σ := if_neg (by omega)
                refine x_al_n X hl 1 rfl rfl dX3_put_108 ?_
                refine x_get X w hC.mx hC.fx fq_X3_put_19 rfl dX3_put_109 ?_
                refine x_al_n X hl 1 rfl rfl dX3_put_112 ?_
                refine x_il X hl 0 rfl dX3_put_113 ?_
                refine x_callV (As := [.int (iI (cu (gR σ) (gN σ) nu))]) (rest := [.ref pr]) (c1 := 1) (s1 := 6) X w hA (c_X3_pageToPutOn l D cs L f0 x br ba pr sz lr (gK σ) (gZ σ) (gT σ) (gP σ) (gB σ) (gS σ) (cu (gR σ) (gN σ) nu) hC.mx hC.fx hC.pp (by omega) hz4) k_X3_put_X3_pageToPutOn (by decide) hC.mx hC.fx rfl rfl rfl hl rfl (Nat.le_of_ble_eq_true rfl) (by decide) rfl rfl dX3_put_115 (fun v L1 f1 H locs w hp => ?_)
                obtain ⟨rfl, rfl, hp⟩ := hp
                subst hp
                show W p l e _ s m _ below meth c _ _ _ _ _ (F0 m 118 ls [.int (iI (pw (gZ σ) (gK σ) (pp1 (cu (gR σ) (gN σ) nu)))), .ref pr])
                refine x_callV (As := [.int (iI (pw (gZ σ) (gK σ) (pp1 (cu (gR σ) (gN σ) nu))))]) (rest := []) (c1 := 1) (s1 := 6) X w hA (c_X2_addTo l D cs L f0 pr sz (gK σ) (gZ σ) (pw (gZ σ) (gK σ) (pp1 (cu (gR σ) (gN σ) nu))) hC.pp (by omega)) k_X3_put_X2_addTo (by decide) hC.pp.mp hC.pp.fp rfl rfl rfl hl rfl (Nat.le_of_ble_eq_true rfl) (by decide) rfl rfl dX3_put_118 (fun v L1 f1 H locs w hp => ?_)
                obtain ⟨rfl, rfl, hfr, hPP⟩ := hp
                have hC := hC.p hPP hfr
                have hF := hF.p hfr
                show W p l e _ s m _ below meth c _ _ _ _ _ (F0 m 121 ls [])
                refine x_al_n X hl 1 rfl rfl dX3_put_121 ?_
                refine x_get X w hC.mx hC.fx fq_X3_put_10 rfl dX3_put_122 ?_
                refine x_il X hl 0 rfl dX3_put_125 ?_
                refine x_newO (C := RX0) (T := TX0) (N := 5) (ci := 0) (c1 := 2) (s1 := 11) X w hA iw_X3_put_X0 tyX0_ok ⟨by decide +kernel, by decide +kernel, by decide +kernel⟩ rfl df_X0 (by decide) rfl rfl dX3_put_127 (fun a127 H locs hn127 w => ?_)
                have hC0 := hC
                obtain ⟨f130, w, hC, hF, hfa, hfu⟩ : ∃ f9, XW D A s.heap (L ++ [a127]) f9 H locs ∧ CX cs (L ++ [a127]) f9 x br ba pr sz lr (gN σ) (gR σ) (adK (gK σ)) (if (gK σ) = 0 then uI (gZ σ) 0 1 else uI (gZ σ) (pw (gZ σ) (gK σ) (pp1 (cu (gR σ) (gN σ) nu))) ((gZ σ) (pw (gZ σ) (gK σ) (pp1 (cu (gR σ) (gN σ) nu))) + 1)) (gT σ) (gP σ) (gB σ) (gS σ) (gW σ) ∧ FC L f0 f9 x br ba pr sz lr ∧ f9 a127 = .inr (0, [.int (iI 0), .int (iI 0), .int (iI 0), .int (iI 0), .int (iI 0)]) ∧ (∀ b, b ≠ a127 → f9 b = f1 b) := ⟨_, w, hC.new hn127, hF.new hn127, va_up_self _ _ _, fun b hb => va_up_ne _ _ hb⟩
                have hma : a127 ∈ L ++ [a127] := List.mem_append_right _ List.mem_cons_self
                refine x_dup X rfl dX3_put_130 ?_
                refine x_il_n X hl 2 rfl rfl dX3_put_131 ?_
                refine x_il_n X hl 3 rfl rfl dX3_put_132 ?_
                refine x_il_n X hl 4 rfl rfl dX3_put_133 ?_
                refine x_al_n X hl 1 rfl rfl dX3_put_134 ?_
                refine x_get X w hC.mx hC.fx fq_X3_put_77 rfl dX3_put_135 ?_
                refine x_callI (As := [.int (iI nu), .int (iI su), .int (iI sy), .int (iI (gT σ))]) (rest := [.ref a127, .int (iI (cu (gR σ) (gN σ) nu)), .ref br]) (c1 := 2) (s1 := 11) X w hA (c_X0_init l D cs (L ++ [a127]) f130 a127 nu su sy (gT σ) hma hfa) k_X3_put_X0_init (by decide) rfl hl rfl (Nat.le_of_ble_eq_true rfl) (by decide) rfl rfl dX3_put_138 (fun v L1 f1 H locs w hp => ?_)
                obtain ⟨rfl, rfl, hfa, hfr⟩ := hp
                have hC := hC0.new2 hn127 (fun b hb => (hfr b hb hb).trans (hfu b hb))
                have hF := hF.new3 hn127 (fun b hb => hfr b hb hb)
                show W p l e _ s m _ below meth c _ _ _ _ _ (F0 m 141 ls [.ref a127, .int (iI (cu (gR σ) (gN σ) nu)), .ref br])
                obtain ⟨r141, hRB, hO⟩ := hC.rb
                refine x_callV (As := [.int (iI (cu (gR σ) (gN σ) nu)), .ref a127]) (rest := []) (c1 := 2) (s1 := 11) X w hA (c_X1_insert l D cs (L ++ [a127]) f1 br ba (gN σ) r141 (gR σ) (cu (gR σ) (gN σ) nu) a127 (nR nu su sy (gT σ)) hRB hO (by omega) hma hfa) k_X3_put_X1_insert (by decide) hC.mb hC.fb rfl rfl rfl hl rfl (Nat.le_of_ble_eq_true rfl) (by decide) rfl rfl dX3_put_141 (fun v L1 f1 H locs w hp => ?_)
                obtain ⟨rfl, rfl, hfr, r1, hRB, hO⟩ := hp
                have hC := hC.b hRB hO hfr
                have hF := hF.b hfr
                show W p l e _ s m _ below meth c _ _ _ _ _ (F0 m 144 ls [])
                refine x_al_n X hl 1 rfl rfl dX3_put_144 ?_
                refine x_get X w hC.mx hC.fx fq_X3_put_19 rfl dX3_put_145 ?_
                refine x_callV (As := []) (rest := []) (c1 := 2) (s1 := 11) X w hA (c_X2_count l D cs (L ++ [a127]) f1 pr sz (adK (gK σ)) (if (gK σ) = 0 then uI (gZ σ) 0 1 else uI (gZ σ) (pw (gZ σ) (gK σ) (pp1 (cu (gR σ) (gN σ) nu))) ((gZ σ) (pw (gZ σ) (gK σ) (pp1 (cu (gR σ) (gN σ) nu))) + 1))  hC.pp) k_X3_put_X2_count (by decide) hC.pp.mp hC.pp.fp rfl rfl rfl hl rfl (Nat.le_of_ble_eq_true rfl) (by decide) rfl rfl dX3_put_148 (fun v L1 f1 H locs w hp => ?_)
                obtain ⟨rfl, rfl, hp⟩ := hp
                subst hp
                show W p l e _ s m _ below meth c _ _ _ _ _ (F0 m 151 ls [.int (iI (adK (gK σ)))])
                refine vx_ret ?_
                refine x_iret X w hr hlk ⟨by decide, by decide⟩ dX3_put_151 ?_
                have ho : oPut nu su sy σ = (0, gK (oIns nu su sy σ), oIns nu su sy σ) := by unfold oPut; rw [if_pos (by omega), if_neg (show ¬ (qF nu σ ≠ -1 ∨ 80 ≤ gN σ) from fun h9 => h9.elim (fun h8 => h8 hq40) (fun h8 => by omega))]
                rw [ho]
                refine ⟨rfl, ?_, ?_, fun _ h => List.mem_append_left _ h, hF⟩
                · show _ = some (Value.int (iI (adK (spK (gZ σ) (gK σ) (cu (gR σ) (gN σ) nu)))))
                  rw [hsK]
                · show CX cs _ _ x br ba pr sz lr _ _ (adK (spK (gZ σ) (gK σ) (cu (gR σ) (gN σ) nu))) (adZ (spZ (gZ σ) (gK σ) (cu (gR σ) (gN σ) nu)) (spK (gZ σ) (gK σ) (cu (gR σ) (gN σ) nu)) (cu (gR σ) (gN σ) nu)) _ _ _ _ _
                  rw [hsK, hsZ]; exact hC
              · refine x_al_n X hl 1 rfl rfl dX3_put_95 ?_
                refine x_get X w hC.mx hC.fx fq_X3_put_19 rfl dX3_put_96 ?_
                refine x_al_n X hl 1 rfl rfl dX3_put_99 ?_
                refine x_il X hl 0 rfl dX3_put_100 ?_
                refine x_callV (As := [.int (iI (cu (gR σ) (gN σ) nu))]) (rest := [.ref pr]) (c1 := 1) (s1 := 6) X w hA (c_X3_pageToPutOn l D cs L f0 x br ba pr sz lr (gK σ) (gZ σ) (gT σ) (gP σ) (gB σ) (gS σ) (cu (gR σ) (gN σ) nu) hC.mx hC.fx hC.pp (by omega) hz4) k_X3_put_X3_pageToPutOn (by decide) hC.mx hC.fx rfl rfl rfl hl rfl (Nat.le_of_ble_eq_true rfl) (by decide) rfl rfl dX3_put_102 (fun v L1 f1 H locs w hp => ?_)
                obtain ⟨rfl, rfl, hp⟩ := hp
                subst hp
                show W p l e _ s m _ below meth c _ _ _ _ _ (F0 m 105 ls [.int (iI (pw (gZ σ) (gK σ) (pp1 (cu (gR σ) (gN σ) nu)))), .ref pr])
                refine x_callV (As := [.int (iI (pw (gZ σ) (gK σ) (pp1 (cu (gR σ) (gN σ) nu))))]) (rest := []) (c1 := 1) (s1 := 6) X w hA (c_X2_split l D cs L f0 pr sz (gK σ) (gZ σ) (pw (gZ σ) (gK σ) (pp1 (cu (gR σ) (gN σ) nu))) hC.pp (by omega)) k_X3_put_X2_split (by decide) hC.pp.mp hC.pp.fp rfl rfl rfl hl rfl (Nat.le_of_ble_eq_true rfl) (by decide) rfl rfl dX3_put_105 (fun v L1 f1 H locs w hp => ?_)
                obtain ⟨rfl, rfl, hfr, hPP⟩ := hp
                have hC := hC.p hPP hfr
                have hF := hF.p hfr
                show W p l e _ s m _ below meth c _ _ _ _ _ (F0 m 108 ls [])
                have hsK : spK (gZ σ) (gK σ) (cu (gR σ) (gN σ) nu) = (gK σ) + 1 := if_pos (by omega)
                have hsZ : spZ (gZ σ) (gK σ) (cu (gR σ) (gN σ) nu) = uI (ins (gZ σ) ((pw (gZ σ) (gK σ) (pp1 (cu (gR σ) (gN σ) nu))) + 1) 2) (pw (gZ σ) (gK σ) (pp1 (cu (gR σ) (gN σ) nu))) ((gZ σ) (pw (gZ σ) (gK σ) (pp1 (cu (gR σ) (gN σ) nu))) - 2) := if_pos (by omega)
                have hsp := sp_ok hI.z1 (q := pw (gZ σ) (gK σ) (pp1 (cu (gR σ) (gN σ) nu))) (by omega) (by omega)
                have hz4 : ∀ j, 0 ≤ j → j < (gK σ) + 1 → 0 ≤ (uI (ins (gZ σ) ((pw (gZ σ) (gK σ) (pp1 (cu (gR σ) (gN σ) nu))) + 1) 2) (pw (gZ σ) (gK σ) (pp1 (cu (gR σ) (gN σ) nu))) ((gZ σ) (pw (gZ σ) (gK σ) (pp1 (cu (gR σ) (gN σ) nu))) - 2)) j ∧ (uI (ins (gZ σ) ((pw (gZ σ) (gK σ) (pp1 (cu (gR σ) (gN σ) nu))) + 1) 2) (pw (gZ σ) (gK σ) (pp1 (cu (gR σ) (gN σ) nu))) ((gZ σ) (pw (gZ σ) (gK σ) (pp1 (cu (gR σ) (gN σ) nu))) - 2)) j ≤ 4 := fun j a b => by have h9 := hsp.1 j a b; omega
                have hpb := pw_b (z := uI (ins (gZ σ) ((pw (gZ σ) (gK σ) (pp1 (cu (gR σ) (gN σ) nu))) + 1) 2) (pw (gZ σ) (gK σ) (pp1 (cu (gR σ) (gN σ) nu))) ((gZ σ) (pw (gZ σ) (gK σ) (pp1 (cu (gR σ) (gN σ) nu))) - 2)) (k := (gK σ) + 1) (p := pp1 (cu (gR σ) (gN σ) nu)) (by omega)
                have hpr := pp1_r (p := cu (gR σ) (gN σ) nu) (n := gN σ) ⟨hcu1, hcu2⟩ (by omega)
                have hq1 := pw_is (z := uI (ins (gZ σ) ((pw (gZ σ) (gK σ) (pp1 (cu (gR σ) (gN σ) nu))) + 1) 2) (pw (gZ σ) (gK σ) (pp1 (cu (gR σ) (gN σ) nu))) ((gZ σ) (pw (gZ σ) (gK σ) (pp1 (cu (gR σ) (gN σ) nu))) - 2)) (k := (gK σ) + 1) (p := pp1 (cu (gR σ) (gN σ) nu)) (fun j a b => (hz4 j a b).1) (by omega) (by rw [hsp.2.1, hI.sm]; exact hpr)
                have hq2 := hq1.1
                have hq3 := hq1.2.1
                refine x_al_n X hl 1 rfl rfl dX3_put_108 ?_
                refine x_get X w hC.mx hC.fx fq_X3_put_19 rfl dX3_put_109 ?_
                refine x_al_n X hl 1 rfl rfl dX3_put_112 ?_
                refine x_il X hl 0 rfl dX3_put_113 ?_
                refine x_callV (As := [.int (iI (cu (gR σ) (gN σ) nu))]) (rest := [.ref pr]) (c1 := 1) (s1 := 6) X w hA (c_X3_pageToPutOn l D cs L f1 x br ba pr sz lr ((gK σ) + 1) (uI (ins (gZ σ) ((pw (gZ σ) (gK σ) (pp1 (cu (gR σ) (gN σ) nu))) + 1) 2) (pw (gZ σ) (gK σ) (pp1 (cu (gR σ) (gN σ) nu))) ((gZ σ) (pw (gZ σ) (gK σ) (pp1 (cu (gR σ) (gN σ) nu))) - 2)) (gT σ) (gP σ) (gB σ) (gS σ) (cu (gR σ) (gN σ) nu) hC.mx hC.fx hC.pp (by omega) hz4) k_X3_put_X3_pageToPutOn (by decide) hC.mx hC.fx rfl rfl rfl hl rfl (Nat.le_of_ble_eq_true rfl) (by decide) rfl rfl dX3_put_115 (fun v L1 f1 H locs w hp => ?_)
                obtain ⟨rfl, rfl, hp⟩ := hp
                subst hp
                show W p l e _ s m _ below meth c _ _ _ _ _ (F0 m 118 ls [.int (iI (pw (uI (ins (gZ σ) ((pw (gZ σ) (gK σ) (pp1 (cu (gR σ) (gN σ) nu))) + 1) 2) (pw (gZ σ) (gK σ) (pp1 (cu (gR σ) (gN σ) nu))) ((gZ σ) (pw (gZ σ) (gK σ) (pp1 (cu (gR σ) (gN σ) nu))) - 2)) ((gK σ) + 1) (pp1 (cu (gR σ) (gN σ) nu)))), .ref pr])
                refine x_callV (As := [.int (iI (pw (uI (ins (gZ σ) ((pw (gZ σ) (gK σ) (pp1 (cu (gR σ) (gN σ) nu))) + 1) 2) (pw (gZ σ) (gK σ) (pp1 (cu (gR σ) (gN σ) nu))) ((gZ σ) (pw (gZ σ) (gK σ) (pp1 (cu (gR σ) (gN σ) nu))) - 2)) ((gK σ) + 1) (pp1 (cu (gR σ) (gN σ) nu))))]) (rest := []) (c1 := 1) (s1 := 6) X w hA (c_X2_addTo l D cs L f1 pr sz ((gK σ) + 1) (uI (ins (gZ σ) ((pw (gZ σ) (gK σ) (pp1 (cu (gR σ) (gN σ) nu))) + 1) 2) (pw (gZ σ) (gK σ) (pp1 (cu (gR σ) (gN σ) nu))) ((gZ σ) (pw (gZ σ) (gK σ) (pp1 (cu (gR σ) (gN σ) nu))) - 2)) (pw (uI (ins (gZ σ) ((pw (gZ σ) (gK σ) (pp1 (cu (gR σ) (gN σ) nu))) + 1) 2) (pw (gZ σ) (gK σ) (pp1 (cu (gR σ) (gN σ) nu))) ((gZ σ) (pw (gZ σ) (gK σ) (pp1 (cu (gR σ) (gN σ) nu))) - 2)) ((gK σ) + 1) (pp1 (cu (gR σ) (gN σ) nu))) hC.pp (by omega)) k_X3_put_X2_addTo (by decide) hC.pp.mp hC.pp.fp rfl rfl rfl hl rfl (Nat.le_of_ble_eq_true rfl) (by decide) rfl rfl dX3_put_118 (fun v L1 f1 H locs w hp => ?_)
                obtain ⟨rfl, rfl, hfr, hPP⟩ := hp
                have hC := hC.p hPP hfr
                have hF := hF.p hfr
                show W p l e _ s m _ below meth c _ _ _ _ _ (F0 m 121 ls [])
                refine x_al_n X hl 1 rfl rfl dX3_put_121 ?_
                refine x_get X w hC.mx hC.fx fq_X3_put_10 rfl dX3_put_122 ?_
                refine x_il X hl 0 rfl dX3_put_125 ?_
                refine x_newO (C := RX0) (T := TX0) (N := 5) (ci := 0) (c1 := 2) (s1 := 11) X w hA iw_X3_put_X0 tyX0_ok ⟨by decide +kernel, by decide +kernel, by decide +kernel⟩ rfl df_X0 (by decide) rfl rfl dX3_put_127 (fun a127 H locs hn127 w => ?_)
                have hC0 := hC
                obtain ⟨f130, w, hC, hF, hfa, hfu⟩ : ∃ f9, XW D A s.heap (L ++ [a127]) f9 H locs ∧ CX cs (L ++ [a127]) f9 x br ba pr sz lr (gN σ) (gR σ) (adK ((gK σ) + 1)) (if ((gK σ) + 1) = 0 then uI (uI (ins (gZ σ) ((pw (gZ σ) (gK σ) (pp1 (cu (gR σ) (gN σ) nu))) + 1) 2) (pw (gZ σ) (gK σ) (pp1 (cu (gR σ) (gN σ) nu))) ((gZ σ) (pw (gZ σ) (gK σ) (pp1 (cu (gR σ) (gN σ) nu))) - 2)) 0 1 else uI (uI (ins (gZ σ) ((pw (gZ σ) (gK σ) (pp1 (cu (gR σ) (gN σ) nu))) + 1) 2) (pw (gZ σ) (gK σ) (pp1 (cu (gR σ) (gN σ) nu))) ((gZ σ) (pw (gZ σ) (gK σ) (pp1 (cu (gR σ) (gN σ) nu))) - 2)) (pw (uI (ins (gZ σ) ((pw (gZ σ) (gK σ) (pp1 (cu (gR σ) (gN σ) nu))) + 1) 2) (pw (gZ σ) (gK σ) (pp1 (cu (gR σ) (gN σ) nu))) ((gZ σ) (pw (gZ σ) (gK σ) (pp1 (cu (gR σ) (gN σ) nu))) - 2)) ((gK σ) + 1) (pp1 (cu (gR σ) (gN σ) nu))) ((uI (ins (gZ σ) ((pw (gZ σ) (gK σ) (pp1 (cu (gR σ) (gN σ) nu))) + 1) 2) (pw (gZ σ) (gK σ) (pp1 (cu (gR σ) (gN σ) nu))) ((gZ σ) (pw (gZ σ) (gK σ) (pp1 (cu (gR σ) (gN σ) nu))) - 2)) (pw (uI (ins (gZ σ) ((pw (gZ σ) (gK σ) (pp1 (cu (gR σ) (gN σ) nu))) + 1) 2) (pw (gZ σ) (gK σ) (pp1 (cu (gR σ) (gN σ) nu))) ((gZ σ) (pw (gZ σ) (gK σ) (pp1 (cu (gR σ) (gN σ) nu))) - 2)) ((gK σ) + 1) (pp1 (cu (gR σ) (gN σ) nu))) + 1)) (gT σ) (gP σ) (gB σ) (gS σ) (gW σ) ∧ FC L f0 f9 x br ba pr sz lr ∧ f9 a127 = .inr (0, [.int (iI 0), .int (iI 0), .int (iI 0), .int (iI 0), .int (iI 0)]) ∧ (∀ b, b ≠ a127 → f9 b = f1 b) := ⟨_, w, hC.new hn127, hF.new hn127, va_up_self _ _ _, fun b hb => va_up_ne _ _ hb⟩
                have hma : a127 ∈ L ++ [a127] := List.mem_append_right _ List.mem_cons_self
                refine x_dup X rfl dX3_put_130 ?_
                refine x_il_n X hl 2 rfl rfl dX3_put_131 ?_
                refine x_il_n X hl 3 rfl rfl dX3_put_132 ?_
                refine x_il_n X hl 4 rfl rfl dX3_put_133 ?_
                refine x_al_n X hl 1 rfl rfl dX3_put_134 ?_
                refine x_get X w hC.mx hC.fx fq_X3_put_77 rfl dX3_put_135 ?_
                refine x_callI (As := [.int (iI nu), .int (iI su), .int (iI sy), .int (iI (gT σ))]) (rest := [.ref a127, .int (iI (cu (gR σ) (gN σ) nu)), .ref br]) (c1 := 2) (s1 := 11) X w hA (c_X0_init l D cs (L ++ [a127]) f130 a127 nu su sy (gT σ) hma hfa) k_X3_put_X0_init (by decide) rfl hl rfl (Nat.le_of_ble_eq_true rfl) (by decide) rfl rfl dX3_put_138 (fun v L1 f1 H locs w hp => ?_)
                obtain ⟨rfl, rfl, hfa, hfr⟩ := hp
                have hC := hC0.new2 hn127 (fun b hb => (hfr b hb hb).trans (hfu b hb))
                have hF := hF.new3 hn127 (fun b hb => hfr b hb hb)
                show W p l e _ s m _ below meth c _ _ _ _ _ (F0 m 141 ls [.ref a127, .int (iI (cu (gR σ) (gN σ) nu)), .ref br])
                obtain ⟨r141, hRB, hO⟩ := hC.rb
                refine x_callV (As := [.int (iI (cu (gR σ) (gN σ) nu)), .ref a127]) (rest := []) (c1 := 2) (s1 := 11) X w hA (c_X1_insert l D cs (L ++ [a127]) f1 br ba (gN σ) r141 (gR σ) (cu (gR σ) (gN σ) nu) a127 (nR nu su sy (gT σ)) hRB hO (by omega) hma hfa) k_X3_put_X1_insert (by decide) hC.mb hC.fb rfl rfl rfl hl rfl (Nat.le_of_ble_eq_true rfl) (by decide) rfl rfl dX3_put_141 (fun v L1 f1 H locs w hp => ?_)
                obtain ⟨rfl, rfl, hfr, r1, hRB, hO⟩ := hp
                have hC := hC.b hRB hO hfr
                have hF := hF.b hfr
                show W p l e _ s m _ below meth c _ _ _ _ _ (F0 m 144 ls [])
                refine x_al_n X hl 1 rfl rfl dX3_put_144 ?_
                refine x_get X w hC.mx hC.fx fq_X3_put_19 rfl dX3_put_145 ?_
                refine x_callV (As := []) (rest := []) (c1 := 2) (s1 := 11) X w hA (c_X2_count l D cs (L ++ [a127]) f1 pr sz (adK ((gK σ) + 1)) (if ((gK σ) + 1) = 0 then uI (uI (ins (gZ σ) ((pw (gZ σ) (gK σ) (pp1 (cu (gR σ) (gN σ) nu))) + 1) 2) (pw (gZ σ) (gK σ) (pp1 (cu (gR σ) (gN σ) nu))) ((gZ σ) (pw (gZ σ) (gK σ) (pp1 (cu (gR σ) (gN σ) nu))) - 2)) 0 1 else uI (uI (ins (gZ σ) ((pw (gZ σ) (gK σ) (pp1 (cu (gR σ) (gN σ) nu))) + 1) 2) (pw (gZ σ) (gK σ) (pp1 (cu (gR σ) (gN σ) nu))) ((gZ σ) (pw (gZ σ) (gK σ) (pp1 (cu (gR σ) (gN σ) nu))) - 2)) (pw (uI (ins (gZ σ) ((pw (gZ σ) (gK σ) (pp1 (cu (gR σ) (gN σ) nu))) + 1) 2) (pw (gZ σ) (gK σ) (pp1 (cu (gR σ) (gN σ) nu))) ((gZ σ) (pw (gZ σ) (gK σ) (pp1 (cu (gR σ) (gN σ) nu))) - 2)) ((gK σ) + 1) (pp1 (cu (gR σ) (gN σ) nu))) ((uI (ins (gZ σ) ((pw (gZ σ) (gK σ) (pp1 (cu (gR σ) (gN σ) nu))) + 1) 2) (pw (gZ σ) (gK σ) (pp1 (cu (gR σ) (gN σ) nu))) ((gZ σ) (pw (gZ σ) (gK σ) (pp1 (cu (gR σ) (gN σ) nu))) - 2)) (pw (uI (ins (gZ σ) ((pw (gZ σ) (gK σ) (pp1 (cu (gR σ) (gN σ) nu))) + 1) 2) (pw (gZ σ) (gK σ) (pp1 (cu (gR σ) (gN σ) nu))) ((gZ σ) (pw (gZ σ) (gK σ) (pp1 (cu (gR σ) (gN σ) nu))) - 2)) ((gK σ) + 1) (pp1 (cu (gR σ) (gN σ) nu))) + 1))  hC.pp) k_X3_put_X2_count (by decide) hC.pp.mp hC.pp.fp rfl rfl rfl hl rfl (Nat.le_of_ble_eq_true rfl) (by decide) rfl rfl dX3_put_148 (fun v L1 f1 H locs w hp => ?_)
                obtain ⟨rfl, rfl, hp⟩ := hp
                subst hp
                show W p l e _ s m _ below meth c _ _ _ _ _ (F0 m 151 ls [.int (iI (adK ((gK σ) + 1)))])
                refine vx_ret ?_
                refine x_iret X w hr hlk ⟨by decide, by decide⟩ dX3_put_151 ?_
                have ho : oPut nu su sy σ = (0, gK (oIns nu su sy σ), oIns nu su sy σ) := by unfold oPut; rw [if_pos (by omega), if_neg (show ¬ (qF nu σ ≠ -1 ∨ 80 ≤ gN σ) from fun h9 => h9.elim (fun h8 => h8 hq40) (fun h8 => by omega))]
                rw [ho]
                refine ⟨rfl, ?_, ?_, fun _ h => List.mem_append_left _ h, hF⟩
                · show _ = some (Value.int (iI (adK (spK (gZ σ) (gK σ) (cu (gR σ) (gN σ) nu)))))
                  rw [hsK]
                · show CX cs _ _ x br ba pr sz lr _ _ (adK (spK (gZ σ) (gK σ) (cu (gR σ) (gN σ) nu))) (adZ (spZ (gZ σ) (gK σ) (cu (gR σ) (gN σ) nu)) (spK (gZ σ) (gK σ) (cu (gR σ) (gN σ) nu)) (cu (gR σ) (gN σ) nu)) _ _ _ _ _
                  rw [hsK, hsZ]; exact hC
            · show W p l e _ s m _ below meth c _ _ _ _ _ (F0 m 91 ls [.int (iI 0)])
              refine x_iconst X dX3_put_91 ?_
              refine x_icmpT_lt (tgt := 108) X (by decide) (by decide) (by decide) dX3_put_92 ?_
              have hsK : spK (gZ σ) (gK σ) (cu (gR σ) (gN σ) nu) = gK σ := if_neg (by omega)
              have hsZ : spZ (gZ σ) (gK σ) (cu (gR σ) (gN σ) nu) = gZ σ := if_neg (by omega)
              refine x_al_n X hl 1 rfl rfl dX3_put_108 ?_
              refine x_get X w hC.mx hC.fx fq_X3_put_19 rfl dX3_put_109 ?_
              refine x_al_n X hl 1 rfl rfl dX3_put_112 ?_
              refine x_il X hl 0 rfl dX3_put_113 ?_
              refine x_callV (As := [.int (iI (cu (gR σ) (gN σ) nu))]) (rest := [.ref pr]) (c1 := 1) (s1 := 6) X w hA (c_X3_pageToPutOn l D cs L f0 x br ba pr sz lr (gK σ) (gZ σ) (gT σ) (gP σ) (gB σ) (gS σ) (cu (gR σ) (gN σ) nu) hC.mx hC.fx hC.pp (by omega) hz4) k_X3_put_X3_pageToPutOn (by decide) hC.mx hC.fx rfl rfl rfl hl rfl (Nat.le_of_ble_eq_true rfl) (by decide) rfl rfl dX3_put_115 (fun v L1 f1 H locs w hp => ?_)
              obtain ⟨rfl, rfl, hp⟩ := hp
              subst hp
              show W p l e _ s m _ below meth c _ _ _ _ _ (F0 m 118 ls [.int (iI (pw (gZ σ) (gK σ) (pp1 (cu (gR σ) (gN σ) nu)))), .ref pr])
              refine x_callV (As := [.int (iI (pw (gZ σ) (gK σ) (pp1 (cu (gR σ) (gN σ) nu))))]) (rest := []) (c1 := 1) (s1 := 6) X w hA (c_X2_addTo l D cs L f0 pr sz (gK σ) (gZ σ) (pw (gZ σ) (gK σ) (pp1 (cu (gR σ) (gN σ) nu))) hC.pp (by omega)) k_X3_put_X2_addTo (by decide) hC.pp.mp hC.pp.fp rfl rfl rfl hl rfl (Nat.le_of_ble_eq_true rfl) (by decide) rfl rfl dX3_put_118 (fun v L1 f1 H locs w hp => ?_)
              obtain ⟨rfl, rfl, hfr, hPP⟩ := hp
              have hC := hC.p hPP hfr
              have hF := hF.p hfr
              show W p l e _ s m _ below meth c _ _ _ _ _ (F0 m 121 ls [])
              refine x_al_n X hl 1 rfl rfl dX3_put_121 ?_
              refine x_get X w hC.mx hC.fx fq_X3_put_10 rfl dX3_put_122 ?_
              refine x_il X hl 0 rfl dX3_put_125 ?_
              refine x_newO (C := RX0) (T := TX0) (N := 5) (ci := 0) (c1 := 2) (s1 := 11) X w hA iw_X3_put_X0 tyX0_ok ⟨by decide +kernel, by decide +kernel, by decide +kernel⟩ rfl df_X0 (by decide) rfl rfl dX3_put_127 (fun a127 H locs hn127 w => ?_)
              have hC0 := hC
              obtain ⟨f130, w, hC, hF, hfa, hfu⟩ : ∃ f9, XW D A s.heap (L ++ [a127]) f9 H locs ∧ CX cs (L ++ [a127]) f9 x br ba pr sz lr (gN σ) (gR σ) (adK (gK σ)) (if (gK σ) = 0 then uI (gZ σ) 0 1 else uI (gZ σ) (pw (gZ σ) (gK σ) (pp1 (cu (gR σ) (gN σ) nu))) ((gZ σ) (pw (gZ σ) (gK σ) (pp1 (cu (gR σ) (gN σ) nu))) + 1)) (gT σ) (gP σ) (gB σ) (gS σ) (gW σ) ∧ FC L f0 f9 x br ba pr sz lr ∧ f9 a127 = .inr (0, [.int (iI 0), .int (iI 0), .int (iI 0), .int (iI 0), .int (iI 0)]) ∧ (∀ b, b ≠ a127 → f9 b = f1 b) := ⟨_, w, hC.new hn127, hF.new hn127, va_up_self _ _ _, fun b hb => va_up_ne _ _ hb⟩
              have hma : a127 ∈ L ++ [a127] := List.mem_append_right _ List.mem_cons_self
              refine x_dup X rfl dX3_put_130 ?_
              refine x_il_n X hl 2 rfl rfl dX3_put_131 ?_
              refine x_il_n X hl 3 rfl rfl dX3_put_132 ?_
              refine x_il_n X hl 4 rfl rfl dX3_put_133 ?_
              refine x_al_n X hl 1 rfl rfl dX3_put_134 ?_
              refine x_get X w hC.mx hC.fx fq_X3_put_77 rfl dX3_put_135 ?_
              refine x_callI (As := [.int (iI nu), .int (iI su), .int (iI sy), .int (iI (gT σ))]) (rest := [.ref a127, .int (iI (cu (gR σ) (gN σ) nu)), .ref br]) (c1 := 2) (s1 := 11) X w hA (c_X0_init l D cs (L ++ [a127]) f130 a127 nu su sy (gT σ) hma hfa) k_X3_put_X0_init (by decide) rfl hl rfl (Nat.le_of_ble_eq_true rfl) (by decide) rfl rfl dX3_put_138 (fun v L1 f1 H locs w hp => ?_)
              obtain ⟨rfl, rfl, hfa, hfr⟩ := hp
              have hC := hC0.new2 hn127 (fun b hb => (hfr b hb hb).trans (hfu b hb))
              have hF := hF.new3 hn127 (fun b hb => hfr b hb hb)
              show W p l e _ s m _ below meth c _ _ _ _ _ (F0 m 141 ls [.ref a127, .int (iI (cu (gR σ) (gN σ) nu)), .ref br])
              obtain ⟨r141, hRB, hO⟩ := hC.rb
              refine x_callV (As := [.int (iI (cu (gR σ) (gN σ) nu)), .ref a127]) (rest := []) (c1 := 2) (s1 := 11) X w hA (c_X1_insert l D cs (L ++ [a127]) f1 br ba (gN σ) r141 (gR σ) (cu (gR σ) (gN σ) nu) a127 (nR nu su sy (gT σ)) hRB hO (by omega) hma hfa) k_X3_put_X1_insert (by decide) hC.mb hC.fb rfl rfl rfl hl rfl (Nat.le_of_ble_eq_true rfl) (by decide) rfl rfl dX3_put_141 (fun v L1 f1 H locs w hp => ?_)
              obtain ⟨rfl, rfl, hfr, r1, hRB, hO⟩ := hp
              have hC := hC.b hRB hO hfr
              have hF := hF.b hfr
              show W p l e _ s m _ below meth c _ _ _ _ _ (F0 m 144 ls [])
              refine x_al_n X hl 1 rfl rfl dX3_put_144 ?_
              refine x_get X w hC.mx hC.fx fq_X3_put_19 rfl dX3_put_145 ?_
              refine x_callV (As := []) (rest := []) (c1 := 2) (s1 := 11) X w hA (c_X2_count l D cs (L ++ [a127]) f1 pr sz (adK (gK σ)) (if (gK σ) = 0 then uI (gZ σ) 0 1 else uI (gZ σ) (pw (gZ σ) (gK σ) (pp1 (cu (gR σ) (gN σ) nu))) ((gZ σ) (pw (gZ σ) (gK σ) (pp1 (cu (gR σ) (gN σ) nu))) + 1))  hC.pp) k_X3_put_X2_count (by decide) hC.pp.mp hC.pp.fp rfl rfl rfl hl rfl (Nat.le_of_ble_eq_true rfl) (by decide) rfl rfl dX3_put_148 (fun v L1 f1 H locs w hp => ?_)
              obtain ⟨rfl, rfl, hp⟩ := hp
              subst hp
              show W p l e _ s m _ below meth c _ _ _ _ _ (F0 m 151 ls [.int (iI (adK (gK σ)))])
              refine vx_ret ?_
              refine x_iret X w hr hlk ⟨by decide, by decide⟩ dX3_put_151 ?_
              have ho : oPut nu su sy σ = (0, gK (oIns nu su sy σ), oIns nu su sy σ) := by unfold oPut; rw [if_pos (by omega), if_neg (show ¬ (qF nu σ ≠ -1 ∨ 80 ≤ gN σ) from fun h9 => h9.elim (fun h8 => h8 hq40) (fun h8 => by omega))]
              rw [ho]
              refine ⟨rfl, ?_, ?_, fun _ h => List.mem_append_left _ h, hF⟩
              · show _ = some (Value.int (iI (adK (spK (gZ σ) (gK σ) (cu (gR σ) (gN σ) nu)))))
                rw [hsK]
              · show CX cs _ _ x br ba pr sz lr _ _ (adK (spK (gZ σ) (gK σ) (cu (gR σ) (gN σ) nu))) (adZ (spZ (gZ σ) (gK σ) (cu (gR σ) (gN σ) nu)) (spK (gZ σ) (gK σ) (cu (gR σ) (gN σ) nu)) (cu (gR σ) (gN σ) nu)) _ _ _ _ _
                rw [hsK, hsZ]; exact hC
          · refine x_throw X w hl9 hV hZ hlk hout hl xt_X3_put_56 dX3_put_58 dX3_put_61 dX3_put_62 dX3_put_64 dX3_put_67 ⟨by decide, (Nat.le_of_ble_eq_true rfl), by decide, by decide⟩ ⟨by decide, by decide⟩ ?_
            exact Or.inr ⟨by unfold oPut; rw [if_pos (by omega), if_pos (show qF nu σ ≠ -1 ∨ 80 ≤ gN σ from Or.inr (by omega))], rfl⟩
      · show W p l e _ s m _ below meth c _ _ _ _ _ (F0 m 22 ls [.int (iI 0)])
        refine x_ifF_ne (tgt := 35) X (by decide) (by decide) (by decide) dX3_put_22 ?_
        refine x_throw X w hl9 hV hZ hlk hout hl xt_X3_put_41 dX3_put_25 dX3_put_28 dX3_put_29 dX3_put_31 dX3_put_34 ⟨by decide, (Nat.le_of_ble_eq_true rfl), by decide, by decide⟩ ⟨by decide, by decide⟩ ?_
        exact Or.inl ⟨by unfold oPut; rw [if_neg (by omega)], rfl⟩
    · show W p l e _ s m _ below meth c _ _ _ _ _ (F0 m 12 ls [.int (iI 0)])
      refine x_ifT_eq (tgt := 25) X (by decide) (by decide) (by decide) dX3_put_12 ?_
      refine x_throw X w hl9 hV hZ hlk hout hl xt_X3_put_41 dX3_put_25 dX3_put_28 dX3_put_29 dX3_put_31 dX3_put_34 ⟨by decide, (Nat.le_of_ble_eq_true rfl), by decide, by decide⟩ ⟨by decide, by decide⟩ ?_
      exact Or.inl ⟨by unfold oPut; rw [if_neg (by omega)], rfl⟩
end
section
/-! constructors: contracts with a premise on the machine; new rows; the objects that the law makes -/
def CPz (Z : State → Prop) (D : va_G) (cs : ClassId × ClassId × ClassId) (args : List Value) (sz : Nat) (L : List Nat) (f : Nat → va_E) : Array Value → State → Prop := va_Pc args (fun U => U.heap.size = sz ∧ va_P D vwCl (va_pl L f) U.heap ∧ va_K D vwCl (ty3 cs) U ∧ va_D (fun _ => True) (va_pl L f) ∧ Z U)
def C0z (Z : State → Prop) (l : Launch) (y : MethodName) (ws : List Cond) (rm : Room) (D : va_G) (cs : ClassId × ClassId × ClassId) (args : List Value) (L : List Nat) (f : Nat → va_E) (post : Option Value → List Nat → (Nat → va_E) → Prop) : Prop :=
  ∀ sz : Nat, Met l y ws rm (CPz Z D cs args sz L f) (CQ D cs (va_A (va_pl L f) sz) post) rm.cells rm.slots (va_A (va_pl L f) sz)
def ZW (Z : State → Prop) : Prop := ∀ s U : State, s.WarmedH U.vm → Z s → Z U
section XCT
variable {p : Program} {l : Launch} {e : Env} {R : Room} {s : State} {m : MethodId} {args : Array Value} {below : List Frame} {meth : Method} {c : Code} {H : Heap} {locs : List Loc} {cells slots c1 s1 : Nat} {Q : State → Prop}
variable {cc : ByteArray} {nL pc : Nat} {ls : Array Slot} {rest st : List Value} {Ts : List Cond} {own : String} {D : va_G} {cs : ClassId × ClassId × ClassId} {A : Nat → Prop} {H0 : Heap} {L : List Nat} {f : Nat → va_E} {lv lv' : List (Nat × Value)}
variable {y : MethodName} {ws : List Cond} {bytes : ByteArray} {maxL : Nat} {ret : Option FieldType} {rm : Room} {index n : Nat} {As : List Value} {post : Option Value → List Nat → (Nat → va_E) → Prop} {Z : State → Prop}
theorem cpz_blind (hw : ZW Z) {As : List Value} {sz : Nat} : FrameBlind (CPz Z D cs As sz L f) := fun a U g mk h => by
  obtain ⟨h0, h1, hP, hK, hD, hz⟩ := h
  exact ⟨h0, h1, hP, va_K.moved (u := U) (U := U.calling g mk a) (Vm.Alike.refl U.vm) hK, hD, hw U (U.calling g mk a) (State.WarmedH.refl U) hz⟩
theorem x_prez (X : XX p m c cc nL s args Ts own D cs) (w : XW D A H0 L f H locs) (hw : ZW Z) (hz : Z s) {As : List Value} : ∀ U : State, U.heap = H → s.WarmedH U.vm → CPz Z D cs As H.size L f As.toArray U :=
  fun U hU hW => ⟨rfl, by rw [hU], by rw [hU]; exact w.1, va_K.moved hW.alike X.2, w.2.1.weaken (fun _ _ _ _ => trivial), hw s U hW hz⟩
theorem C0z.of {ws' : List Cond} {al : List Value} (hy : plainName y.cls = true) (hw : ws = Cond.code y cc maxL ret :: ws') (hlen : (lg_sl al).length ≤ maxL)
    (body : ∀ (p : Program) (e : Env) (s : State) (m : MethodId) (below : List Frame) (meth : Method) (c : Code), XX p m c cc maxL s al.toArray ws y.cls D cs → meth.sig.returnType = ret → meth.locks = false → meth.name = y.name → Z s → ∀ (A : Nat → Prop), (∀ q, s.heap.size ≤ q → A q) → XW D A s.heap L f s.heap [] → ∀ ls, lv_has ls maxL (lv_args 0 al) → W p l e rm s m al.toArray below meth c s.heap [] 0 0 (MQ below (CQ D cs A post) al.toArray s rm.cells rm.slots A) (F0 m 0 ls [])) : C0z Z l y ws rm D cs al L f post := by
  intro sz
  refine Met.ofW (cc := cc) (maxL := maxL) (ret := ret) hy hw ?_
  intro p e s m args' below meth c s₁ B hml hv
  obtain ⟨rfl, hsz, hP, hK, hD0, hz⟩ := hv
  have hts := atoms_spec (ws := ws) B.pre
  have hown := findClass_of_methodNamed B.named
  subst hsz
  rw [lg_entry_eq]
  exact body p e s m below meth c ⟨⟨B.exec, B.bytes, hml, hown, hts⟩, hK⟩ B.returns B.notSynchronized (name_of_methodNamed B.named B.method).1 hz _ (fun q h => Or.inr h) ⟨hP, hD0.self, va_S.rf⟩ _ (lv_entry al hlen)
theorem x_callIz {b : Nat} (X : XX p m c cc nL s args Ts own D cs) (w : XW D A H0 L f H locs) (hA : ∀ q, H0.size ≤ q → A q) (hzw : ZW Z) (hz : Z s) (hC : C0z Z l y ws rm D cs (.ref b :: As) L f post) (hk : XI Ts own index y bytes maxL ws n) (hR : rm.frames + 1 ≤ R.frames ∧ 8 + (maxL + 11) + rm.locals ≤ R.locals) (hn : As.length = n) (hl : lv_has ls nL lv) (hst : st = As.reverse ++ .ref b :: rest) (hrm : (rest.map fun v => v.category).sum ≤ 8) (hcs : cells + rm.cells ≤ R.cells ∧ slots + rm.slots ≤ R.slots) (hc1 : cells + rm.cells = c1) (hs1 : slots + rm.slots = s1) (hdg : decode cc pc = .ok (.invokespecial index, 3))
    (kk : ∀ (v : Option Value) (L : List Nat) (f : Nat → va_E) (H : Heap) (locs : List Loc), XW D A H0 L f H locs → post v L f → W p l e R s m args below meth c H locs c1 s1 Q (F0 m (pc + 3) ls (v.toList ++ rest))) : W p l e R s m args below meth c H locs cells slots Q (F0 m pc ls st) := by
  subst hst
  obtain ⟨hG, ⟨ws', hw⟩, hd1, hy, hd⟩ := hk
  have ht := X.1.2.2.2.2
  exact x_run w hA (va_runI (As := As) (rest := rest) X.1 (hC H.size) (cwI n ht hG hw rfl rfl (ht _ hd1.1) (ht _ hd1.2.1) (ht _ hd1.2.2) hy hd hR) ⟨cpz_blind hzw, x_prez X w hzw hz⟩ rfl hn hl.1 rfl (lv_room hrm) hdg hcs) hc1 hs1 kk
/-- a nest mate's own constructor -/
theorem x_callIN {b : Nat} {host : String} (X : XX p m c cc nL s args Ts own D cs) (w : XW D A H0 L f H locs) (hA : ∀ q, H0.size ≤ q → A q) (hzw : ZW Z) (hz : Z s) (hC : C0z Z l y ws rm D cs (.ref b :: As) L f post) (hG : GoodIn Ts ws) (hws : ∃ ws', ws = Cond.code y bytes maxL none :: ws') (hd1 : Cond.initialized y.cls ∈ Ts ∧ Cond.instanceMethod y ∈ Ts) (hy : y.name = "<init>") (hd : y.cls ≠ "java/lang/invoke/MethodHandle" ∧ y.cls ≠ "java/lang/invoke/VarHandle" ∧ (parseMethodDescriptor y.desc).map (fun d => d.parameters.length) = some n) (hnest : va_Nw (.methodLinkNest own index y host) s) (hR : rm.frames + 1 ≤ R.frames ∧ 8 + (maxL + 11) + rm.locals ≤ R.locals) (hn : As.length = n) (hl : lv_has ls nL lv) (hst : st = As.reverse ++ .ref b :: rest) (hrm : (rest.map fun v => v.category).sum ≤ 8) (hcs : cells + rm.cells ≤ R.cells ∧ slots + rm.slots ≤ R.slots) (hc1 : cells + rm.cells = c1) (hs1 : slots + rm.slots = s1) (hdg : decode cc pc = .ok (.invokespecial index, 3))
    (kk : ∀ (v : Option Value) (L : List Nat) (f : Nat → va_E) (H : Heap) (locs : List Loc), XW D A H0 L f H locs → post v L f → W p l e R s m args below meth c H locs c1 s1 Q (F0 m (pc + 3) ls (v.toList ++ rest))) : W p l e R s m args below meth c H locs cells slots Q (F0 m pc ls st) := by
  subst hst
  obtain ⟨ws', hw⟩ := hws
  have ht := X.1.2.2.2.2
  exact x_run w hA (va_runIN (As := As) (rest := rest) X.1 (hC H.size) ⟨va_cnB n ht hG hw rfl rfl hnest (ht _ hd1.1) hd hR, hy, ht _ hd1.2⟩ ⟨cpz_blind hzw, x_prez X w hzw hz⟩ rfl hn hl.1 rfl (lv_room hrm) hdg hcs) hc1 hs1 kk
theorem x_newI {N : Nat} (X : XX p m c cc nL s args Ts own D cs) (w : XW D A H0 L f H locs) (hA : ∀ q, H0.size ≤ q → A q) (h1 : Cond.arrayClass .int ∈ Ts) (hN : N ≤ 1000) (hR : cells + 1 ≤ R.cells ∧ slots + N ≤ R.slots) (hc1 : cells + 1 = c1) (hs1 : slots + N = s1) (hdg : decode cc pc = .ok (.newarray .int, 2))
    (kk : ∀ (q : Nat) (H : Heap) (locs : List Loc), q ∉ L → XW D A H0 (L ++ [q]) (va_up f q (.inl (cs.1, N, .inl (aI (fun _ => 0))))) H locs → W p l e R s m args below meth c H locs c1 s1 Q (F0 m (pc + 2) ls (.ref q :: rest))) : W p l e R s m args below meth c H locs cells slots Q (F0 m pc ls (.int (iI (N : Int)) :: rest)) := by
  subst hc1; subst hs1
  have h0 : (iI (N : Int)).toInt = (N : Int) := iI_toInt (by omega)
  refine va_newa (atype := .int) (ty := .int) (a0 := (N, .inl (aI (fun _ => 0)))) X.1.1 X.1.2.1 (X.1.2.2.2.2 _ h1) rfl X.2 w.1 w.2.1 w.2.2 hA (fun cA => ?_) ?_ ?_ (by show N * 4 ≤ 536870912; omega) hR.1 hR.2 hdg (fun q cA H1 hK hP hD hS => ?_)
  · rw [vp_cell_i]
    exact congrArg (arrV cA N) (funext (fun _ => congrArg Value.int iI_0.symm))
  · rw [iI_0, iI_lt (by omega) (by omega)]; omega
  · show (iI (N : Int)).toInt.toNat = N
    rw [h0]; omega
  · have e1 : cA = cs.1 := by
      have g1 := (X.2.2 0 (cs.1, .int) rfl).2
      have g2 := (hK.2 2 (cA, .int) rfl).2
      exact Option.some.inj (g2.symm.trans g1)
    subst e1
    obtain ⟨hq, w1⟩ := xw_push hP hD hS
    exact kk q H1 _ hq w1
theorem x_newR {N : Nat} (X : XX p m c cc nL s args Ts own D cs) (w : XW D A H0 L f H locs) (hA : ∀ q, H0.size ≤ q → A q) (h1 : Cond.classLink own index RX0 ∈ Ts) (hz : va_AO RX0 s) (hN : N ≤ 1000) (hR : cells + 1 ≤ R.cells ∧ slots + N ≤ R.slots) (hc1 : cells + 1 = c1) (hs1 : slots + N = s1) (hdg : decode cc pc = .ok (.anewarray index, 3))
    (kk : ∀ (q : Nat) (H : Heap) (locs : List Loc), q ∉ L → XW D A H0 (L ++ [q]) (va_up f q (.inl (cs.2.1, N, .inr (.inr (.inr (.inr (aR (fun _ => none)))))))) H locs → W p l e R s m args below meth c H locs c1 s1 Q (F0 m (pc + 3) ls (.ref q :: rest))) : W p l e R s m args below meth c H locs cells slots Q (F0 m pc ls (.int (iI (N : Int)) :: rest)) := by
  subst hc1; subst hs1
  have h0 : (iI (N : Int)).toInt = (N : Int) := iI_toInt (by omega)
  refine va_newq (C := RX0) (N' := N) X.1.1 X.1.2.1 X.1.2.2.2.1 (X.1.2.2.2.2 _ h1) hz X.2 w.1 w.2.1 w.2.2 hA ?_ ?_ (by omega) hR.1 hR.2 hdg (fun q cA H1 hK hP hD hS => ?_)
  · rw [iI_0, iI_lt (by omega) (by omega)]; omega
  · show (iI (N : Int)).toInt.toNat = N
    rw [h0]; omega
  · have e1 : cA = cs.2.1 := by
      obtain ⟨_, _, _, _, _, g1⟩ := (X.2.2 1 (cs.2.1, .object RX0) rfl).2
      obtain ⟨_, _, _, _, _, g2⟩ := (hK.2 2 (cA, .object RX0) rfl).2
      exact Option.some.inj (g2.symm.trans g1)
    subst e1
    obtain ⟨hq, w1⟩ := xw_push hP hD hS
    exact kk q H1 _ hq w1
end XCT
theorem df_X1 : ∀ j, j < 2 → defaultValue (tyX1 j) = vp_V [.null, .int (iI 0)] j := by
  intro j hj
  rcases (show j = 0 ∨ j = 1 by omega) with rfl | rfl <;> rfl
theorem df_X2 : ∀ j, j < 2 → defaultValue (tyX2 j) = vp_V [.null, .int (iI 0)] j := by
  intro j hj
  rcases (show j = 0 ∨ j = 1 by omega) with rfl | rfl <;> rfl
theorem df_X3 : ∀ j, j < 7 → defaultValue (tyX3 j) = vp_V [.null, .null, .null, .int (iI 0), .int (iI 0), .int (iI 0), .int (iI 0)] j := by
  intro j hj
  rcases (show j = 0 ∨ j = 1 ∨ j = 2 ∨ j = 3 ∨ j = 4 ∨ j = 5 ∨ j = 6 by omega) with rfl | rfl | rfl | rfl | rfl | rfl | rfl <;> rfl
def ZI (U : State) : Prop := va_AO RX0 U ∧ va_Nw (.methodLinkNest RX3 9 yX1_init "PageBail") U ∧ va_Nw (.methodLinkNest RX3 18 yX2_init "PageBail") U
theorem zw_I : ZW ZI := fun _ _ hW h => ⟨va_AO.moved hW.alike h.1, va_Nw.warmM hW h.2.1, va_Nw.warmM hW h.2.2⟩
/-- the register of a new object -/
def sg0 : Sg := (0, fun _ _ => 0, 0, fun _ => 0, 0, 0, 0, -1, fun _ => -1)
theorem Inv.z : Inv sg0 := ⟨by decide, fun j a b => by have h : j < 0 := b; omega, fun i j a b c => by have h : j < 0 := c; omega, by decide, fun j a b => by have h : j < 0 := b; omega, rfl, by decide, by decide, fun j a b => by show (-1 : Int) ≤ -1 ∧ (-1 : Int) ≤ 999; omega⟩
theorem w4 {g : Int → Int} {j : Int} (h : g = uI (uI (uI (uI (fun _ => 0) 0 (-1)) 1 (-1)) 2 (-1)) 3 (-1)) (h1 : 0 ≤ j) (h2 : j < 4) : g j = -1 := by
  rw [h]
  rcases (show j = 0 ∨ j = 1 ∨ j = 2 ∨ j = 3 by omega) with rfl | rfl | rfl | rfl <;> rfl

theorem iw_X1_init_X1 : ∀ w ∈ wsX10, w ∈ wsX1_init := by decide +kernel
theorem fz_X1_init_11 : XG wsX1_init RX1 11 1 0 true (tyX1 0) := ⟨RX1, TX1, 2, tyX1, iw_X1_init_X1, rfl, by decide, by decide +kernel, tyX1_ok, nmX1, rfl, rfl, by decide +kernel⟩
set_option maxHeartbeats 4000000 in
set_option maxRecDepth 100000 in
theorem c_X1_init (l : Launch) (D : va_G) (cs : ClassId × ClassId × ClassId) (L : List Nat) (f0 : Nat → va_E) (x : Nat) (hm_x : x ∈ L) (hf_x : f0 x = .inr (1, [.null, .int (iI 0)])) : C0z (va_AO RX0) l yX1_init wsX1_init ({ frames := 1, cells := 1, slots := 80, locals := 21 } : Room) D cs [.ref x] L f0 (fun v L1 f1 => v = none ∧ ∃ ba, ba ∉ L ∧ L1 = L ++ [ba] ∧ f1 x = .inr (1, [.ref ba, .int (iI 0)]) ∧ f1 ba = .inl (cs.2.1, 80, .inr (.inr (.inr (.inr (aR (fun _ => none)))))) ∧ ∀ b, b ≠ x → b ≠ ba → f1 b = f0 b) := by
  refine C0z.of (cc := cX1_init) (maxL := 1) (ret := none) (by decide) rfl (Nat.le_of_ble_eq_true rfl) ?_
  intro p e s m below meth c X hr hlk hin hzz A hA w ls hl
  have hl : lv_has ls 1 [(0, .ref x)] := hl
  have hfr : ∀ b, b ∈ L → b ≠ x → f0 b = f0 b := fun _ _ _ => rfl
  have hsub : ∀ b, b ∈ L → b ∈ L := fun _ h => h
  refine x_al_n X hl 0 rfl rfl dX1_init_0 ?_
  refine x_objI X hl ⟨by decide +kernel, by decide +kernel, by decide +kernel⟩ ⟨by decide, (Nat.le_of_ble_eq_true rfl)⟩ dX1_init_1 ?_
  refine x_al_n X hl 0 rfl rfl dX1_init_4 ?_
  refine x_bipush X (by decide) dX1_init_5 ?_
  refine x_newR (N := 80) (c1 := 1) (s1 := 80) X w hA (by decide +kernel) hzz (by decide) (by decide) rfl rfl dX1_init_7 (fun a7 H locs hn7 w => ?_)
  have hd_x_a7 : x ≠ a7 := fun he => hn7 (by rw [← he]; exact hm_x)
  have hd_a7_x := hd_x_a7.symm
  have h0_a7 : a7 ∉ L := fun h => hn7 (hsub _ h)
  have hsub : ∀ b, b ∈ L → b ∈ L ++ [a7] := fun b h => List.mem_append_left _ (hsub b h)
  have hm_x := List.mem_append_left [a7] hm_x
  have hm_a7 : a7 ∈ L ++ [a7] := List.mem_append_right _ List.mem_cons_self
  obtain ⟨fq10, w, hf_a7, hu⟩ : ∃ f9, XW D A s.heap (L ++ [a7]) f9 H locs ∧ f9 a7 = .inl (cs.2.1, 80, .inr (.inr (.inr (.inr (aR (fun _ => none)))))) ∧ (∀ b, b ≠ a7 → f9 b = f0 b) := ⟨_, w, va_up_self _ _ _, fun b hb => va_up_ne _ _ hb⟩
  have hf_x := (hu x hd_x_a7).trans hf_x
  have hfr : ∀ b, b ∈ L → b ≠ x → fq10 b = f0 b := fun b hb hx => (hu b (fun he => h0_a7 (by rw [← he]; exact hb))).trans (hfr b hb hx)
  have hu0 := hu
  refine x_putF X w hm_x hf_x fz_X1_init_11 hin rfl rfl (Nat.le_of_ble_eq_true rfl) rfl dX1_init_10 (fun H locs w => ?_)
  obtain ⟨fq13, w, hf_x, hu⟩ : ∃ f9, XW D A s.heap (L ++ [a7]) f9 H locs ∧ f9 x = .inr (1, [.ref a7, .int (iI 0)]) ∧ (∀ b, b ≠ x → f9 b = fq10 b) := ⟨_, w, va_up_self _ _ _, fun b hb => va_up_ne _ _ hb⟩
  have hf_a7 := (hu a7 hd_a7_x).trans hf_a7
  have hfr : ∀ b, b ∈ L → b ≠ x → fq13 b = f0 b := fun b hb hx => (hu b (hx)).trans (hfr b hb hx)
  refine x_vret X w hr hlk ⟨by decide, by decide⟩ dX1_init_13 ?_
  exact ⟨rfl, a7, hn7, rfl, hf_x, hf_a7, fun b h1 h2 => (hu b h1).trans (hu0 b h2)⟩

theorem iw_X2_init_X2 : ∀ w ∈ wsX20, w ∈ wsX2_init := by decide +kernel
theorem fz_X2_init_9 : XG wsX2_init RX2 9 2 0 true (tyX2 0) := ⟨RX2, TX2, 2, tyX2, iw_X2_init_X2, rfl, by decide, by decide +kernel, tyX2_ok, nmX2, rfl, rfl, by decide +kernel⟩
set_option maxHeartbeats 4000000 in
set_option maxRecDepth 100000 in
theorem c_X2_init (l : Launch) (D : va_G) (cs : ClassId × ClassId × ClassId) (L : List Nat) (f0 : Nat → va_E) (x : Nat) (hm_x : x ∈ L) (hf_x : f0 x = .inr (2, [.null, .int (iI 0)])) : C0z (fun _ => True) l yX2_init wsX2_init ({ frames := 1, cells := 1, slots := 80, locals := 21 } : Room) D cs [.ref x] L f0 (fun v L1 f1 => v = none ∧ ∃ ba, ba ∉ L ∧ L1 = L ++ [ba] ∧ f1 x = .inr (2, [.ref ba, .int (iI 0)]) ∧ f1 ba = .inl (cs.1, 80, .inl (aI (fun _ => 0))) ∧ ∀ b, b ≠ x → b ≠ ba → f1 b = f0 b) := by
  refine C0z.of (cc := cX2_init) (maxL := 1) (ret := none) (by decide) rfl (Nat.le_of_ble_eq_true rfl) ?_
  intro p e s m below meth c X hr hlk hin hzz A hA w ls hl
  have hl : lv_has ls 1 [(0, .ref x)] := hl
  have hfr : ∀ b, b ∈ L → b ≠ x → f0 b = f0 b := fun _ _ _ => rfl
  have hsub : ∀ b, b ∈ L → b ∈ L := fun _ h => h
  refine x_al_n X hl 0 rfl rfl dX2_init_0 ?_
  refine x_objI X hl ⟨by decide +kernel, by decide +kernel, by decide +kernel⟩ ⟨by decide, (Nat.le_of_ble_eq_true rfl)⟩ dX2_init_1 ?_
  refine x_al_n X hl 0 rfl rfl dX2_init_4 ?_
  refine x_bipush X (by decide) dX2_init_5 ?_
  refine x_newI (N := 80) (c1 := 1) (s1 := 80) X w hA (by decide +kernel) (by decide) (by decide) rfl rfl dX2_init_7 (fun a7 H locs hn7 w => ?_)
  have hd_x_a7 : x ≠ a7 := fun he => hn7 (by rw [← he]; exact hm_x)
  have hd_a7_x := hd_x_a7.symm
  have h0_a7 : a7 ∉ L := fun h => hn7 (hsub _ h)
  have hsub : ∀ b, b ∈ L → b ∈ L ++ [a7] := fun b h => List.mem_append_left _ (hsub b h)
  have hm_x := List.mem_append_left [a7] hm_x
  have hm_a7 : a7 ∈ L ++ [a7] := List.mem_append_right _ List.mem_cons_self
  obtain ⟨fq9, w, hf_a7, hu⟩ : ∃ f9, XW D A s.heap (L ++ [a7]) f9 H locs ∧ f9 a7 = .inl (cs.1, 80, .inl (aI (fun _ => 0))) ∧ (∀ b, b ≠ a7 → f9 b = f0 b) := ⟨_, w, va_up_self _ _ _, fun b hb => va_up_ne _ _ hb⟩
  have hf_x := (hu x hd_x_a7).trans hf_x
  have hfr : ∀ b, b ∈ L → b ≠ x → fq9 b = f0 b := fun b hb hx => (hu b (fun he => h0_a7 (by rw [← he]; exact hb))).trans (hfr b hb hx)
  have hu0 := hu
  refine x_putF X w hm_x hf_x fz_X2_init_9 hin rfl rfl (Nat.le_of_ble_eq_true rfl) rfl dX2_init_9 (fun H locs w => ?_)
  obtain ⟨fq12, w, hf_x, hu⟩ : ∃ f9, XW D A s.heap (L ++ [a7]) f9 H locs ∧ f9 x = .inr (2, [.ref a7, .int (iI 0)]) ∧ (∀ b, b ≠ x → f9 b = fq9 b) := ⟨_, w, va_up_self _ _ _, fun b hb => va_up_ne _ _ hb⟩
  have hf_a7 := (hu a7 hd_a7_x).trans hf_a7
  have hfr : ∀ b, b ∈ L → b ≠ x → fq12 b = f0 b := fun b hb hx => (hu b (hx)).trans (hfr b hb hx)
  refine x_vret X w hr hlk ⟨by decide, by decide⟩ dX2_init_12 ?_
  exact ⟨rfl, a7, hn7, rfl, hf_x, hf_a7, fun b h1 h2 => (hu b h1).trans (hu0 b h2)⟩

theorem iw_X3_init_X1 : ∀ w ∈ wsX10, w ∈ wsX3_init := by decide +kernel
theorem iw_X3_init_X3 : ∀ w ∈ wsX30, w ∈ wsX3_init := by decide +kernel
theorem fz_X3_init_10 : XG wsX3_init RX3 10 3 0 true (tyX3 0) := ⟨RX3, TX3, 7, tyX3, iw_X3_init_X3, rfl, by decide, by decide +kernel, tyX3_ok, nmX3, rfl, rfl, by decide +kernel⟩
theorem iw_X3_init_X2 : ∀ w ∈ wsX20, w ∈ wsX3_init := by decide +kernel
theorem fz_X3_init_19 : XG wsX3_init RX3 19 3 1 true (tyX3 1) := ⟨RX3, TX3, 7, tyX3, iw_X3_init_X3, rfl, by decide, by decide +kernel, tyX3_ok, nmX3, rfl, rfl, by decide +kernel⟩
theorem fz_X3_init_23 : XG wsX3_init RX3 23 3 2 true (tyX3 2) := ⟨RX3, TX3, 7, tyX3, iw_X3_init_X3, rfl, by decide, by decide +kernel, tyX3_ok, nmX3, rfl, rfl, by decide +kernel⟩
theorem fp_X3_init_27 : XGn wsX3_init RX3 27 3 6 (tyX3 6) := ⟨RX3, TX3, 7, tyX3, iw_X3_init_X3, rfl, by decide, by decide +kernel, tyX3_ok, nmX3, rfl, by decide +kernel⟩
set_option maxHeartbeats 4000000 in
set_option maxRecDepth 100000 in
theorem c_X3_init (l : Launch) (D : va_G) (cs : ClassId × ClassId × ClassId) (L : List Nat) (f0 : Nat → va_E) (x : Nat) (hm_x : x ∈ L) (hf_x : f0 x = .inr (3, [.null, .null, .null, .int (iI 0), .int (iI 0), .int (iI 0), .int (iI 0)])) : C0z ZI l yX3_init wsX3_init ({ frames := 2, cells := 5, slots := 168, locals := 41 } : Room) D cs [.ref x] L f0 (fun v L1 f1 => v = none ∧ (∀ b, b ∈ L → b ∈ L1) ∧ (∀ b, b ∈ L → b ≠ x → f1 b = f0 b) ∧ ∃ br ba pr sz lr, CC cs L1 f1 x br ba pr sz lr sg0) := by
  refine C0z.of (cc := cX3_init) (maxL := 1) (ret := none) (by decide) rfl (Nat.le_of_ble_eq_true rfl) ?_
  intro p e s m below meth c X hr hlk hin hzz A hA w ls hl
  have hl : lv_has ls 1 [(0, .ref x)] := hl
  have hfr : ∀ b, b ∈ L → b ≠ x → f0 b = f0 b := fun _ _ _ => rfl
  have hsub : ∀ b, b ∈ L → b ∈ L := fun _ h => h
  refine x_al_n X hl 0 rfl rfl dX3_init_0 ?_
  refine x_objI X hl ⟨by decide +kernel, by decide +kernel, by decide +kernel⟩ ⟨by decide, (Nat.le_of_ble_eq_true rfl)⟩ dX3_init_1 ?_
  refine x_al_n X hl 0 rfl rfl dX3_init_4 ?_
  refine x_newO (C := RX1) (T := TX1) (N := 2) (ci := 1) (c1 := 1) (s1 := 2) X w hA iw_X3_init_X1 tyX1_ok ⟨by decide +kernel, by decide +kernel, by decide +kernel⟩ rfl df_X1 (by decide) rfl rfl dX3_init_5 (fun a5 H locs hn5 w => ?_)
  have hd_x_a5 : x ≠ a5 := fun he => hn5 (by rw [← he]; exact hm_x)
  have hd_a5_x := hd_x_a5.symm
  have h0_a5 : a5 ∉ L := fun h => hn5 (hsub _ h)
  have hsub : ∀ b, b ∈ L → b ∈ L ++ [a5] := fun b h => List.mem_append_left _ (hsub b h)
  have hm_x := List.mem_append_left [a5] hm_x
  have hm_a5 : a5 ∈ L ++ [a5] := List.mem_append_right _ List.mem_cons_self
  obtain ⟨fq8, w, hf_a5, hu⟩ : ∃ f9, XW D A s.heap (L ++ [a5]) f9 H locs ∧ f9 a5 = .inr (1, [.null, .int (iI 0)]) ∧ (∀ b, b ≠ a5 → f9 b = f0 b) := ⟨_, w, va_up_self _ _ _, fun b hb => va_up_ne _ _ hb⟩
  have hf_x := (hu x hd_x_a5).trans hf_x
  have hfr : ∀ b, b ∈ L → b ≠ x → fq8 b = f0 b := fun b hb hx => (hu b (fun he => h0_a5 (by rw [← he]; exact hb))).trans (hfr b hb hx)
  refine x_dup X rfl dX3_init_8 ?_
  refine x_callIN (As := []) (rest := [.ref a5, .ref x]) (c1 := 2) (s1 := 82) (n := 0) (bytes := cX1_init) (maxL := 1) X w hA (fun _ _ hW h => va_AO.moved hW.alike h) hzz.1 (c_X1_init l D cs (L ++ [a5]) fq8 a5 hm_a5 hf_a5) gX3_init_X1_init_n9 ⟨_, rfl⟩ ⟨by decide +kernel, by decide +kernel⟩ rfl ⟨by decide, by decide, by decide +kernel⟩ hzz.2.1 (by decide) rfl hl rfl (Nat.le_of_ble_eq_true rfl) (by decide) rfl rfl dX3_init_9 (fun v L1 f1 H locs w hp => ?_)
  obtain ⟨rfl, b9, hn9, rfl, hf_a5, hf_b9, hu2⟩ := hp
  have hd_x_b9 : x ≠ b9 := fun he => hn9 (by rw [← he]; exact hm_x)
  have hd_b9_x := hd_x_b9.symm
  have hd_a5_b9 : a5 ≠ b9 := fun he => hn9 (by rw [← he]; exact hm_a5)
  have hd_b9_a5 := hd_a5_b9.symm
  have h0_b9 : b9 ∉ L := fun h => hn9 (hsub _ h)
  have hf_x := (hu2 x hd_x_a5 hd_x_b9).trans hf_x
  have hfr : ∀ b, b ∈ L → b ≠ x → f1 b = f0 b := fun b hb hx => (hu2 b (fun he => h0_a5 (by rw [← he]; exact hb)) (fun he => h0_b9 (by rw [← he]; exact hb))).trans (hfr b hb hx)
  have hsub : ∀ b, b ∈ L → b ∈ L ++ [a5] ++ [b9] := fun b h => List.mem_append_left _ (hsub b h)
  have hm_x := List.mem_append_left [b9] hm_x
  have hm_a5 := List.mem_append_left [b9] hm_a5
  have hm_b9 : b9 ∈ L ++ [a5] ++ [b9] := List.mem_append_right _ List.mem_cons_self
  show W p l e _ s m _ below meth c _ _ _ _ _ (F0 m 12 ls [.ref a5, .ref x])
  refine x_putF X w hm_x hf_x fz_X3_init_10 hin rfl rfl (Nat.le_of_ble_eq_true rfl) rfl dX3_init_12 (fun H locs w => ?_)
  obtain ⟨fq15, w, hf_x, hu⟩ : ∃ f9, XW D A s.heap (L ++ [a5] ++ [b9]) f9 H locs ∧ f9 x = .inr (3, [.ref a5, .null, .null, .int (iI 0), .int (iI 0), .int (iI 0), .int (iI 0)]) ∧ (∀ b, b ≠ x → f9 b = f1 b) := ⟨_, w, va_up_self _ _ _, fun b hb => va_up_ne _ _ hb⟩
  have hf_a5 := (hu a5 hd_a5_x).trans hf_a5
  have hf_b9 := (hu b9 hd_b9_x).trans hf_b9
  have hfr : ∀ b, b ∈ L → b ≠ x → fq15 b = f0 b := fun b hb hx => (hu b (hx)).trans (hfr b hb hx)
  refine x_al_n X hl 0 rfl rfl dX3_init_15 ?_
  refine x_newO (C := RX2) (T := TX2) (N := 2) (ci := 2) (c1 := 3) (s1 := 84) X w hA iw_X3_init_X2 tyX2_ok ⟨by decide +kernel, by decide +kernel, by decide +kernel⟩ rfl df_X2 (by decide) rfl rfl dX3_init_16 (fun a16 H locs hn16 w => ?_)
  have hd_x_a16 : x ≠ a16 := fun he => hn16 (by rw [← he]; exact hm_x)
  have hd_a16_x := hd_x_a16.symm
  have hd_a5_a16 : a5 ≠ a16 := fun he => hn16 (by rw [← he]; exact hm_a5)
  have hd_a16_a5 := hd_a5_a16.symm
  have hd_b9_a16 : b9 ≠ a16 := fun he => hn16 (by rw [← he]; exact hm_b9)
  have hd_a16_b9 := hd_b9_a16.symm
  have h0_a16 : a16 ∉ L := fun h => hn16 (hsub _ h)
  have hsub : ∀ b, b ∈ L → b ∈ L ++ [a5] ++ [b9] ++ [a16] := fun b h => List.mem_append_left _ (hsub b h)
  have hm_x := List.mem_append_left [a16] hm_x
  have hm_a5 := List.mem_append_left [a16] hm_a5
  have hm_b9 := List.mem_append_left [a16] hm_b9
  have hm_a16 : a16 ∈ L ++ [a5] ++ [b9] ++ [a16] := List.mem_append_right _ List.mem_cons_self
  obtain ⟨fq19, w, hf_a16, hu⟩ : ∃ f9, XW D A s.heap (L ++ [a5] ++ [b9] ++ [a16]) f9 H locs ∧ f9 a16 = .inr (2, [.null, .int (iI 0)]) ∧ (∀ b, b ≠ a16 → f9 b = fq15 b) := ⟨_, w, va_up_self _ _ _, fun b hb => va_up_ne _ _ hb⟩
  have hf_x := (hu x hd_x_a16).trans hf_x
  have hf_a5 := (hu a5 hd_a5_a16).trans hf_a5
  have hf_b9 := (hu b9 hd_b9_a16).trans hf_b9
  have hfr : ∀ b, b ∈ L → b ≠ x → fq19 b = f0 b := fun b hb hx => (hu b (fun he => h0_a16 (by rw [← he]; exact hb))).trans (hfr b hb hx)
  refine x_dup X rfl dX3_init_19 ?_
  refine x_callIN (As := []) (rest := [.ref a16, .ref x]) (c1 := 4) (s1 := 164) (n := 0) (bytes := cX2_init) (maxL := 1) X w hA (fun _ _ _ h => h) trivial (c_X2_init l D cs (L ++ [a5] ++ [b9] ++ [a16]) fq19 a16 hm_a16 hf_a16) gX3_init_X2_init_n18 ⟨_, rfl⟩ ⟨by decide +kernel, by decide +kernel⟩ rfl ⟨by decide, by decide, by decide +kernel⟩ hzz.2.2 (by decide) rfl hl rfl (Nat.le_of_ble_eq_true rfl) (by decide) rfl rfl dX3_init_20 (fun v L1 f1 H locs w hp => ?_)
  obtain ⟨rfl, b20, hn20, rfl, hf_a16, hf_b20, hu2⟩ := hp
  have hd_x_b20 : x ≠ b20 := fun he => hn20 (by rw [← he]; exact hm_x)
  have hd_b20_x := hd_x_b20.symm
  have hd_a5_b20 : a5 ≠ b20 := fun he => hn20 (by rw [← he]; exact hm_a5)
  have hd_b20_a5 := hd_a5_b20.symm
  have hd_b9_b20 : b9 ≠ b20 := fun he => hn20 (by rw [← he]; exact hm_b9)
  have hd_b20_b9 := hd_b9_b20.symm
  have hd_a16_b20 : a16 ≠ b20 := fun he => hn20 (by rw [← he]; exact hm_a16)
  have hd_b20_a16 := hd_a16_b20.symm
  have h0_b20 : b20 ∉ L := fun h => hn20 (hsub _ h)
  have hf_x := (hu2 x hd_x_a16 hd_x_b20).trans hf_x
  have hf_a5 := (hu2 a5 hd_a5_a16 hd_a5_b20).trans hf_a5
  have hf_b9 := (hu2 b9 hd_b9_a16 hd_b9_b20).trans hf_b9
  have hfr : ∀ b, b ∈ L → b ≠ x → f1 b = f0 b := fun b hb hx => (hu2 b (fun he => h0_a16 (by rw [← he]; exact hb)) (fun he => h0_b20 (by rw [← he]; exact hb))).trans (hfr b hb hx)
  have hsub : ∀ b, b ∈ L → b ∈ L ++ [a5] ++ [b9] ++ [a16] ++ [b20] := fun b h => List.mem_append_left _ (hsub b h)
  have hm_x := List.mem_append_left [b20] hm_x
  have hm_a5 := List.mem_append_left [b20] hm_a5
  have hm_b9 := List.mem_append_left [b20] hm_b9
  have hm_a16 := List.mem_append_left [b20] hm_a16
  have hm_b20 : b20 ∈ L ++ [a5] ++ [b9] ++ [a16] ++ [b20] := List.mem_append_right _ List.mem_cons_self
  show W p l e _ s m _ below meth c _ _ _ _ _ (F0 m 23 ls [.ref a16, .ref x])
  refine x_putF X w hm_x hf_x fz_X3_init_19 hin rfl rfl (Nat.le_of_ble_eq_true rfl) rfl dX3_init_23 (fun H locs w => ?_)
  obtain ⟨fq26, w, hf_x, hu⟩ : ∃ f9, XW D A s.heap (L ++ [a5] ++ [b9] ++ [a16] ++ [b20]) f9 H locs ∧ f9 x = .inr (3, [.ref a5, .ref a16, .null, .int (iI 0), .int (iI 0), .int (iI 0), .int (iI 0)]) ∧ (∀ b, b ≠ x → f9 b = f1 b) := ⟨_, w, va_up_self _ _ _, fun b hb => va_up_ne _ _ hb⟩
  have hf_a5 := (hu a5 hd_a5_x).trans hf_a5
  have hf_b9 := (hu b9 hd_b9_x).trans hf_b9
  have hf_a16 := (hu a16 hd_a16_x).trans hf_a16
  have hf_b20 := (hu b20 hd_b20_x).trans hf_b20
  have hfr : ∀ b, b ∈ L → b ≠ x → fq26 b = f0 b := fun b hb hx => (hu b (hx)).trans (hfr b hb hx)
  refine x_al_n X hl 0 rfl rfl dX3_init_26 ?_
  refine x_iconst X dX3_init_27 ?_
  refine x_newI (N := 4) (c1 := 5) (s1 := 168) X w hA (by decide +kernel) (by decide) (by decide) rfl rfl dX3_init_28 (fun a28 H locs hn28 w => ?_)
  have hd_x_a28 : x ≠ a28 := fun he => hn28 (by rw [← he]; exact hm_x)
  have hd_a28_x := hd_x_a28.symm
  have hd_a5_a28 : a5 ≠ a28 := fun he => hn28 (by rw [← he]; exact hm_a5)
  have hd_a28_a5 := hd_a5_a28.symm
  have hd_b9_a28 : b9 ≠ a28 := fun he => hn28 (by rw [← he]; exact hm_b9)
  have hd_a28_b9 := hd_b9_a28.symm
  have hd_a16_a28 : a16 ≠ a28 := fun he => hn28 (by rw [← he]; exact hm_a16)
  have hd_a28_a16 := hd_a16_a28.symm
  have hd_b20_a28 : b20 ≠ a28 := fun he => hn28 (by rw [← he]; exact hm_b20)
  have hd_a28_b20 := hd_b20_a28.symm
  have h0_a28 : a28 ∉ L := fun h => hn28 (hsub _ h)
  have hsub : ∀ b, b ∈ L → b ∈ L ++ [a5] ++ [b9] ++ [a16] ++ [b20] ++ [a28] := fun b h => List.mem_append_left _ (hsub b h)
  have hm_x := List.mem_append_left [a28] hm_x
  have hm_a5 := List.mem_append_left [a28] hm_a5
  have hm_b9 := List.mem_append_left [a28] hm_b9
  have hm_a16 := List.mem_append_left [a28] hm_a16
  have hm_b20 := List.mem_append_left [a28] hm_b20
  have hm_a28 : a28 ∈ L ++ [a5] ++ [b9] ++ [a16] ++ [b20] ++ [a28] := List.mem_append_right _ List.mem_cons_self
  obtain ⟨fq30, w, hf_a28, hu⟩ : ∃ f9, XW D A s.heap (L ++ [a5] ++ [b9] ++ [a16] ++ [b20] ++ [a28]) f9 H locs ∧ f9 a28 = .inl (cs.1, 4, .inl (aI (fun _ => 0))) ∧ (∀ b, b ≠ a28 → f9 b = fq26 b) := ⟨_, w, va_up_self _ _ _, fun b hb => va_up_ne _ _ hb⟩
  have hf_x := (hu x hd_x_a28).trans hf_x
  have hf_a5 := (hu a5 hd_a5_a28).trans hf_a5
  have hf_b9 := (hu b9 hd_b9_a28).trans hf_b9
  have hf_a16 := (hu a16 hd_a16_a28).trans hf_a16
  have hf_b20 := (hu b20 hd_b20_a28).trans hf_b20
  have hfr : ∀ b, b ∈ L → b ≠ x → fq30 b = f0 b := fun b hb hx => (hu b (fun he => h0_a28 (by rw [← he]; exact hb))).trans (hfr b hb hx)
  refine x_dup X rfl dX3_init_30 ?_
  refine x_iconst X dX3_init_31 ?_
  refine x_iconst X dX3_init_32 ?_
  refine x_iast X w hm_a28 hf_a28 (by omega) dX3_init_33 (fun H locs w => ?_)
  obtain ⟨fq34, w, hf_a28, hu⟩ : ∃ f9, XW D A s.heap (L ++ [a5] ++ [b9] ++ [a16] ++ [b20] ++ [a28]) f9 H locs ∧ f9 a28 = .inl (cs.1, 4, .inl (aI (uI (fun _ => 0) 0 (-1)))) ∧ (∀ b, b ≠ a28 → f9 b = fq30 b) := ⟨_, w, va_up_self _ _ _, fun b hb => va_up_ne _ _ hb⟩
  have hf_x := (hu x hd_x_a28).trans hf_x
  have hf_a5 := (hu a5 hd_a5_a28).trans hf_a5
  have hf_b9 := (hu b9 hd_b9_a28).trans hf_b9
  have hf_a16 := (hu a16 hd_a16_a28).trans hf_a16
  have hf_b20 := (hu b20 hd_b20_a28).trans hf_b20
  have hfr : ∀ b, b ∈ L → b ≠ x → fq34 b = f0 b := fun b hb hx => (hu b (fun he => h0_a28 (by rw [← he]; exact hb))).trans (hfr b hb hx)
  refine x_dup X rfl dX3_init_34 ?_
  refine x_iconst X dX3_init_35 ?_
  refine x_iconst X dX3_init_36 ?_
  refine x_iast X w hm_a28 hf_a28 (by omega) dX3_init_37 (fun H locs w => ?_)
  obtain ⟨fq38, w, hf_a28, hu⟩ : ∃ f9, XW D A s.heap (L ++ [a5] ++ [b9] ++ [a16] ++ [b20] ++ [a28]) f9 H locs ∧ f9 a28 = .inl (cs.1, 4, .inl (aI (uI (uI (fun _ => 0) 0 (-1)) 1 (-1)))) ∧ (∀ b, b ≠ a28 → f9 b = fq34 b) := ⟨_, w, va_up_self _ _ _, fun b hb => va_up_ne _ _ hb⟩
  have hf_x := (hu x hd_x_a28).trans hf_x
  have hf_a5 := (hu a5 hd_a5_a28).trans hf_a5
  have hf_b9 := (hu b9 hd_b9_a28).trans hf_b9
  have hf_a16 := (hu a16 hd_a16_a28).trans hf_a16
  have hf_b20 := (hu b20 hd_b20_a28).trans hf_b20
  have hfr : ∀ b, b ∈ L → b ≠ x → fq38 b = f0 b := fun b hb hx => (hu b (fun he => h0_a28 (by rw [← he]; exact hb))).trans (hfr b hb hx)
  refine x_dup X rfl dX3_init_38 ?_
  refine x_iconst X dX3_init_39 ?_
  refine x_iconst X dX3_init_40 ?_
  refine x_iast X w hm_a28 hf_a28 (by omega) dX3_init_41 (fun H locs w => ?_)
  obtain ⟨fq42, w, hf_a28, hu⟩ : ∃ f9, XW D A s.heap (L ++ [a5] ++ [b9] ++ [a16] ++ [b20] ++ [a28]) f9 H locs ∧ f9 a28 = .inl (cs.1, 4, .inl (aI (uI (uI (uI (fun _ => 0) 0 (-1)) 1 (-1)) 2 (-1)))) ∧ (∀ b, b ≠ a28 → f9 b = fq38 b) := ⟨_, w, va_up_self _ _ _, fun b hb => va_up_ne _ _ hb⟩
  have hf_x := (hu x hd_x_a28).trans hf_x
  have hf_a5 := (hu a5 hd_a5_a28).trans hf_a5
  have hf_b9 := (hu b9 hd_b9_a28).trans hf_b9
  have hf_a16 := (hu a16 hd_a16_a28).trans hf_a16
  have hf_b20 := (hu b20 hd_b20_a28).trans hf_b20
  have hfr : ∀ b, b ∈ L → b ≠ x → fq42 b = f0 b := fun b hb hx => (hu b (fun he => h0_a28 (by rw [← he]; exact hb))).trans (hfr b hb hx)
  refine x_dup X rfl dX3_init_42 ?_
  refine x_iconst X dX3_init_43 ?_
  refine x_iconst X dX3_init_44 ?_
  refine x_iast X w hm_a28 hf_a28 (by omega) dX3_init_45 (fun H locs w => ?_)
  obtain ⟨fq46, w, hf_a28, hu⟩ : ∃ f9, XW D A s.heap (L ++ [a5] ++ [b9] ++ [a16] ++ [b20] ++ [a28]) f9 H locs ∧ f9 a28 = .inl (cs.1, 4, .inl (aI (uI (uI (uI (uI (fun _ => 0) 0 (-1)) 1 (-1)) 2 (-1)) 3 (-1)))) ∧ (∀ b, b ≠ a28 → f9 b = fq42 b) := ⟨_, w, va_up_self _ _ _, fun b hb => va_up_ne _ _ hb⟩
  have hf_x := (hu x hd_x_a28).trans hf_x
  have hf_a5 := (hu a5 hd_a5_a28).trans hf_a5
  have hf_b9 := (hu b9 hd_b9_a28).trans hf_b9
  have hf_a16 := (hu a16 hd_a16_a28).trans hf_a16
  have hf_b20 := (hu b20 hd_b20_a28).trans hf_b20
  have hfr : ∀ b, b ∈ L → b ≠ x → fq46 b = f0 b := fun b hb hx => (hu b (fun he => h0_a28 (by rw [← he]; exact hb))).trans (hfr b hb hx)
  refine x_putF X w hm_x hf_x fz_X3_init_23 hin rfl rfl (Nat.le_of_ble_eq_true rfl) rfl dX3_init_46 (fun H locs w => ?_)
  obtain ⟨fq49, w, hf_x, hu⟩ : ∃ f9, XW D A s.heap (L ++ [a5] ++ [b9] ++ [a16] ++ [b20] ++ [a28]) f9 H locs ∧ f9 x = .inr (3, [.ref a5, .ref a16, .ref a28, .int (iI 0), .int (iI 0), .int (iI 0), .int (iI 0)]) ∧ (∀ b, b ≠ x → f9 b = fq46 b) := ⟨_, w, va_up_self _ _ _, fun b hb => va_up_ne _ _ hb⟩
  have hf_a5 := (hu a5 hd_a5_x).trans hf_a5
  have hf_b9 := (hu b9 hd_b9_x).trans hf_b9
  have hf_a16 := (hu a16 hd_a16_x).trans hf_a16
  have hf_b20 := (hu b20 hd_b20_x).trans hf_b20
  have hf_a28 := (hu a28 hd_a28_x).trans hf_a28
  have hfr : ∀ b, b ∈ L → b ≠ x → fq49 b = f0 b := fun b hb hx => (hu b (hx)).trans (hfr b hb hx)
  refine x_al_n X hl 0 rfl rfl dX3_init_49 ?_
  refine x_iconst X dX3_init_50 ?_
  refine x_put X w hm_x hf_x fp_X3_init_27 rfl rfl (Nat.le_of_ble_eq_true rfl) rfl dX3_init_51 (fun H locs w => ?_)
  obtain ⟨fq54, w, hf_x, hu⟩ : ∃ f9, XW D A s.heap (L ++ [a5] ++ [b9] ++ [a16] ++ [b20] ++ [a28]) f9 H locs ∧ f9 x = .inr (3, [.ref a5, .ref a16, .ref a28, .int (iI 0), .int (iI 0), .int (iI 0), .int (iI (-1))]) ∧ (∀ b, b ≠ x → f9 b = fq49 b) := ⟨_, w, va_up_self _ _ _, fun b hb => va_up_ne _ _ hb⟩
  have hf_a5 := (hu a5 hd_a5_x).trans hf_a5
  have hf_b9 := (hu b9 hd_b9_x).trans hf_b9
  have hf_a16 := (hu a16 hd_a16_x).trans hf_a16
  have hf_b20 := (hu b20 hd_b20_x).trans hf_b20
  have hf_a28 := (hu a28 hd_a28_x).trans hf_a28
  have hfr : ∀ b, b ∈ L → b ≠ x → fq54 b = f0 b := fun b hb hx => (hu b (hx)).trans (hfr b hb hx)
  refine x_vret X w hr hlk ⟨by decide, by decide⟩ dX3_init_54 ?_
  refine ⟨rfl, hsub, hfr, a5, b9, a16, b20, a28, hm_x, hf_x, hm_a28, ⟨_, hf_a28, fun j h1 h2 => w4 rfl h1 h2⟩, hd_a28_b20, ⟨fun _ => 0, ⟨hm_a16, hm_b20, hf_a16, hf_b20⟩, fun _ _ _ => rfl⟩, fun _ => none, ⟨hm_a5, hm_b9, hf_a5, hf_b9⟩, fun j h1 h2 => ?_⟩
  have h3 : j < 0 := h2
  omega
end
section
/-! the calls of the register once more: what they answer, how it grows; walks, sums, sweeps -/
/-! what is thrown changes nothing -/
theorem o3k {c1 c2 : Prop} [Decidable c1] [Decidable c2] {v : Int} {τ σ : Sg} (h : (if c1 then (if c2 then ((2 : Int), (0 : Int), σ) else (0, v, τ)) else (1, 0, σ)).1 ≠ 0) : (if c1 then (if c2 then ((2 : Int), (0 : Int), σ) else (0, v, τ)) else (1, 0, σ)).2.2 = σ := by
  by_cases a : c1
  · by_cases b : c2
    · rw [if_pos a, if_pos b]
    · rw [if_pos a, if_neg b] at h; exact absurd rfl h
  · rw [if_neg a]
theorem o2k {c1 : Prop} [Decidable c1] {v : Int} {τ σ : Sg} (h : (if c1 then ((0 : Int), v, τ) else (1, 0, σ)).1 ≠ 0) : (if c1 then ((0 : Int), v, τ) else (1, 0, σ)).2.2 = σ := by
  by_cases a : c1
  · rw [if_pos a] at h; exact absurd rfl h
  · rw [if_neg a]
theorem o2n {c1 : Prop} [Decidable c1] {v : Int} {τ σ : Sg} (h : (if c1 then ((0 : Int), v, τ) else (1, 0, σ)).1 = 2) : False := by
  by_cases a : c1
  · rw [if_pos a] at h; exact absurd h (by show ¬ (0 : Int) = 2; decide)
  · rw [if_neg a] at h; exact absurd h (by show ¬ (1 : Int) = 2; decide)

/-- an answer as the law says it -/
def tv (o : Int × Int × Sg) : Int := if o.1 = 0 then o.2.1 else -99999
theorem tv_0 {o : Int × Int × Sg} (h : o.1 = 0) : tv o = o.2.1 := if_pos h
theorem tv_t {o : Int × Int × Sg} (h : o.1 ≠ 0) : tv o = -99999 := if_neg h
/-- what throws leaves the register; a register it stays; the answer is no -99999; at most one record more -/
def good (σ : Sg) (o : Int × Int × Sg) : Prop := (o.1 = 0 ∨ o.2.2 = σ) ∧ Inv o.2.2 ∧ (-6000 ≤ o.2.1 ∧ o.2.1 ≤ 100000) ∧ gN o.2.2 ≤ gN σ + 1
theorem gd_3 {c1 c2 : Prop} [Decidable c1] [Decidable c2] {v : Int} {τ σ : Sg} (hI : Inv σ) (h : c1 → ¬ c2 → Inv τ ∧ (-6000 ≤ v ∧ v ≤ 100000) ∧ gN τ ≤ gN σ + 1) : good σ (if c1 then (if c2 then ((2 : Int), (0 : Int), σ) else (0, v, τ)) else (1, 0, σ)) := by
  by_cases a : c1
  · by_cases b : c2
    · rw [if_pos a, if_pos b]; exact ⟨Or.inr rfl, hI, (by decide : (-6000 : Int) ≤ 0 ∧ (0 : Int) ≤ 100000), (by show gN σ ≤ gN σ + 1; omega)⟩
    · rw [if_pos a, if_neg b]; exact ⟨Or.inl rfl, h a b⟩
  · rw [if_neg a]; exact ⟨Or.inr rfl, hI, (by decide : (-6000 : Int) ≤ 0 ∧ (0 : Int) ≤ 100000), (by show gN σ ≤ gN σ + 1; omega)⟩
theorem gd_2 {c1 : Prop} [Decidable c1] {v : Int} {τ σ : Sg} (hI : Inv σ) (h : c1 → Inv τ ∧ (-6000 ≤ v ∧ v ≤ 100000) ∧ gN τ ≤ gN σ + 1) : good σ (if c1 then ((0 : Int), v, τ) else (1, 0, σ)) := by
  by_cases a : c1
  · rw [if_pos a]; exact ⟨Or.inl rfl, h a⟩
  · rw [if_neg a]; exact ⟨Or.inr rfl, hI, (by decide : (-6000 : Int) ≤ 0 ∧ (0 : Int) ≤ 100000), (by show gN σ ≤ gN σ + 1; omega)⟩
theorem loop_b {P : (Nat → Int) → Bool} {b : Bool} : ∀ (m : Nat) {p : Int} {σ : Sg}, (0 ≤ (oLoop P b m p σ).1 ∧ (oLoop P b m p σ).1 ≤ m) ∧ gN (oLoop P b m p σ).2 ≤ gN σ
  | 0, _, σ => ⟨⟨Int.le_refl 0, Int.le_refl 0⟩, Int.le_refl (gN σ)⟩
  | m + 1, p, σ => by
    by_cases c : P (gR σ p) = true
    · rw [oLoop_t c]
      have h1 := loop_b (P := P) (b := b) m (p := p) (σ := oTake p (oAdd b (gR σ p 1) σ))
      have h2 : gN (oTake p (oAdd b (gR σ p 1) σ)) = gN σ - 1 := rfl
      rw [h2] at h1
      refine ⟨⟨?_, ?_⟩, ?_⟩
      · show 0 ≤ _ + (1 : Int); omega
      · show _ + (1 : Int) ≤ ((m + 1 : Nat) : Int); omega
      · show gN (oLoop P b m p (oTake p (oAdd b (gR σ p 1) σ))).2 ≤ gN σ; omega
    · rw [oLoop_f (by cases hb : P (gR σ p); rfl; exact absurd hb c)]
      have h1 := loop_b (P := P) (b := b) m (p := p + 1) (σ := σ)
      omega
theorem ov_b (σ : Sg) (hn : 0 ≤ gN σ) : (0 ≤ (oOv σ).1 ∧ (oOv σ).1 ≤ gN σ) ∧ gN (oOv σ).2 ≤ gN σ := by
  have h1 := loop_b (P := ovP (gT σ)) (b := true) (gN σ).toNat (p := 0) (σ := σ)
  have h2 : oOv σ = oLoop (ovP (gT σ)) true (gN σ).toNat 0 σ := rfl
  rw [← h2] at h1
  omega
theorem days_b : ∀ (d : Nat) {σ : Sg}, Inv σ → gT σ + d ≤ 5000 → (0 ≤ (oDays d σ).1 ∧ (oDays d σ).1 ≤ 80 * (d : Int)) ∧ gN (oDays d σ).2 ≤ gN σ
  | 0, σ, _, _ => ⟨⟨Int.le_refl 0, Int.le_refl 0⟩, Int.le_refl (gN σ)⟩
  | d + 1, σ, h, ht => by
    have hd := h.day (by omega)
    have h1 := ov_b (oDay σ) hd.n.1
    have h9 := hd.n
    have h3 : gT (oOv (oDay σ)).2 = gT σ + 1 := (loop_T _).trans rfl
    have h2 := days_b d hd.ov (by rw [h3]; omega)
    have h4 : gN (oDay σ) = gN σ := rfl
    refine ⟨⟨?_, ?_⟩, ?_⟩
    · show 0 ≤ (oOv (oDay σ)).1 + (oDays d (oOv (oDay σ)).2).1; omega
    · show (oOv (oDay σ)).1 + (oDays d (oOv (oDay σ)).2).1 ≤ 80 * ((d + 1 : Nat) : Int); omega
    · show gN (oDays d (oOv (oDay σ)).2).2 ≤ gN σ; omega
theorem sw_b (σ : Sg) : (0 ≤ (oSw σ).1 ∧ (oSw σ).1 ≤ 1) ∧ gN (oSw σ).2 = gN σ := by
  unfold oSw
  by_cases c1 : gS σ + 1 < gK σ
  · rw [if_pos c1]
    by_cases c2 : 4 ≤ gZ σ (gS σ)
    · rw [if_pos c2]; exact ⟨(by decide : (0 : Int) ≤ 0 ∧ (0 : Int) ≤ 1), rfl⟩
    · rw [if_neg c2]; exact ⟨(by decide : (0 : Int) ≤ 1 ∧ (1 : Int) ≤ 1), rfl⟩
  · rw [if_neg c1]; exact ⟨(by decide : (0 : Int) ≤ 0 ∧ (0 : Int) ≤ 1), rfl⟩
theorem steps_b : ∀ (d : Nat) {σ : Sg}, (0 ≤ (oSteps d σ).1 ∧ (oSteps d σ).1 ≤ d) ∧ gN (oSteps d σ).2 = gN σ
  | 0, σ => ⟨⟨Int.le_refl 0, Int.le_refl 0⟩, rfl⟩
  | d + 1, σ => by
    by_cases c : gS σ = -1
    · rw [oSteps_0 c]; exact ⟨⟨Int.le_refl 0, by show (0 : Int) ≤ ((d + 1 : Nat) : Int); omega⟩, rfl⟩
    · rw [oSteps_n c]
      have h1 := sw_b σ
      have h2 := steps_b d (σ := (oSw σ).2)
      refine ⟨⟨?_, ?_⟩, ?_⟩
      · show 0 ≤ (oSw σ).1 + (oSteps d (oSw σ).2).1; omega
      · show (oSw σ).1 + (oSteps d (oSw σ).2).1 ≤ ((d + 1 : Nat) : Int); omega
      · show gN (oSteps d (oSw σ).2).2 = gN σ; omega
section GOOD
variable {σ : Sg}
theorem qf_in {nu9 : Int} (h : ¬ qF nu9 σ = -1) : 0 ≤ qF nu9 σ ∧ qF nu9 σ < gN σ := ⟨(fd_in h).1, (fd_in h).2.1⟩
theorem wkV_b (hI : Inv σ) (rd : Int) : -1 ≤ wkV rd σ ∧ wkV rd σ ≤ 999 := by
  unfold wkV
  by_cases h9 : cu (gR σ) (gN σ) (gW σ rd) < gN σ
  · rw [if_pos h9]
    have h8 := cu_is (gR σ) (n := gN σ) (gW σ rd) hI.n.1
    have h7 := hI.r0 _ h8.1 h9; omega
  · rw [if_neg h9]; omega
theorem oPut_g (hI : Inv σ) (nu su sy : Int) : good σ (oPut nu su sy σ) := gd_3 hI (fun a b => by
  have h2 : Inv (oIns nu su sy σ) := inv_ins hI (by omega) (by omega) (by omega) (Classical.byContradiction fun h9 => b (Or.inl h9)) (by
    by_cases h9 : 80 ≤ gN σ
    · exact absurd (Or.inr h9) b
    · omega)
  have h3 := h2.k
  exact ⟨h2, by omega, Int.le_refl (gN σ + 1)⟩)
theorem oPay_g (hI : Inv σ) (nu : Int) : good σ (oPay nu σ) := gd_3 hI (fun a b => by
  have hq := qf_in (σ := σ) (nu9 := nu) (fun h9 => b (Or.inl h9))
  have h3 := (hI.r _ hq.1 hq.2).2.1
  exact ⟨Inv.take (hI.add false _) hq, by omega, by show gN σ - 1 ≤ gN σ + 1; omega⟩)
theorem oFor_g (hI : Inv σ) (nu : Int) : good σ (oFor nu σ) := gd_3 hI (fun a b => by
  have hq := qf_in (σ := σ) (nu9 := nu) (fun h9 => b (Or.inl h9))
  exact ⟨hI.setR (by have h9 := hI.t; omega) hq, by decide, by show gN σ ≤ gN σ + 1; omega⟩)
theorem oUnd_g (hI : Inv σ) (nu : Int) : good σ (oUnd nu σ) := gd_3 hI (fun a b => by
  have hq := qf_in (σ := σ) (nu9 := nu) (fun h9 => b (Or.inl h9))
  have h3 := (hI.r _ hq.1 hq.2).2.2.2.2
  have h4 := hI.t
  exact ⟨hI.setR (by omega) hq, by omega, by show gN σ ≤ gN σ + 1; omega⟩)
theorem oAmn_g (hI : Inv σ) (su dy : Int) : good σ (oAmn su dy σ) := gd_2 hI (fun a => by
  have h1 := loop_b (P := amP su dy) (b := false) (gN σ).toNat (p := 0) (σ := σ)
  have h2 := hI.n
  exact ⟨Inv.loop _ hI (by omega) (by omega), by omega, by omega⟩)
theorem oPas_g (hI : Inv σ) (d : Int) : good σ (oPas d σ) := gd_3 hI (fun a b => by
  have h1 := days_b d.toNat hI (by omega)
  exact ⟨Inv.days _ hI (by omega), by omega, by omega⟩)
theorem oSwe_g (hI : Inv σ) : good σ (oSwe σ) := gd_2 hI (fun _ => ⟨hI.setS (by omega), by decide, by show gN σ ≤ gN σ + 1; omega⟩)
theorem oSte_g (hI : Inv σ) (d : Int) : good σ (oSte d σ) := gd_3 hI (fun a b => by
  have h1 := steps_b d.toNat (σ := σ)
  exact ⟨Inv.steps _ hI, by omega, by omega⟩)
theorem oWal_g (hI : Inv σ) (rd : Int) : good σ (oWal rd σ) := gd_2 hI (fun a => by
  have h1 := wkV_b hI rd
  exact ⟨hI.setW h1, by omega, by show gN σ ≤ gN σ + 1; omega⟩)
theorem oFor_0 (nu : Int) : (oFor nu σ).2.1 = 0 := by
  unfold oFor
  by_cases a : 0 ≤ nu ∧ nu ≤ 999
  · rw [if_pos a]
    by_cases b : qF nu σ = -1 ∨ gR σ (qF nu σ) 4 ≠ -1
    · rw [if_pos b]
    · rw [if_neg b]
  · rw [if_neg a]
theorem oSwe_0 : (oSwe σ).2.1 = 0 := by
  unfold oSwe
  by_cases a : gS σ = -1
  · rw [if_pos a]
  · rw [if_neg a]
end GOOD
/-! a walk -/
noncomputable def nx (σ : Sg) (wv : Int) : Int := if cu (gR σ) (gN σ) wv < gN σ then gR σ (cu (gR σ) (gN σ) wv) 0 else -1
def swk (rd wv : Int) (σ : Sg) : Sg := oSetW (uI (gW σ) rd wv) σ
theorem uI_same {α : Type} (g : Int → α) (i : Int) : uI g i (g i) = g := funext (fun j => by
  by_cases c : j = i
  · rw [c, uI_s]
  · rw [uI_n _ _ c])
theorem uI_twice {α : Type} (g : Int → α) (i : Int) (a b : α) : uI (uI g i a) i b = uI g i b := funext (fun j => by
  by_cases c : j = i
  · rw [c, uI_s, uI_s]
  · rw [uI_n _ _ c, uI_n _ _ c, uI_n _ _ c])
section WALK
variable {σ : Sg} {rd wv : Int}
theorem swk_self (rd : Int) (σ : Sg) : swk rd (gW σ rd) σ = σ := by
  unfold swk
  rw [uI_same]; rfl
theorem swk_V (rd wv : Int) (σ : Sg) : wkV rd (swk rd wv σ) = nx σ wv := by
  show (if cu (gR σ) (gN σ) (uI (gW σ) rd wv rd) < gN σ then gR σ (cu (gR σ) (gN σ) (uI (gW σ) rd wv rd)) 0 else -1) = nx σ wv
  rw [uI_s]; rfl
theorem swk_S (rd wv v : Int) (σ : Sg) : oSetW (uI (gW (swk rd wv σ)) rd v) (swk rd wv σ) = swk rd v σ := by
  show oSetW (uI (uI (gW σ) rd wv) rd v) σ = swk rd v σ
  rw [uI_twice]; rfl
theorem Inv.swk (hI : Inv σ) (hv : -1 ≤ wv ∧ wv ≤ 999) : Inv (swk rd wv σ) := hI.setW hv
theorem cu_at {R : Rc} {n c : Int} (hs : so R n) (h : 0 ≤ c ∧ c < n) : cu R n (R c 0) = c + 1 :=
  cu_eq ⟨by omega, by omega, fun j h1 h2 => hs.le h1 (by omega) h.2, fun h1 => hs c (c + 1) h.1 (by omega) h1⟩
theorem cu_m1 {R : Rc} {n : Int} (hn : 0 ≤ n) (h : ∀ j, 0 ≤ j → j < n → 0 ≤ R j 0) : cu R n (-1) = 0 :=
  cu_eq ⟨by omega, hn, fun j h1 h2 => by omega, fun h1 => by have h2 := h 0 (by omega) h1; omega⟩
theorem nx_b (hI : Inv σ) (wv : Int) : -1 ≤ nx σ wv ∧ nx σ wv ≤ 999 := by
  unfold nx
  by_cases h9 : cu (gR σ) (gN σ) wv < gN σ
  · rw [if_pos h9]
    have h8 := cu_is (gR σ) (n := gN σ) wv hI.n.1
    have h7 := hI.r0 _ h8.1 h9; omega
  · rw [if_neg h9]; omega
/-- the next record: its place, its case above the last one -/
theorem nx_in (hI : Inv σ) (h : cu (gR σ) (gN σ) wv < gN σ) : nx σ wv = gR σ (cu (gR σ) (gN σ) wv) 0 ∧ 0 ≤ nx σ wv ∧ wv < nx σ wv ∧ cu (gR σ) (gN σ) (nx σ wv) = cu (gR σ) (gN σ) wv + 1 ∧ qF (nx σ wv) σ = cu (gR σ) (gN σ) wv := by
  have h8 := cu_is (gR σ) (n := gN σ) wv hI.n.1
  have e : nx σ wv = gR σ (cu (gR σ) (gN σ) wv) 0 := if_pos h
  have h7 := hI.r0 _ h8.1 h
  rw [e]
  exact ⟨rfl, h7.1, h8.2.2.2 h, cu_at hI.so ⟨h8.1, h⟩, fd_eq hI.so ⟨h8.1, h, rfl⟩⟩
theorem nx_out (h : ¬ cu (gR σ) (gN σ) wv < gN σ) : nx σ wv = -1 := if_neg h
theorem nx_lt (hI : Inv σ) (h : 0 ≤ nx σ wv) : cu (gR σ) (gN σ) wv < gN σ := Classical.byContradiction (fun h9 => by rw [nx_out h9] at h; omega)
theorem cu_b (hI : Inv σ) (wv : Int) : 0 ≤ cu (gR σ) (gN σ) wv ∧ cu (gR σ) (gN σ) wv ≤ gN σ := by
  have h8 := cu_is (gR σ) (n := gN σ) wv hI.n.1
  exact ⟨h8.1, h8.2.1⟩
theorem cu_0 (hI : Inv σ) : cu (gR σ) (gN σ) (-1) = 0 := cu_m1 hI.n.1 (fun j a b => (hI.r0 j a b).1)
noncomputable def itr (σ : Sg) (wv : Int) : Nat → Int | 0 => wv | k + 1 => nx σ (itr σ wv k)
theorem itr_s (σ : Sg) (wv : Int) (k : Nat) : itr σ wv (k + 1) = nx σ (itr σ wv k) := rfl
theorem itr_b (hI : Inv σ) (h : -1 ≤ wv ∧ wv ≤ 999) : ∀ k, -1 ≤ itr σ wv k ∧ itr σ wv k ≤ 999
  | 0 => h
  | k + 1 => nx_b hI _
end WALK
/-! sums -/
def hd (R : Rc) (q : Int) : Int := sm (fun j => R j 1) q
def lst (R : Rc) (q : Int) : Int := if q = 0 then -1 else R (q - 1) 0
def al (R : Rc) (n t : Int) : Int := sm (fun s => hs R s n) t
theorem hd_0 (R : Rc) : hd R 0 = 0 := rfl
theorem hd_s (R : Rc) {q : Int} (h : 0 ≤ q) : hd R (q + 1) = hd R q + R q 1 := sm_s _ h
theorem lst_0 (R : Rc) : lst R 0 = -1 := rfl
theorem lst_s (R : Rc) {q : Int} (h : 0 ≤ q) : lst R (q + 1) = R q 0 := by
  unfold lst
  rw [if_neg (by omega), show q + 1 - 1 = q by omega]
theorem al_0 (R : Rc) (n : Int) : al R n 0 = 0 := rfl
theorem al_s (R : Rc) (n : Int) {t : Int} (h : 0 ≤ t) : al R n (t + 1) = al R n t + hs R t n := sm_s _ h
theorem sm_z {t : Int} (h : 0 ≤ t) : sm (fun _ => 0) t = 0 := up_i (P := fun t => sm (fun _ => 0) t = 0) (sm_0 _) (fun q hq ih => by rw [sm_s _ hq, ih]; rfl) h
theorem sm_ad (a : Int → Int) (c v : Int) {t : Int} (h : 0 ≤ t) : sm (fun s => a s + if c = s then v else 0) t = sm a t + if 0 ≤ c ∧ c < t then v else 0 := by
  refine up_i (P := fun t => sm (fun s => a s + if c = s then v else 0) t = sm a t + if 0 ≤ c ∧ c < t then v else 0) (by rw [sm_0, sm_0, if_neg (by omega)]; rfl) (fun q hq ih => ?_) h
  rw [sm_s _ hq, sm_s _ hq, ih]
  by_cases e : c = q
  · rw [if_pos e, if_neg (by omega), if_pos (by omega)]; omega
  · rw [if_neg e]
    by_cases e2 : 0 ≤ c ∧ c < q
    · rw [if_pos e2, if_pos (by omega)]; omega
    · rw [if_neg e2, if_neg (by omega)]; omega
/-- the sums by sureties make up all that is held -/
theorem al_10 {R : Rc} {n : Int} (hn : 0 ≤ n) (h : ∀ j, 0 ≤ j → j < n → 0 ≤ R j 2 ∧ R j 2 ≤ 9) : al R n 10 = hd R n := by
  refine up_i (P := fun p => p ≤ n → al R p 10 = hd R p) (fun _ => ?_) (fun q hq ih hk => ?_) hn (Int.le_refl n)
  · exact sm_z (by omega)
  · have h2 := h q hq (by omega)
    rw [hd_s R hq, ← ih (by omega)]
    have e : (fun s => hs R s (q + 1)) = fun s => hs R s q + if R q 2 = s then R q 1 else 0 := funext (fun s => hs_s R s hq)
    show sm (fun s => hs R s (q + 1)) 10 = _
    rw [e, sm_ad _ _ _ (by omega), if_pos (by omega)]; rfl
section PLACE
variable {σ : Sg} {pg pl : Int}
/-- a place of a page: which record it is -/
theorem pl_in (hI : Inv σ) (hp : 0 ≤ pg ∧ pg < gK σ) (hl : 0 ≤ pl ∧ pl < gZ σ pg) : (0 ≤ sm (gZ σ) pg + pl ∧ sm (gZ σ) pg + pl < gN σ) ∧ pw (gZ σ) (gK σ) (sm (gZ σ) pg + pl) = pg := by
  have h1 := sm_b hI.z4 (p := pg) (by omega)
  have h2 := sm_s (gZ σ) hp.1
  have h3 := sm_mo hI.z0 (a := pg + 1) (b := gK σ) (by omega)
  rw [hI.sm] at h3
  refine ⟨by omega, pw_eq ⟨hp.1, hp.2, by omega, by omega, fun j a b => ?_⟩⟩
  have h4 := sm_mo hI.z0 (a := j + 1) (b := pg) (by omega)
  omega
theorem qf_at (hI : Inv σ) {q : Int} (h : 0 ≤ q ∧ q < gN σ) : qF (gR σ q 0) σ = q := fd_eq hI.so ⟨h.1, h.2, rfl⟩
theorem lst_lt (hI : Inv σ) {q : Int} (h : 0 ≤ q ∧ q < gN σ) : lst (gR σ) q < gR σ q 0 := by
  unfold lst
  by_cases e : q = 0
  · have h1 := hI.r0 q h.1 h.2
    rw [if_pos e]; omega
  · rw [if_neg e]; exact hI.so (q - 1) q (by omega) (by omega) h.2
theorem lst_b (hI : Inv σ) {q : Int} (h : 0 ≤ q ∧ q ≤ gN σ) : -1 ≤ lst (gR σ) q ∧ lst (gR σ) q ≤ 999 := by
  unfold lst
  by_cases e : q = 0
  · rw [if_pos e]; omega
  · rw [if_neg e]
    have h1 := hI.r0 (q - 1) (by omega) (by omega); omega
theorem kn_0 (hI : Inv σ) : gK σ ≤ gN σ ∧ gN σ ≤ 4 * gK σ := by
  have h1 := k_le hI.k.1 hI.z1
  have h2 := sm_b hI.z4 (p := gK σ) ⟨hI.k.1, Int.le_refl _⟩
  rw [hI.sm] at h1 h2; omega
end PLACE
/-! a sweep to its end -/
def SW (fi : Int) (σ : Sg) : Prop := (gS σ = -1 → ∀ j, fi ≤ j → j + 1 < gK σ → gZ σ j = 4) ∧ (gS σ ≠ -1 → fi ≤ gS σ ∧ ∀ j, fi ≤ j → j < gS σ → j < gK σ → gZ σ j = 4)
def msr (σ : Sg) : Nat := if gS σ = -1 then 0 else if gS σ + 1 < gK σ then (5 * (gK σ - gS σ) + 4 - gZ σ (gS σ)).toNat + 2 else 1
theorem msr_1 {σ : Sg} (h : gS σ ≠ -1) : 1 ≤ msr σ := by
  unfold msr
  rw [if_neg h]
  by_cases c : gS σ + 1 < gK σ
  · rw [if_pos c]; omega
  · rw [if_neg c]; omega
theorem mv_at {z : Int → Int} {c j : Int} (hj : j ≤ c) : mvZ z (c + 1) c j = if j = c then z c + 1 else z j := by
  have e : mvz z (c + 1) c j = if j = c then z c + 1 else z j := by
    unfold mvz
    by_cases q : j = c
    · rw [if_pos q, q, uI_s]
    · rw [if_neg q, uI_n _ _ q, uI_n _ _ (by omega)]
  unfold mvZ
  by_cases q : z (c + 1) - 1 = 0
  · rw [if_pos q]
    show (if j < c + 1 then mvz z (c + 1) c j else _) = _
    rw [if_pos (by omega), e]
  · rw [if_neg q, e]
theorem mvK_b {z : Int → Int} {k a : Int} : mvK z k a ≤ k := by
  unfold mvK
  by_cases q : z a - 1 = 0
  · rw [if_pos q]; omega
  · rw [if_neg q]; omega
theorem sw_step {σ : Sg} {fi : Int} (hI : Inv σ) (h : SW fi σ) (h0 : gS σ ≠ -1) (hf : 0 ≤ fi) : SW fi (oSw σ).2 ∧ msr (oSw σ).2 < msr σ := by
  obtain ⟨h1, h2⟩ := h.2 h0
  have hs := hI.s
  by_cases c1 : gS σ + 1 < gK σ
  · have hz := hI.z1 (gS σ) (by omega) (by omega)
    have hm : msr σ = (5 * (gK σ - gS σ) + 4 - gZ σ (gS σ)).toNat + 2 := (if_neg h0).trans (if_pos c1)
    by_cases c2 : 4 ≤ gZ σ (gS σ)
    · have e : (oSw σ).2 = oSetS (gS σ + 1) σ := by unfold oSw; rw [if_pos c1, if_pos c2]
      rw [e]
      have eS : gS (oSetS (gS σ + 1) σ) = gS σ + 1 := rfl
      refine ⟨⟨fun h9 => by rw [eS] at h9; omega, fun _ => ⟨by rw [eS]; omega, fun j a b d => ?_⟩⟩, ?_⟩
      · have b : j < gS σ + 1 := b
        show gZ σ j = 4
        by_cases q : j = gS σ
        · rw [q]; omega
        · exact h2 j a (by omega) d
      · rw [hm]
        have hz2 := hI.z1 (gS σ + 1) (by omega) c1
        show (if gS σ + 1 = -1 then 0 else if gS σ + 1 + 1 < gK σ then (5 * (gK σ - (gS σ + 1)) + 4 - gZ σ (gS σ + 1)).toNat + 2 else 1) < _
        rw [if_neg (by omega)]
        by_cases c3 : gS σ + 1 + 1 < gK σ
        · rw [if_pos c3]; omega
        · rw [if_neg c3]; omega
    · have e : (oSw σ).2 = oMv σ := by unfold oSw; rw [if_pos c1, if_neg c2]
      rw [e]
      have hk := mvK_b (z := gZ σ) (k := gK σ) (a := gS σ + 1)
      refine ⟨⟨fun h9 => absurd h9 h0, fun _ => ⟨h1, fun j a b d => ?_⟩⟩, ?_⟩
      · have b : j < gS σ := b
        have d : j < mvK (gZ σ) (gK σ) (gS σ + 1) := d
        show mvZ (gZ σ) (gS σ + 1) (gS σ) j = 4
        rw [mv_at (by omega), if_neg (by omega)]
        exact h2 j a b (by omega)
      · rw [hm]
        show (if gS σ = -1 then 0 else if gS σ + 1 < mvK (gZ σ) (gK σ) (gS σ + 1) then (5 * (mvK (gZ σ) (gK σ) (gS σ + 1) - gS σ) + 4 - mvZ (gZ σ) (gS σ + 1) (gS σ) (gS σ)).toNat + 2 else 1) < _
        rw [if_neg h0, mv_at (Int.le_refl _), if_pos rfl]
        by_cases c3 : gS σ + 1 < mvK (gZ σ) (gK σ) (gS σ + 1)
        · rw [if_pos c3]; omega
        · rw [if_neg c3]; omega
  · have e : (oSw σ).2 = oSetS (-1) σ := by unfold oSw; rw [if_neg c1]
    rw [e]
    refine ⟨⟨fun _ j a b => ?_, fun h9 => absurd rfl h9⟩, ?_⟩
    · have b : j + 1 < gK σ := b
      exact h2 j a (by omega) (by omega)
    · have h9 := msr_1 h0
      show (if (-1 : Int) = -1 then 0 else _) < _
      rw [if_pos rfl]; omega
theorem sw_st {fi : Int} (hf : 0 ≤ fi) : ∀ (d : Nat) {σ : Sg}, Inv σ → SW fi σ → SW fi (oSteps d σ).2 ∧ msr (oSteps d σ).2 ≤ msr σ
  | 0, σ, _, h => ⟨h, Nat.le_refl _⟩
  | d + 1, σ, hI, h => by
    by_cases c : gS σ = -1
    · rw [oSteps_0 c]; exact ⟨h, Nat.le_refl _⟩
    · rw [oSteps_n c]
      have hs := hI.s
      have h1 := sw_step hI h c hf
      have h2 := sw_st hf d (hI.sw (by omega)) h1.1
      exact ⟨h2.1, Nat.le_trans h2.2 (Nat.le_of_lt h1.2)⟩
theorem sw_st1 {fi : Int} (hf : 0 ≤ fi) (d : Nat) {σ : Sg} (hI : Inv σ) (h : SW fi σ) (h0 : gS σ ≠ -1) : SW fi (oSteps (d + 1) σ).2 ∧ msr (oSteps (d + 1) σ).2 < msr σ := by
  have hs := hI.s
  have h1 := sw_step hI h h0 hf
  have h2 := sw_st hf d (hI.sw (by omega)) h1.1
  rw [oSteps_n h0]
  exact ⟨h2.1, Nat.lt_of_le_of_lt h2.2 h1.2⟩
/-! one turn of the law: what it calls -/
end
section
/-! the law: the script, numbers; two pools side by side -/
/-- the script's int at place j -/
def sv (xs : Nat → Int32) (j : Int) : Int := (xs j.toNat).toInt
theorem sv_rg (xs : Nat → Int32) (j : Int) : -2147483648 ≤ sv xs j ∧ sv xs j < 2147483648 := iI_rg _
theorem fa_and (a b : Nat) : nI a &&& nI b = nI (a &&& b) := by
  apply Int32.toBitVec_inj.1
  show BitVec.ofNat 32 a &&& BitVec.ofNat 32 b = BitVec.ofNat 32 (a &&& b)
  apply BitVec.eq_of_getLsbD_eq
  intro i hi
  simp [hi]
theorem fa_mask (n k : Nat) : nI n &&& nI (2 ^ k - 1) = nI (n % 2 ^ k) := by rw [fa_and, Nat.and_two_pow_sub_one_eq_mod]
theorem nI_self (x : Int32) : nI x.toBitVec.toNat = x := by
  apply Int32.toBitVec_inj.1
  show BitVec.ofNat 32 x.toBitVec.toNat = x.toBitVec
  simp
theorem nI_iI (k : Nat) : nI k = iI (k : Int) := Int32.ofInt_eq_ofNat.symm
/-- the low bits of v, by n -/
def lw1 (v : Int) : Nat := (iI v).toBitVec.toNat % 2147483648
def lw (v n : Int) : Int := ((lw1 v % n.toNat : Nat) : Int)
theorem lw_rg (v : Int) {n : Int} (h : 1 ≤ n) : 0 ≤ lw v n ∧ lw v n < n := by
  have h1 : 0 < n.toNat := by omega
  have h2 := Nat.mod_lt (lw1 v) h1
  unfold lw
  omega
theorem lw_and (v : Int) : iI v &&& iI 2147483647 = nI (lw1 v) := by
  have e1 := fa_mask ((iI v).toBitVec.toNat) 31
  rw [nI_self] at e1
  rw [show iI 2147483647 = nI (2 ^ 31 - 1) by decide +kernel]
  exact e1
theorem lw_rem (v : Int) {n : Int} (h : 1 ≤ n ∧ n < 2147483648) : nI (lw1 v) - nI (lw1 v) / iI n * iI n = iI (lw v n) := by
  have e1 : iI n = nI n.toNat := by rw [nI_iI, show ((n.toNat : Nat) : Int) = n by omega]
  have h1 : lw1 v < 2 ^ 31 := Nat.mod_lt _ (by decide)
  rw [e1, pk_rem h1 (by omega) (by omega), nI_iI]; rfl
/-- a shift to the right, a product, a remainder, as ints -/
def sh (v k : Int) : Int := (iI v >>> (iI k &&& 31)).toInt
theorem sh_rg (v k : Int) : -2147483648 ≤ sh v k ∧ sh v k < 2147483648 := iI_rg _
def mu (a b : Int) : Int := (iI a * iI b).toInt
theorem mu_rg (a b : Int) : -2147483648 ≤ mu a b ∧ mu a b < 2147483648 := iI_rg _
def re (a b : Int) : Int := (iI a - iI a / iI b * iI b).toInt
theorem re_rg (a b : Int) : -2147483648 ≤ re a b ∧ re a b < 2147483648 := iI_rg _
section XLAW
variable {p : Program} {l : Launch} {e : Env} {R : Room} {s : State} {m : MethodId} {args : Array Value} {below : List Frame} {meth : Method} {c : Code} {H : Heap} {locs : List Loc} {cells slots : Nat} {Q : State → Prop}
variable {cc : ByteArray} {nL pc : Nat} {ls : Array Slot} {rest : List Value} {Ts : List Cond} {own : String} {D : va_G} {cs : ClassId × ClassId × ClassId} {A : Nat → Prop} {H0 : Heap} {L : List Nat} {f : Nat → va_E} {lv lv' : List (Nat × Value)}
/-- two ints that are one -/
theorem x_icmpS_eq (X : XX p m c cc nL s args Ts own D cs) {x : Int32} {off : Int} {tgt : Nat} (ht : (pc : Int) + off = (tgt : Int)) (hdg : decode cc pc = .ok (.if_icmp .eq off, 3)) (k : W p l e R s m args below meth c H locs cells slots Q (F0 m (tgt) ls (rest))) : W p l e R s m args below meth c H locs cells slots Q (F0 m (pc) ls (.int x :: .int x :: rest)) :=
  lv_icmp_eq X.1.1 X.1.2.1 hdg ht (fun _ => k) (fun h9 => absurd rfl h9)
theorem x_icmpS_ne (X : XX p m c cc nL s args Ts own D cs) {x : Int32} {off : Int} {tgt : Nat} (ht : (pc : Int) + off = (tgt : Int)) (hdg : decode cc pc = .ok (.if_icmp .ne off, 3)) (k : W p l e R s m args below meth c H locs cells slots Q (F0 m (pc + 3) ls (rest))) : W p l e R s m args below meth c H locs cells slots Q (F0 m (pc) ls (.int x :: .int x :: rest)) :=
  lv_icmp_ne X.1.1 X.1.2.1 hdg ht (fun h9 => absurd rfl h9) (fun _ => k)
theorem x_sld (X : XX p m c cc nL s args Ts own D cs) (w : XW D A s.heap L f H locs) {b LL : Nat} {xs : Nat → Int32} {j : Int} (hX : va_X b LL xs s s.heap) (hbl : b < s.heap.size) (hbA : ¬ A b) (hj : 0 ≤ j ∧ j < (LL : Int) ∧ LL ≤ 1000000) (hdg : decode cc pc = .ok (.iaload, 1)) (kk : W p l e R s m args below meth c H locs cells slots Q (F0 m (pc + 1) ls (.int (iI (sv xs j)) :: rest))) : W p l e R s m args below meth c H locs cells slots Q (F0 m pc ls (.int (iI j) :: .ref b :: rest)) := by
  refine va_sld X.1.1 X.1.2.1 hX hbl hbA w.2.2 (iI_in ⟨hj.1, hj.2.1⟩ hj.2.2) hdg ?_
  have e1 : (iI j).toNatClampNeg = j.toNat := by have h9 := iI_nat (i := j) (by omega); omega
  rw [e1]
  show W p l e R s m args below meth c H locs cells slots Q (F0 m (pc + 1) ls (.int (xs j.toNat) :: rest))
  rw [← iI_self (xs j.toNat)]; exact kk
theorem x_slen (X : XX p m c cc nL s args Ts own D cs) (w : XW D A s.heap L f H locs) {b LL : Nat} {xs : Nat → Int32} (hX : va_X b LL xs s s.heap) (hbl : b < s.heap.size) (hbA : ¬ A b) (hdg : decode cc pc = .ok (.arraylength, 1)) (kk : W p l e R s m args below meth c H locs cells slots Q (F0 m (pc + 1) ls (.int (iI (LL : Int)) :: rest))) : W p l e R s m args below meth c H locs cells slots Q (F0 m pc ls (.ref b :: rest)) := by
  refine va_slen X.1.1 X.1.2.1 hX hbl hbA w.2.2 hdg ?_
  rw [show Int32.ofNat LL = iI (LL : Int) from Int32.ofInt_eq_ofNat.symm]; exact kk
theorem x_ldc (X : XX p m c cc nL s args Ts own D cs) {index : Nat} {v : Int32} {z : Int} (hm : Cond.constant own index v ∈ Ts) (hv : v = iI z) (hdg : decode cc pc = .ok (.ldc index, 2)) (kk : W p l e R s m args below meth c H locs cells slots Q (F0 m (pc + 2) ls (.int (iI z) :: rest))) : W p l e R s m args below meth c H locs cells slots Q (F0 m pc ls rest) := by
  subst hv
  exact lv_ldc X.1.1 X.1.2.1 X.1.2.2.2.1 (X.1.2.2.2.2 _ hm) hdg kk
theorem x_iandL (X : XX p m c cc nL s args Ts own D cs) {v : Int} (hdg : decode cc pc = .ok (.iand, 1)) (kk : W p l e R s m args below meth c H locs cells slots Q (F0 m (pc + 1) ls (.int (nI (lw1 v)) :: rest))) : W p l e R s m args below meth c H locs cells slots Q (F0 m pc ls (.int (iI 2147483647) :: .int (iI v) :: rest)) := by
  refine lv_iand X.1.1 X.1.2.1 hdg ?_
  rw [lw_and]; exact kk
theorem x_iremL (X : XX p m c cc nL s args Ts own D cs) {v n : Int} (hn : 1 ≤ n ∧ n < 2147483648) (hdg : decode cc pc = .ok (.irem, 1)) (kk : W p l e R s m args below meth c H locs cells slots Q (F0 m (pc + 1) ls (.int (iI (lw v n)) :: rest))) : W p l e R s m args below meth c H locs cells slots Q (F0 m pc ls (.int (iI n) :: .int (nI (lw1 v)) :: rest)) := by
  refine lv_irem X.1.1 X.1.2.1 hdg (fun h9 => ?_) ?_
  · rw [iI_0, iI_eq (by omega) (by omega)] at h9; omega
  · rw [lw_rem v hn]; exact kk
theorem x_irem (X : XX p m c cc nL s args Ts own D cs) {v n : Int} (hn : 1 ≤ n ∧ n < 2147483648) (hdg : decode cc pc = .ok (.irem, 1)) (kk : W p l e R s m args below meth c H locs cells slots Q (F0 m (pc + 1) ls (.int (iI (re v n)) :: rest))) : W p l e R s m args below meth c H locs cells slots Q (F0 m pc ls (.int (iI n) :: .int (iI v) :: rest)) := by
  refine lv_irem X.1.1 X.1.2.1 hdg (fun h9 => ?_) ?_
  · rw [iI_0, iI_eq (by omega) (by omega)] at h9; omega
  · rw [← iI_self (iI v - iI v / iI n * iI n)]; exact kk
theorem x_ishr (X : XX p m c cc nL s args Ts own D cs) {v n : Int} (hdg : decode cc pc = .ok (.ishr, 1)) (kk : W p l e R s m args below meth c H locs cells slots Q (F0 m (pc + 1) ls (.int (iI (sh v n)) :: rest))) : W p l e R s m args below meth c H locs cells slots Q (F0 m pc ls (.int (iI n) :: .int (iI v) :: rest)) := by
  refine lv_ishr X.1.1 X.1.2.1 hdg ?_
  rw [← iI_self (iI v >>> (iI n &&& 31))]; exact kk
theorem x_imul (X : XX p m c cc nL s args Ts own D cs) {v n : Int} (hdg : decode cc pc = .ok (.imul, 1)) (kk : W p l e R s m args below meth c H locs cells slots Q (F0 m (pc + 1) ls (.int (iI (mu v n)) :: rest))) : W p l e R s m args below meth c H locs cells slots Q (F0 m pc ls (.int (iI n) :: .int (iI v) :: rest)) := by
  refine lv_imul X.1.1 X.1.2.1 hdg ?_
  rw [← iI_self (iI v * iI n)]; exact kk
end XLAW
/-! two pools side by side: a contract of the one leaves the other as it is -/
def jn : Bool → List Nat → List Nat → List Nat
  | true, a, b => a ++ b
  | false, a, b => b ++ a
def gl (L2 : List Nat) (f2 f : Nat → va_E) : Nat → va_E := fun a => if a ∈ L2 then f2 a else f a
section POOLS
variable {D : va_G} {cl : List vw_C} {A : Nat → Prop} {H : Heap} {L Lr L2 : List Nat} {f f2 : Nat → va_E} {b : Bool} {sz q : Nat} {cs : ClassId × ClassId × ClassId} {st t : State}
theorem mem_jn {a : Nat} : a ∈ jn b L Lr ↔ a ∈ L ∨ a ∈ Lr := by
  cases b
  · exact List.mem_append.trans Or.comm
  · exact List.mem_append
theorem nd_jn : (jn b L Lr).Nodup ↔ L.Nodup ∧ Lr.Nodup ∧ ∀ a, a ∈ L → a ∈ Lr → False := by
  cases b
  · exact ⟨fun h => ⟨(List.nodup_append.mp h).2.1, (List.nodup_append.mp h).1, fun a h1 h2 => (List.nodup_append.mp h).2.2 a h2 a h1 rfl⟩, fun h => List.nodup_append.mpr ⟨h.2.1, h.1, fun a h1 c h2 he => h.2.2 a (by rw [he]; exact h2) h1⟩⟩
  · exact ⟨fun h => ⟨(List.nodup_append.mp h).1, (List.nodup_append.mp h).2.1, fun a h1 h2 => (List.nodup_append.mp h).2.2 a h1 a h2 rfl⟩, fun h => List.nodup_append.mpr ⟨h.1, h.2.1, fun a h1 c h2 he => h.2.2 a h1 (by rw [he]; exact h2)⟩⟩
theorem pl_at {k : Nat} {x : Nat × va_E} (h : (va_pl L f)[k]? = some x) : L[k]? = some x.1 ∧ x.2 = f x.1 := by
  unfold va_pl at h
  rw [List.getElem?_map] at h
  cases hi : L[k]? with
  | none => rw [hi] at h; cases h
  | some a => rw [hi] at h; cases h; exact ⟨rfl, rfl⟩
theorem pl_P : va_P D cl (va_pl L f) H ↔ ∀ a, a ∈ L → va_at D cl (a, f a) H := by
  refine ⟨fun h a ha => ?_, fun h k x hk => ?_⟩
  · obtain ⟨k, hk⟩ := xw_at (f := f) rfl ha rfl
    exact h k _ hk
  · obtain ⟨h1, h2⟩ := pl_at hk
    have h3 := h x.1 (List.mem_of_getElem? h1)
    rw [← h2] at h3; exact h3
theorem pl_D : va_D A (va_pl L f) ↔ L.Nodup ∧ ∀ a, a ∈ L → A a := by
  refine ⟨fun h => ⟨List.pairwise_iff_getElem.mpr (fun i j hi hj hij he => ?_), fun a ha => ?_⟩, fun h => ⟨fun i j x y hi hj he => ?_, fun k x hk => h.2 x.1 (List.mem_of_getElem? (pl_at hk).1)⟩⟩
  · have e1 : ∀ k (hk : k < L.length), (va_pl L f)[k]? = some (L[k], f L[k]) := fun k hk => by
      unfold va_pl; rw [List.getElem?_map, List.getElem?_eq_getElem hk]; rfl
    have h1 := h.1 i j _ _ (e1 i hi) (e1 j hj) he
    omega
  · obtain ⟨k, hk⟩ := xw_at (f := f) rfl ha rfl
    exact h.2 k _ hk
  · have h1 := (pl_at hi).1
    have h2 := (pl_at hj).1
    rw [← he] at h2
    obtain ⟨g1, g2⟩ := List.getElem?_eq_some_iff.mp h1
    obtain ⟨g3, g4⟩ := List.getElem?_eq_some_iff.mp h2
    rcases Nat.lt_trichotomy i j with h9 | h9 | h9
    · exact absurd (g2.trans g4.symm) (List.pairwise_iff_getElem.mp h.1 i j g1 g3 h9)
    · exact h9
    · exact absurd (g4.trans g2.symm) (List.pairwise_iff_getElem.mp h.1 j i g3 g1 h9)
theorem pl_A : va_A (va_pl L f) sz q ↔ q ∈ L ∨ sz ≤ q := by
  refine ⟨fun h => h.elim (fun h1 => ?_) Or.inr, fun h => h.elim (fun h1 => ?_) Or.inr⟩
  · obtain ⟨k, e, hk⟩ := h1
    exact Or.inl (List.mem_of_getElem? (pl_at hk).1)
  · obtain ⟨k, hk⟩ := xw_at (f := f) rfl h1 rfl
    exact Or.inl ⟨k, _, hk⟩
theorem pl_w (h : va_A (va_pl L f) sz q) : va_A (va_pl (jn b L Lr) f) sz q := pl_A.mpr ((pl_A.mp h).elim (fun h1 => Or.inl (mem_jn.mpr (Or.inl h1))) Or.inr)
theorem pl_P1 (h : va_P D cl (va_pl (jn b L Lr) f) H) : va_P D cl (va_pl L f) H := pl_P.mpr (fun a ha => pl_P.mp h a (mem_jn.mpr (Or.inl ha)))
theorem pl_D1 (h : va_D A (va_pl (jn b L Lr) f)) : va_D A (va_pl L f) := pl_D.mpr ⟨(nd_jn.mp (pl_D.mp h).1).1, fun a ha => (pl_D.mp h).2 a (mem_jn.mpr (Or.inl ha))⟩
theorem fr_core (hP : va_P D vwCl (va_pl (jn b L Lr) f) st.heap) (hD : va_D (fun _ => True) (va_pl (jn b L Lr) f)) (hsz : st.heap.size = sz) (hB : CB D cs (va_A (va_pl L f) sz) (L2, f2) t) (hF : va_F (va_A (va_pl L f) sz) st t) :
    CB D cs (va_A (va_pl (jn b L Lr) f) sz) (jn b L2 Lr, gl L2 f2 f) t ∧ (∀ a, a ∈ Lr → gl L2 f2 f a = f a) ∧ va_F (va_A (va_pl (jn b L Lr) f) sz) st t := by
  obtain ⟨hB1, hB2, hB3⟩ := hB
  have hPm := pl_P.mp hP
  have hN := nd_jn.mp (pl_D.mp hD).1
  have hP2 := pl_P.mp hB1
  have hD2 := pl_D.mp hB3
  have hap : ∀ a, a ∈ Lr → a < st.heap.size ∧ ¬ va_A (va_pl L f) sz a := fun a ha => ⟨(hPm a (mem_jn.mpr (Or.inr ha))).lt, fun h => (pl_A.mp h).elim (fun h1 => hN.2.2 a h1 ha) (fun h1 => by
    have h2 : a < st.heap.size := (hPm a (mem_jn.mpr (Or.inr ha))).lt
    omega)⟩
  have hne : ∀ a, a ∈ Lr → a ∉ L2 := fun a ha h => (hap a ha).2 (hD2.2 a h)
  have e1 : ∀ a, a ∈ L2 → gl L2 f2 f a = f2 a := fun a ha => if_pos ha
  have e2 : ∀ a, a ∈ Lr → gl L2 f2 f a = f a := fun a ha => if_neg (hne a ha)
  refine ⟨⟨pl_P.mpr (fun a ha => ?_), hB2, pl_D.mpr ⟨nd_jn.mpr ⟨hD2.1, hN.2.1, fun a h1 h2 => hne a h2 h1⟩, fun a ha => ?_⟩⟩, e2, hF.1, fun x h1 h2 => hF.2 x h1 (fun h3 => h2 (pl_w h3))⟩
  · show va_at D vwCl (a, gl L2 f2 f a) t.heap
    rcases mem_jn.mp ha with h | h
    · rw [e1 a h]; exact hP2 a h
    · rw [e2 a h]; exact (hPm a (mem_jn.mpr (Or.inr h))).kept (hF.2 a (hap a h).1 (hap a h).2)
  · rcases mem_jn.mp ha with h | h
    · exact pl_w (hD2.2 a h)
    · exact pl_A.mpr (Or.inl (mem_jn.mpr (Or.inr h)))
variable {l : Launch} {y : MethodName} {ws : List Cond} {rm : Room} {al : List Value} {post : Option Value → List Nat → (Nat → va_E) → Prop} {px : String → Prop} {Z : State → Prop}
def frP (b : Bool) (Lr : List Nat) (f : Nat → va_E) (post : Option Value → List Nat → (Nat → va_E) → Prop) : Option Value → List Nat → (Nat → va_E) → Prop := fun v L1 f1 => ∃ L2 f2, L1 = jn b L2 Lr ∧ post v L2 f2 ∧ (∀ a, a ∈ L2 → f1 a = f2 a) ∧ ∀ a, a ∈ Lr → f1 a = f a
theorem C0.fr (b : Bool) (Lr : List Nat) (h : C0 l y ws rm D cs al L f post) : C0 l y ws rm D cs al (jn b L Lr) f (frP b Lr f post) := by
  intro sz p e h1 h2 h3 s m a below hfr happ hp hk
  obtain ⟨h0, hsz, hP, hK, hD⟩ := hp
  obtain ⟨n, o, c1, c2, c3, ⟨⟨v, u, ho, hpo, hb⟩, hF⟩, L9, hfe, hfree⟩ := h sz p e h1 h2 h3 s m a below hfr happ ⟨h0, hsz, pl_P1 hP, hK, pl_D1 hD⟩ trivial
  have hc := fr_core hP hD hsz hb hF
  exact ⟨n, o, c1, c2, c3, ⟨⟨v, (jn b u.1 Lr, gl u.1 u.2 f), ho, ⟨u.1, u.2, rfl, hpo, fun a h => if_pos h, hc.2.1⟩, hc.1⟩, hc.2.2⟩, L9, hfe, fun q hq => pl_w (hfree q hq)⟩
theorem C0z.fr (b : Bool) (Lr : List Nat) (h : C0z Z l y ws rm D cs al L f post) : C0z Z l y ws rm D cs al (jn b L Lr) f (frP b Lr f post) := by
  intro sz p e h1 h2 h3 s m a below hfr happ hp hk
  obtain ⟨h0, hsz, hP, hK, hD, hz⟩ := hp
  obtain ⟨n, o, c1, c2, c3, ⟨⟨v, u, ho, hpo, hb⟩, hF⟩, L9, hfe, hfree⟩ := h sz p e h1 h2 h3 s m a below hfr happ ⟨h0, hsz, pl_P1 hP, hK, pl_D1 hD, hz⟩ trivial
  have hc := fr_core hP hD hsz hb hF
  exact ⟨n, o, c1, c2, c3, ⟨⟨v, (jn b u.1 Lr, gl u.1 u.2 f), ho, ⟨u.1, u.2, rfl, hpo, fun a h => if_pos h, hc.2.1⟩, hc.1⟩, hc.2.2⟩, L9, hfe, fun q hq => pl_w (hfree q hq)⟩
theorem C1.fr (b : Bool) (Lr : List Nat) (h : C1 l y ws rm D cs al L f post px) : C1 l y ws rm D cs al (jn b L Lr) f (frP b Lr f post) px := by
  intro sz p e h1 h2 h3 s m a below hfr happ hp hk
  obtain ⟨h0, hsz, hP, hK, hD, hV, hZ⟩ := hp
  obtain ⟨n, o, c1, c2, c3, hq⟩ := h sz p e h1 h2 h3 s m a below hfr happ ⟨h0, hsz, pl_P1 hP, hK, pl_D1 hD, hV, hZ.1.narrow (fun q => pl_w), hZ.2.narrow (fun q => pl_w)⟩ trivial
  refine ⟨n, o, c1, c2, c3, ?_⟩
  rcases hq with ⟨⟨⟨v, u, ho, hpo, hb⟩, hF⟩, L9, hfe, hfree⟩ | ⟨q, ho, E, ce, L9, ⟨u, hu, ⟨hpx, hb⟩, hF⟩, hce, hcv, hcl, hW, hsm, hfree⟩
  · have hc := fr_core hP hD hsz hb hF
    exact Or.inl ⟨⟨⟨v, (jn b u.1 Lr, gl u.1 u.2 f), ho, ⟨u.1, u.2, rfl, hpo, fun a h => if_pos h, hc.2.1⟩, hc.1⟩, hc.2.2⟩, L9, hfe, fun q hq => pl_w (hfree q hq)⟩
  · subst hu
    have hc := fr_core hP hD hsz hb hF
    have e9 : gl L f f = f := funext (fun a => by unfold gl; split <;> rfl)
    rw [e9] at hc
    exact Or.inr ⟨q, ho, E, ce, L9, ⟨(jn b L Lr, f), rfl, ⟨hpx, hc.1⟩, hc.2.2⟩, hce, hcv, hcl, hW, hsm, fun z hz => pl_w (hfree z hz)⟩
end POOLS
theorem C0.fL {l : Launch} {y : MethodName} {ws : List Cond} {rm : Room} {D : va_G} {cs : ClassId × ClassId × ClassId} {al : List Value} {L : List Nat} {f : Nat → va_E} {post : Option Value → List Nat → (Nat → va_E) → Prop} (Lr : List Nat) (h : C0 l y ws rm D cs al L f post) : C0 l y ws rm D cs al (L ++ Lr) f (frP true Lr f post) := h.fr true Lr
theorem C0.fR {l : Launch} {y : MethodName} {ws : List Cond} {rm : Room} {D : va_G} {cs : ClassId × ClassId × ClassId} {al : List Value} {L : List Nat} {f : Nat → va_E} {post : Option Value → List Nat → (Nat → va_E) → Prop} (Lr : List Nat) (h : C0 l y ws rm D cs al L f post) : C0 l y ws rm D cs al (Lr ++ L) f (frP false Lr f post) := h.fr false Lr
theorem C0z.fR {Z : State → Prop} {l : Launch} {y : MethodName} {ws : List Cond} {rm : Room} {D : va_G} {cs : ClassId × ClassId × ClassId} {al : List Value} {L : List Nat} {f : Nat → va_E} {post : Option Value → List Nat → (Nat → va_E) → Prop} (Lr : List Nat) (h : C0z Z l y ws rm D cs al L f post) : C0z Z l y ws rm D cs al (Lr ++ L) f (frP false Lr f post) := h.fr false Lr
theorem C1.fL {l : Launch} {y : MethodName} {ws : List Cond} {rm : Room} {D : va_G} {cs : ClassId × ClassId × ClassId} {al : List Value} {L : List Nat} {f : Nat → va_E} {post : Option Value → List Nat → (Nat → va_E) → Prop} {px : String → Prop} (Lr : List Nat) (h : C1 l y ws rm D cs al L f post px) : C1 l y ws rm D cs al (L ++ Lr) f (frP true Lr f post) px := h.fr true Lr
theorem C1.fR {l : Launch} {y : MethodName} {ws : List Cond} {rm : Room} {D : va_G} {cs : ClassId × ClassId × ClassId} {al : List Value} {L : List Nat} {f : Nat → va_E} {post : Option Value → List Nat → (Nat → va_E) → Prop} {px : String → Prop} (Lr : List Nat) (h : C1 l y ws rm D cs al L f post px) : C1 l y ws rm D cs al (Lr ++ L) f (frP false Lr f post) px := h.fr false Lr
section CXE
variable {cs : ClassId × ClassId × ClassId} {L L2 : List Nat} {f f1 : Nat → va_E} {x br ba pr sz lr : Nat} {n : Int} {R : Rc} {k : Int} {z : Int → Int} {td kp pb sw : Int} {w : Int → Int}
theorem CX.ext (h : CX cs L f x br ba pr sz lr n R k z td kp pb sw w) (hs : ∀ a, a ∈ L → a ∈ L2) (hf : ∀ a, a ∈ L → f1 a = f a) : CX cs L2 f1 x br ba pr sz lr n R k z td kp pb sw w := by
  obtain ⟨ww, hl1, hl2⟩ := h.fl
  obtain ⟨r, hb1, hb2⟩ := h.rb
  obtain ⟨zz, hzR, hzz⟩ := h.pp
  refine ⟨hs _ h.mx, (hf _ h.mx).trans h.fx, hs _ h.ml, ⟨ww, (hf _ h.ml).trans hl1, hl2⟩, h.ns, ⟨zz, ⟨hs _ hzR.mp, hs _ hzR.ms, (hf _ hzR.mp).trans hzR.fp, (hf _ hzR.ms).trans hzR.fs⟩, hzz⟩, r, ⟨hs _ hb1.mp, hs _ hb1.ms, (hf _ hb1.mp).trans hb1.fp, (hf _ hb1.ms).trans hb1.fs⟩, fun j a1 a2 => ?_⟩
  obtain ⟨c, h3, h4, h5⟩ := hb2 j a1 a2
  exact ⟨c, h3, hs _ h4, (hf _ h4).trans h5⟩
theorem CX.inL (h : CX cs L f x br ba pr sz lr n R k z td kp pb sw w) (Lr : List Nat) : CX cs (L ++ Lr) f x br ba pr sz lr n R k z td kp pb sw w := h.ext (fun _ q => List.mem_append_left _ q) (fun _ _ => rfl)
theorem CX.inR (h : CX cs L f x br ba pr sz lr n R k z td kp pb sw w) (Lr : List Nat) : CX cs (Lr ++ L) f x br ba pr sz lr n R k z td kp pb sw w := h.ext (fun _ q => List.mem_append_right _ q) (fun _ _ => rfl)
end CXE
end
