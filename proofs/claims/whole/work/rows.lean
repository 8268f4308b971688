section
-- ===== PART A: goes FIRST, ahead of the names: the tables' words, and 'selects' of the private methods out of them =====
/-- a private method of a class that the tables say can be made, by its rows of tables_1 -/
def lw_okq (q : MethodName × Nat) : Prop := (q.1.cls ≠ "java/lang/invoke/MethodHandle" ∧ q.1.cls ≠ "java/lang/invoke/VarHandle") ∧ Cond.instantiable q.1.cls q.2 ∈ tables_1 ∧ Cond.privateMethod q.1 ∈ tables_1 ∧ Cond.instanceMethod q.1 ∈ tables_1
theorem lw_p0 : lw_okq (⟨"java/lang/Throwable", "fillInStackTrace", "(I)Ljava/lang/Throwable;"⟩, 6) := ⟨⟨by decide +kernel, by decide +kernel⟩, List.mem_of_getElem? (i := 158) (by decide +kernel), List.mem_of_getElem? (i := 156) (by decide +kernel), List.mem_of_getElem? (i := 157) (by decide +kernel)⟩
theorem lw_p1 : lw_okq (⟨"PageBail", "pageToPutOn", "(I)I"⟩, 7) := ⟨⟨by decide +kernel, by decide +kernel⟩, List.mem_of_getElem? (i := 14) (by decide +kernel), List.mem_of_getElem? (i := 226) (by decide +kernel), List.mem_of_getElem? (i := 227) (by decide +kernel)⟩
theorem lw_p2 : lw_okq (⟨"PageBail", "takeOut", "(I)V"⟩, 7) := ⟨⟨by decide +kernel, by decide +kernel⟩, List.mem_of_getElem? (i := 14) (by decide +kernel), List.mem_of_getElem? (i := 298) (by decide +kernel), List.mem_of_getElem? (i := 299) (by decide +kernel)⟩
theorem lw_p3 : lw_okq (⟨"PageBail$PageRow", "remove", "(I)V"⟩, 2) := ⟨⟨by decide +kernel, by decide +kernel⟩, List.mem_of_getElem? (i := 37) (by decide +kernel), List.mem_of_getElem? (i := 306) (by decide +kernel), List.mem_of_getElem? (i := 307) (by decide +kernel)⟩
theorem lw_p4 : lw_okq (⟨"PageBail$PageRow", "borrowOrJoin", "(I)V"⟩, 2) := ⟨⟨by decide +kernel, by decide +kernel⟩, List.mem_of_getElem? (i := 37) (by decide +kernel), List.mem_of_getElem? (i := 310) (by decide +kernel), List.mem_of_getElem? (i := 311) (by decide +kernel)⟩
theorem lw_p5 : lw_okq (⟨"PageBail", "keepOverdue", "()I"⟩, 7) := ⟨⟨by decide +kernel, by decide +kernel⟩, List.mem_of_getElem? (i := 14) (by decide +kernel), List.mem_of_getElem? (i := 386) (by decide +kernel), List.mem_of_getElem? (i := 387) (by decide +kernel)⟩
theorem lw_p6 : lw_okq (⟨"PageBail", "sweepOn", "()I"⟩, 7) := ⟨⟨by decide +kernel, by decide +kernel⟩, List.mem_of_getElem? (i := 14) (by decide +kernel), List.mem_of_getElem? (i := 456) (by decide +kernel), List.mem_of_getElem? (i := 457) (by decide +kernel)⟩
theorem lw_p7 : lw_okq (⟨"PageBailModel", "find", "(I)I"⟩, 14) := ⟨⟨by decide +kernel, by decide +kernel⟩, List.mem_of_getElem? (i := 469) (by decide +kernel), List.mem_of_getElem? (i := 532) (by decide +kernel), List.mem_of_getElem? (i := 533) (by decide +kernel)⟩
theorem lw_p8 : lw_okq (⟨"PageBailModel", "goesWell", "(I)Z"⟩, 14) := ⟨⟨by decide +kernel, by decide +kernel⟩, List.mem_of_getElem? (i := 469) (by decide +kernel), List.mem_of_getElem? (i := 536) (by decide +kernel), List.mem_of_getElem? (i := 537) (by decide +kernel)⟩
theorem lw_p9 : lw_okq (⟨"PageBailModel", "pageFor", "(I)I"⟩, 14) := ⟨⟨by decide +kernel, by decide +kernel⟩, List.mem_of_getElem? (i := 469) (by decide +kernel), List.mem_of_getElem? (i := 540) (by decide +kernel), List.mem_of_getElem? (i := 541) (by decide +kernel)⟩
theorem lw_p10 : lw_okq (⟨"PageBailModel", "beginOf", "(I)I"⟩, 14) := ⟨⟨by decide +kernel, by decide +kernel⟩, List.mem_of_getElem? (i := 469) (by decide +kernel), List.mem_of_getElem? (i := 544) (by decide +kernel), List.mem_of_getElem? (i := 545) (by decide +kernel)⟩
theorem lw_p11 : lw_okq (⟨"PageBailModel", "split", "(I)V"⟩, 14) := ⟨⟨by decide +kernel, by decide +kernel⟩, List.mem_of_getElem? (i := 469) (by decide +kernel), List.mem_of_getElem? (i := 548) (by decide +kernel), List.mem_of_getElem? (i := 549) (by decide +kernel)⟩
theorem lw_p12 : lw_okq (⟨"PageBailModel", "moveUp", "(I)V"⟩, 14) := ⟨⟨by decide +kernel, by decide +kernel⟩, List.mem_of_getElem? (i := 469) (by decide +kernel), List.mem_of_getElem? (i := 552) (by decide +kernel), List.mem_of_getElem? (i := 553) (by decide +kernel)⟩
theorem lw_p13 : lw_okq (⟨"PageBailModel", "copy", "(II)V"⟩, 14) := ⟨⟨by decide +kernel, by decide +kernel⟩, List.mem_of_getElem? (i := 469) (by decide +kernel), List.mem_of_getElem? (i := 556) (by decide +kernel), List.mem_of_getElem? (i := 557) (by decide +kernel)⟩
theorem lw_p14 : lw_okq (⟨"PageBailModel", "takeOut", "(I)V"⟩, 14) := ⟨⟨by decide +kernel, by decide +kernel⟩, List.mem_of_getElem? (i := 469) (by decide +kernel), List.mem_of_getElem? (i := 564) (by decide +kernel), List.mem_of_getElem? (i := 565) (by decide +kernel)⟩
theorem lw_p15 : lw_okq (⟨"PageBailModel", "pageAt", "(I)I"⟩, 14) := ⟨⟨by decide +kernel, by decide +kernel⟩, List.mem_of_getElem? (i := 469) (by decide +kernel), List.mem_of_getElem? (i := 568) (by decide +kernel), List.mem_of_getElem? (i := 569) (by decide +kernel)⟩
def lw_privs_1 : List (MethodName × Nat) := [(⟨"java/lang/Throwable", "fillInStackTrace", "(I)Ljava/lang/Throwable;"⟩, 6), (⟨"PageBail", "pageToPutOn", "(I)I"⟩, 7), (⟨"PageBail", "takeOut", "(I)V"⟩, 7), (⟨"PageBail$PageRow", "remove", "(I)V"⟩, 2), (⟨"PageBail$PageRow", "borrowOrJoin", "(I)V"⟩, 2), (⟨"PageBail", "keepOverdue", "()I"⟩, 7), (⟨"PageBail", "sweepOn", "()I"⟩, 7), (⟨"PageBailModel", "find", "(I)I"⟩, 14), (⟨"PageBailModel", "goesWell", "(I)Z"⟩, 14), (⟨"PageBailModel", "pageFor", "(I)I"⟩, 14), (⟨"PageBailModel", "beginOf", "(I)I"⟩, 14), (⟨"PageBailModel", "split", "(I)V"⟩, 14), (⟨"PageBailModel", "moveUp", "(I)V"⟩, 14), (⟨"PageBailModel", "copy", "(II)V"⟩, 14), (⟨"PageBailModel", "takeOut", "(I)V"⟩, 14), (⟨"PageBailModel", "pageAt", "(I)I"⟩, 14)]
theorem lw_r1 : ∀ q ∈ lw_privs_1, lw_okq q := List.forall_mem_cons.mpr ⟨lw_p0, List.forall_mem_cons.mpr ⟨lw_p1, List.forall_mem_cons.mpr ⟨lw_p2, List.forall_mem_cons.mpr ⟨lw_p3, List.forall_mem_cons.mpr ⟨lw_p4, List.forall_mem_cons.mpr ⟨lw_p5, List.forall_mem_cons.mpr ⟨lw_p6, List.forall_mem_cons.mpr ⟨lw_p7, List.forall_mem_cons.mpr ⟨lw_p8, List.forall_mem_cons.mpr ⟨lw_p9, List.forall_mem_cons.mpr ⟨lw_p10, List.forall_mem_cons.mpr ⟨lw_p11, List.forall_mem_cons.mpr ⟨lw_p12, List.forall_mem_cons.mpr ⟨lw_p13, List.forall_mem_cons.mpr ⟨lw_p14, List.forall_mem_cons.mpr ⟨lw_p15, fun _ h => absurd h List.not_mem_nil⟩⟩⟩⟩⟩⟩⟩⟩⟩⟩⟩⟩⟩⟩⟩⟩
theorem lw_p16 : lw_okq (⟨"PageBailModel", "dropPage", "(I)V"⟩, 14) := ⟨⟨by decide +kernel, by decide +kernel⟩, List.mem_of_getElem? (i := 469) (by decide +kernel), List.mem_of_getElem? (i := 572) (by decide +kernel), List.mem_of_getElem? (i := 573) (by decide +kernel)⟩
theorem lw_p17 : lw_okq (⟨"PageBailModel", "settle", "(I)V"⟩, 14) := ⟨⟨by decide +kernel, by decide +kernel⟩, List.mem_of_getElem? (i := 469) (by decide +kernel), List.mem_of_getElem? (i := 576) (by decide +kernel), List.mem_of_getElem? (i := 577) (by decide +kernel)⟩
theorem lw_p18 : lw_okq (⟨"PageBailModel", "isPage", "(I)Z"⟩, 14) := ⟨⟨by decide +kernel, by decide +kernel⟩, List.mem_of_getElem? (i := 469) (by decide +kernel), List.mem_of_getElem? (i := 632) (by decide +kernel), List.mem_of_getElem? (i := 633) (by decide +kernel)⟩
def lw_privs_2 : List (MethodName × Nat) := [(⟨"PageBailModel", "dropPage", "(I)V"⟩, 14), (⟨"PageBailModel", "settle", "(I)V"⟩, 14), (⟨"PageBailModel", "isPage", "(I)Z"⟩, 14)]
theorem lw_r2 : ∀ q ∈ lw_privs_2, lw_okq q := List.forall_mem_cons.mpr ⟨lw_p16, List.forall_mem_cons.mpr ⟨lw_p17, List.forall_mem_cons.mpr ⟨lw_p18, fun _ h => absurd h List.not_mem_nil⟩⟩⟩
def lw_privs : List (MethodName × Nat) := lw_privs_1 ++ (lw_privs_2)
def lw_tbl : List Cond := k2_sels lw_privs ++ tables_1
theorem lw_privs_ok : ∀ q ∈ lw_privs, lw_okq q := by
  show ∀ q ∈ lw_privs_1 ++ (lw_privs_2), lw_okq q
  exact List.forall_mem_append.mpr ⟨lw_r1, lw_r2⟩
/-! ===== BEGIN words of one list among another's, by their places ===== -/
theorem goodIn_r {big : List Cond} (ws : List Cond) (ps : List Nat) (hp : ws = ps.filterMap (fun i => big[i]?)) (h : ws.all goodWord = true) : GoodIn big ws := by
  intro w hw
  have h1 := List.all_eq_true.mp h w hw
  rw [hp] at hw
  obtain ⟨i, -, hi⟩ := List.mem_filterMap.mp hw
  have hm : w ∈ big := by first | exact List.mem_of_getElem? hi | exact List.getElem?_mem hi
  exact ⟨hm, good_of_word h1⟩
theorem goodIn_app {big a b : List Cond} (ha : GoodIn big a) (hb : GoodIn big b) : GoodIn big (a ++ b) := fun w h => (List.mem_append.mp h).elim (ha w) (hb w)
theorem goodIn_ca {big a b : List Cond} {c : Cond} (ha : GoodIn big (c :: a)) (hb : GoodIn big b) : GoodIn big (c :: (a ++ b)) := fun w h => (List.mem_cons.mp h).elim (fun e => ha w (List.mem_cons.mpr (Or.inl e))) (fun h => (List.mem_append.mp h).elim (fun h => ha w (List.mem_cons.mpr (Or.inr h))) (hb w))
theorem goodIn_sub {big ws : List Cond} (hm : ∀ w ∈ ws, w ∈ big) (h : ws.all goodWord = true) : GoodIn big ws := fun w hw => ⟨hm w hw, good_of_word (List.all_eq_true.mp h w hw)⟩
/-! ===== END ===== -/

/-! ===== BEGIN exceptions that leave a method, and their catching by the caller (launches without stack traces) ===== -/
section VXA
/-! The laws vx_back, vx_callV, vx_callS, vx_callSW, vx_throw0, vx_throwS follow proofs of the library, with one case more: JvmDerived/Free/Laws.lean (Back.of_free), Shelf42/LK1.lean (callV, callS), Shelf/KitTraced.lean (throwNew0V, throwNewS). -/
/-- where a method has thrown q: the class by its name, the cell, what was written, the world -/
def vx_T (XC : String → State → State → Prop) (st : State) (q : Addr) (t : State) (mc ms : Nat) (free : Addr → Prop) : Prop :=
  ∃ (E : String) (ce : Cell) (L : List Loc), XC E st t ∧ t.heap[q]? = some ce ∧ ce.vm = .none ∧ st.vm.findClass E = some ce.cls ∧ st.WarmedH t.vm ∧ st.sameButNew ({ t with vm := st.vm } : State) L mc ms ∧ ∀ z ∈ L, free z.base
def vx_Q (Qc : Array Value → State → Outcome → State → Prop) (XC : String → State → State → Prop) (mc ms : Nat) (free : Addr → Prop) : Array Value → State → Outcome → State → Prop := fun a st o t =>
  (Qc a st o t ∧ ∃ L, FrameEnd st o t L mc ms ∧ ∀ q ∈ L, free q.base) ∨ ∃ q, o = .threw q ∧ vx_T XC st q t mc ms free
/-- a callee that returns or throws -/
def vx_Met (l : Launch) (y : MethodName) (ws : List Cond) (rm : Room) (Pc : Array Value → State → Prop) (Qc : Array Value → State → Outcome → State → Prop) (XC : String → State → State → Prop) (mc ms : Nat) (free : Addr → Prop) : Prop :=
  MetFree l y (headSpec ws rm) Pc (fun _ _ _ _ _ => True) (vx_Q Qc XC mc ms free)
def vx_Post (XC : String → State → State → Prop) (mc ms : Nat) (free : Addr → Prop) : Pt → Array Value → Addr → Pt → Prop := fun A a q B =>
  ∃ (g : JFrame) (mk : MethodId) (t : State) (L : List Loc) (E : String) (ce : Cell), B.U.heap = t.heap ∧ B.U.vm = t.vm ∧ XC E (A.U.calling g mk a) t ∧ t.heap[q]? = some ce ∧ ce.vm = .none ∧ A.U.vm.findClass E = some ce.cls ∧ B.locs = A.locs ++ L ∧ (∀ z ∈ L, free z.base) ∧ B.cells = A.cells + mc ∧ B.slots = A.slots + ms
def vx_Back (l : Launch) (R : Room) (p : Program) (e : Env) (below : List Frame) (s : State) (sargs : Array Value) (y : MethodName) (len W9 : Nat)
    (Pre : Pt → Array Value → Prop) (Post : Pt → Array Value → Option Value → Pt → Prop) (PostX : Pt → Array Value → Addr → Pt → Prop) : Prop :=
  ∀ (m : MethodId) (meth : Method) (c : Code) (A : Pt) (g : JFrame) (ig : Instr) (mk : MethodId) (a : Array Value),
    Stand p l e R s m sargs below meth c A.U A.locs A.cells A.slots → g.method = m → g.locals.size = c.maxLocals → decode c.code g.pc = .ok (ig, len) →
    2 * g.monitorRoom + (g.stack.map fun v => v.category).sum ≤ W9 → A.U.methodNamed? y = some mk → Pre A a →
    (∃ (v : Option Value) (B : Pt), Stand p l e R s m sargs below meth c B.U B.locs B.cells B.slots ∧ Post A a v B ∧
      Steps p.tables e below (doInvoke e (A.U.setTop g) [] mk a).1 (B.U.setTop { g with pc := g.pc + len, stack := v.toList ++ g.stack })) ∨
    (∃ (q : Addr) (B : Pt), Stand p l e R s m sargs below meth c B.U B.locs B.cells B.slots ∧ PostX A a q B ∧
      Steps p.tables e below (doInvoke e (A.U.setTop g) [] mk a).1 ((B.U.setTop g).pushFrame (.throwing q)))
section Payer
variable {l : Launch} {R : Room} {p : Program} {e : Env} {below : List Frame} {s : State} {sargs : Array Value} {y : MethodName} {len W9 : Nat}
theorem vx_back {ws : List Cond} {rm : Room} {Pc : Array Value → State → Prop} {Qc : Array Value → State → Outcome → State → Prop} {XC : String → State → State → Prop} {mc ms : Nat} {free : Addr → Prop} {bytes : ByteArray} {maxL : Nat} {ret : Option FieldType}
    (hM : vx_Met l y ws rm Pc Qc XC mc ms free) (hblind : FrameBlind Pc) (hrc : rm.cells = mc) (hrs : rm.slots = ms)
    (hframes : rm.frames + 1 ≤ R.frames) (hlocals : W9 + (maxL + 11) + rm.locals ≤ R.locals)
    (hws : ∀ w ∈ ws, ∀ a' U, s.WarmedH U.vm → w.before a' U = true) (hcode : Cond.code y bytes maxL ret ∈ ws) (hinit : ∀ a' U, s.WarmedH U.vm → (Cond.initialized y.cls).before a' U = true) :
    vx_Back l R p e below s sargs y len W9 (PreOf R mc ms Pc) (PostOf Qc mc ms free) (vx_Post XC mc ms free) := by
  intro m meth c A g ig mk a X hg hsize hdg hW hn hp
  have h1 : (headSpec ws rm).pre.before a A.U = true := atoms_intro fun w hw => hws w hw _ _ X.warmed
  have h2 : (Cond.code y bytes maxL ret).before a A.U = true := hws _ hcode _ _ X.warmed
  have h3 : (Cond.initialized y.cls).before a A.U = true := hinit _ _ X.warmed
  have h4 : A.cells + (headSpec ws rm).room.cells ≤ R.cells := by rw [show (headSpec ws rm).room.cells = mc from hrc]; exact hp.1
  have h5 : A.slots + (headSpec ws rm).room.slots ≤ R.slots := by rw [show (headSpec ws rm).room.slots = ms from hrs]; exact hp.2.1
  have hPc : Pc a (A.U.calling g mk a) := hblind _ _ _ _ hp.2.2
  obtain ⟨U, Ls, c0, s0⟩ := A
  dsimp only [Pt.U, Pt.locs, Pt.cells, Pt.slots] at h1 h2 h3 h4 h5 X hn hPc ⊢
  obtain ⟨methY, cY, hmY, hcY, -, hlY, -, -, -, -⟩ := Cond.code_spec hn h2
  obtain ⟨kY, hkY, -⟩ := className_of_methodNamed hn
  have hinitY : kY.init = .initialized := Cond.initialized_spec (findClass_of_methodNamed hn) hkY h3
  have h : At U g.method c below := by rw [hg]; exact X.here
  have hlocals9 : W9 + (maxL + 11) + (headSpec ws rm).room.locals ≤ R.locals := hlocals
  have happ : (headSpec ws rm).appliesLoose y e.platform (U.calling g mk a) = true :=
    Spec.appliesLoose_calling (g := g) h hdg hn hkY hinitY
      (X.room_calling (g := g) (R' := (headSpec ws rm).room) hsize hmY hcY hframes (by rw [hlY]; omega) h4 h5) h1
  obtain ⟨mid, hmid⟩ := h.above
  have hfr : (U.setTop g).frames = (.java g :: mid) ++ below := by rw [State.frames_setTop' g h.top, hmid]; rfl
  obtain ⟨o, s₂, hsteps, -, hend, hq⟩ := Steps.callFree hM p X.admits X.cas X.clock (acts := []) hfr happ hPc trivial
  have hq' : vx_Q Qc XC mc ms free a (U.calling g mk a) o s₂ := hq
  rw [State.frames_setTop' g h.top] at hend
  obtain ⟨g₀, hg0⟩ := Option.isSome_iff_exists.mp h.top
  obtain ⟨r, hr⟩ := State.topJava?_eq_some.mp hg0
  have hr' : (({ U with heap := s₂.heap, slotsUsed := s₂.slotsUsed } : State).setVm s₂.vm).frames = .java g₀ :: r := hr
  rcases hq' with ⟨hqc, L, hfe, hL⟩ | ⟨q, rfl, E, ce, L, hx, hce, hcv, hcl, hW₂, hsm, hL⟩
  · obtain ⟨⟨v, rfl⟩, hW₂, e2, q2, q3, q4, q5, q6⟩ := id hfe
    have e3 : s₂ = ({ (U.calling g mk a).setFrames s₂.frames with heap := s₂.heap, slotsUsed := s₂.slotsUsed } : State).setVm s₂.vm := by
      have : s₂ = ({ s₂ with vm := (U.calling g mk a).vm } : State).setVm s₂.vm := rfl
      rw [e2] at this
      exact this
    obtain ⟨c₂, i₂, len₂, hc₂, hd₂, hf₂⟩ := hend
    have hW' : U.WarmedH s₂.vm := hW₂
    have hcc : c₂ = c := by
      have h1 : s₂.code? g.method = U.code? g.method := by
        rw [State.code?_eq, State.code?_eq, hW'.alike.method?]
      exact Option.some.inj (hc₂.symm.trans (h1.trans h.code))
    subst hcc
    have hlen : len₂ = len := by rw [hdg] at hd₂; cases hd₂; rfl
    subst hlen
    have hs₂ : s₂ = (({ U with heap := s₂.heap, slotsUsed := s₂.slotsUsed } : State).setVm s₂.vm).setTop { g with pc := g.pc + len₂, stack := v.toList ++ g.stack } := by
      refine e3.trans ?_
      rw [hf₂, State.calling_eq h.top, State.setFrames_setFrames, State.setTop_of_frames _ hr', hr]
      rfl
    have hsame : U.sameButNew ({ U with heap := s₂.heap, slotsUsed := s₂.slotsUsed } : State) L mc ms := by
      refine ⟨?_, q2, q3, q4, q5, q6⟩
      obtain ⟨t, ht, -⟩ := State.frames_cons hr
      show ({ U with heap := s₂.heap, slotsUsed := s₂.slotsUsed } : State) = { U.setFrames U.frames with heap := s₂.heap, slotsUsed := s₂.slotsUsed }
      rw [State.setFrames_self ht]
    subst hg
    refine Or.inl ⟨v, ⟨(({ U with heap := s₂.heap, slotsUsed := s₂.slotsUsed } : State).setVm s₂.vm), Ls ++ L, c0 + mc, s0 + ms⟩,
      ⟨X.admits, X.cas, X.clock, X.frames, X.room, X.hears, X.method, X.code, (X.here.setHeapUsed s₂.heap s₂.slotsUsed).setVm hW'.alike, X.tail, State.WarmedH.trans X.warmed hW', X.limits, X.bytes, X.same.trans (hsame.setVm s.vm)⟩,
      ⟨g, mk, s₂, L, rfl, rfl, hqc, rfl, hL, rfl, rfl⟩, ?_⟩
    show Steps p.tables e below _ ((({ U with heap := s₂.heap, slotsUsed := s₂.slotsUsed } : State).setVm s₂.vm).setTop { g with pc := g.pc + len₂, stack := v.toList ++ g.stack })
    rw [← hs₂]
    exact hsteps
  · obtain ⟨e2, q2, q3, q4, q5, q6⟩ := id hsm
    have e3 : s₂ = ({ (U.calling g mk a).setFrames s₂.frames with heap := s₂.heap, slotsUsed := s₂.slotsUsed } : State).setVm s₂.vm := by
      have : s₂ = ({ s₂ with vm := (U.calling g mk a).vm } : State).setVm s₂.vm := rfl
      rw [e2] at this
      exact this
    have hf₂ : s₂.frames = .throwing q :: .java g :: U.frames.tail := hend
    have hW' : U.WarmedH s₂.vm := hW₂
    have hs₂ : s₂ = ((({ U with heap := s₂.heap, slotsUsed := s₂.slotsUsed } : State).setVm s₂.vm).setTop g).pushFrame (.throwing q) := by
      refine e3.trans ?_
      rw [hf₂, State.calling_eq h.top, State.setFrames_setFrames, State.pushFrame, State.frames_setTop _ hr', State.setTop_of_frames _ hr', State.setFrames_setFrames, hr]
      rfl
    have hsame : U.sameButNew ({ U with heap := s₂.heap, slotsUsed := s₂.slotsUsed } : State) L mc ms := by
      refine ⟨?_, q2, q3, q4, q5, q6⟩
      obtain ⟨t, ht, -⟩ := State.frames_cons hr
      show ({ U with heap := s₂.heap, slotsUsed := s₂.slotsUsed } : State) = { U.setFrames U.frames with heap := s₂.heap, slotsUsed := s₂.slotsUsed }
      rw [State.setFrames_self ht]
    subst hg
    refine Or.inr ⟨q, ⟨(({ U with heap := s₂.heap, slotsUsed := s₂.slotsUsed } : State).setVm s₂.vm), Ls ++ L, c0 + mc, s0 + ms⟩,
      ⟨X.admits, X.cas, X.clock, X.frames, X.room, X.hears, X.method, X.code, (X.here.setHeapUsed s₂.heap s₂.slotsUsed).setVm hW'.alike, X.tail, State.WarmedH.trans X.warmed hW', X.limits, X.bytes, X.same.trans (hsame.setVm s.vm)⟩,
      ⟨g, mk, s₂, L, E, ce, rfl, rfl, hx, hce, hcv, hcl, rfl, hL, rfl, rfl⟩, ?_⟩
    show Steps p.tables e below _ (((({ U with heap := s₂.heap, slotsUsed := s₂.slotsUsed } : State).setVm s₂.vm).setTop g).pushFrame (.throwing q))
    rw [← hs₂]
    exact hsteps
end Payer
section Calls
variable {p : Program} {l : Launch} {e : Env} {R : Room} {s : State} {m : MethodId} {args : Array Value} {below : List Frame} {meth : Method} {c : Code} {T : State} {locs : List Loc} {cells slots : Nat}
theorem vx_callV (X : Stand p l e R s m args below meth c T locs cells slots) (hexec : p.tables.exec = Jvm.exec) {own C : String} {index : Nat} {y : MethodName} {bytes : ByteArray} {maxL : Nat} {ret : Option FieldType}
    (hown : s.vm.findClass own = some m.cls) (hlink : (Cond.methodLink own index y).before args s = true) (hinst : (Cond.instanceMethod y).before args s = true) (hsel : (Cond.selects C y y).before args s = true)
    (hcode : (Cond.code y bytes maxL ret).before args s = true) (hy : y.cls ≠ "java/lang/invoke/MethodHandle" ∧ y.cls ≠ "java/lang/invoke/VarHandle")
    {W9 : Nat} {Pre : Pt → Array Value → Prop} {Post : Pt → Array Value → Option Value → Pt → Prop} {PostX : Pt → Array Value → Addr → Pt → Prop} (hK : vx_Back l R p e below s args y 3 W9 Pre Post PostX)
    {b : Addr} {cellB : Cell} (hcell : T.heap[b]? = some cellB) (hobj : cellB.vm.isStatics = false) (hcls : s.vm.findClass C = some cellB.cls)
    {g : JFrame} (hg : g.method = m) (hsize : g.locals.size = c.maxLocals) {argsL rest : List Value} (hlen : ∀ sig, parseMethodDescriptor y.desc = some sig → argsL.length = sig.parameters.length)
    (hstack : g.stack = argsL.reverse ++ .ref b :: rest) (hW : 2 * g.monitorRoom + (rest.map fun v => v.category).sum ≤ W9) (hdg : decode c.code g.pc = .ok (.invokevirtual index, 3))
    (hpre : ∀ vm₁, s.WarmedH vm₁ → Pre ⟨T.setVm vm₁, locs, cells, slots⟩ (Value.ref b :: argsL).toArray) :
    (∃ (v : Option Value) (vm₁ : Vm) (B : Pt), s.WarmedH vm₁ ∧ Stand p l e R s m args below meth c B.U B.locs B.cells B.slots ∧ Post ⟨T.setVm vm₁, locs, cells, slots⟩ (Value.ref b :: argsL).toArray v B ∧
      ∀ target, Steps p.tables e below (B.U.setTop { g with pc := g.pc + 3, stack := v.toList ++ rest }) target → Steps p.tables e below (T.setTop g) target) ∨
    (∃ (q : Addr) (vm₁ : Vm) (B : Pt), s.WarmedH vm₁ ∧ Stand p l e R s m args below meth c B.U B.locs B.cells B.slots ∧ PostX ⟨T.setVm vm₁, locs, cells, slots⟩ (Value.ref b :: argsL).toArray q B ∧
      Steps p.tables e below (T.setTop g) ((B.U.setTop { g with stack := rest }).pushFrame (.throwing q))) := by
  obtain ⟨mk, methM, hnamed, hmethM, hstM, habM⟩ := Cond.instanceMethod_spec hinst
  obtain ⟨methM', cM, hmethM', -, -, -, -, -, -, hsigM⟩ := Cond.code_spec hnamed hcode
  cases hmethM.symm.trans hmethM'
  obtain ⟨c2, r2, m2, q1, q2, q3, q4, kP, hkP, hkPi⟩ := Cond.selects_spec hsel
  cases hcls.symm.trans q1
  cases (State.methodFound?_of_named hnamed hy).symm.trans q2
  cases hnamed.symm.trans q3
  have hselP : selectMethod e.platform s.vm cellB.cls mk = .method mk := by rw [Launch.admits_selectMethod X.admits]; exact q4
  obtain ⟨vm₁, X₁, hstep₁⟩ := X.invokevirtual hexec hown hlink hnamed hmethM hstM hkP hkPi hy (a := b) (cell := cellB) hcell
    (fun z h => by rw [h] at hobj; cases hobj) hselP hmethM habM hkP hkPi (g := g) hg (argsL := argsL) (rest := rest) (hlen _ hsigM) hstack hdg
  rcases hK m meth c ⟨T.setVm vm₁, locs, cells, slots⟩ { g with stack := rest } (.invokevirtual index) mk (Value.ref b :: argsL).toArray X₁ hg hsize hdg hW (X₁.named hnamed) (hpre vm₁ X₁.warmed) with ⟨v, B, X', hpost, hsteps⟩ | ⟨q, B, X', hpost, hsteps⟩
  · exact Or.inl ⟨v, vm₁, B, X₁.warmed, X', hpost, fun target h => hstep₁ _ fun acts => by rw [doInvoke_state]; exact hsteps.trans h⟩
  · exact Or.inr ⟨q, vm₁, B, X₁.warmed, X', hpost, hstep₁ _ fun acts => by rw [doInvoke_state]; exact hsteps⟩
theorem vx_callS (X : Stand p l e R s m args below meth c T locs cells slots) (hexec : p.tables.exec = Jvm.exec) {own : String} {index : Nat} {y : MethodName} {bytes : ByteArray} {maxL : Nat} {ret : Option FieldType}
    (hown : s.vm.findClass own = some m.cls) (hlink : (Cond.methodLink own index y).before args s = true) (hstat : (Cond.static y).before args s = true) (hinit : (Cond.initialized y.cls).before args s = true)
    (hcode : (Cond.code y bytes maxL ret).before args s = true) (hy : y.cls ≠ "java/lang/invoke/MethodHandle" ∧ y.cls ≠ "java/lang/invoke/VarHandle")
    {W9 : Nat} {Pre : Pt → Array Value → Prop} {Post : Pt → Array Value → Option Value → Pt → Prop} {PostX : Pt → Array Value → Addr → Pt → Prop} (hK : vx_Back l R p e below s args y 3 W9 Pre Post PostX)
    {g : JFrame} (hg : g.method = m) (hsize : g.locals.size = c.maxLocals) {argsL rest : List Value} (hlen : ∀ sig, parseMethodDescriptor y.desc = some sig → argsL.length = sig.parameters.length)
    (hstack : g.stack = argsL.reverse ++ rest) (hW : 2 * g.monitorRoom + (rest.map fun v => v.category).sum ≤ W9) (hdg : decode c.code g.pc = .ok (.invokestatic index, 3))
    (hpre : ∀ vm₁, s.WarmedH vm₁ → Pre ⟨T.setVm vm₁, locs, cells, slots⟩ argsL.toArray) :
    (∃ (v : Option Value) (vm₁ : Vm) (B : Pt), s.WarmedH vm₁ ∧ Stand p l e R s m args below meth c B.U B.locs B.cells B.slots ∧ Post ⟨T.setVm vm₁, locs, cells, slots⟩ argsL.toArray v B ∧
      ∀ target, Steps p.tables e below (B.U.setTop { g with pc := g.pc + 3, stack := v.toList ++ rest }) target → Steps p.tables e below (T.setTop g) target) ∨
    (∃ (q : Addr) (vm₁ : Vm) (B : Pt), s.WarmedH vm₁ ∧ Stand p l e R s m args below meth c B.U B.locs B.cells B.slots ∧ PostX ⟨T.setVm vm₁, locs, cells, slots⟩ argsL.toArray q B ∧
      Steps p.tables e below (T.setTop g) ((B.U.setTop { g with stack := rest }).pushFrame (.throwing q))) := by
  obtain ⟨mk, hnamed⟩ := Cond.code_named hcode
  obtain ⟨methM, cM, hmethM, -, -, -, -, -, -, hsigM⟩ := Cond.code_spec hnamed hcode
  have hstatic : methM.isStatic = true := Cond.static_spec hnamed hmethM hstat
  obtain ⟨kP, hkP, -⟩ := className_of_methodNamed hnamed
  have hinitP : kP.init = .initialized := Cond.initialized_spec (findClass_of_methodNamed hnamed) hkP hinit
  obtain ⟨vm₁, X₁, hstep₁⟩ := X.invokestatic hexec hown hlink hnamed hmethM hstatic hkP hinitP hy (g := g) hg (argsL := argsL) (rest := rest) (hlen _ hsigM) hstack hdg
  rcases hK m meth c ⟨T.setVm vm₁, locs, cells, slots⟩ { g with stack := rest } (.invokestatic index) mk argsL.toArray X₁ hg hsize hdg hW (X₁.named hnamed) (hpre vm₁ X₁.warmed) with ⟨v, B, X', hpost, hsteps⟩ | ⟨q, B, X', hpost, hsteps⟩
  · exact Or.inl ⟨v, vm₁, B, X₁.warmed, X', hpost, fun target h => hstep₁ _ fun acts => by rw [doInvoke_state]; exact hsteps.trans h⟩
  · exact Or.inr ⟨q, vm₁, B, X₁.warmed, X', hpost, hstep₁ _ fun acts => by rw [doInvoke_state]; exact hsteps⟩
end Calls
theorem vx_cls {s : State} {T : State} {vm₁ : Vm} {E : String} {k : ClassId} (hW : s.WarmedH vm₁) (h : (T.setVm vm₁).vm.findClass E = some k) : s.vm.findClass E = some k := by
  have h1 : vm₁.findClass E = some k := h
  rw [hW.alike.findClass] at h1
  exact h1
/-- the method's frame g, with q thrown over it -/
def vx_W (p : Program) (l : Launch) (e : Env) (R : Room) (s : State) (m : MethodId) (args : Array Value) (below : List Frame) (meth : Method) (c : Code) (H : Heap) (locs : List Loc) (cells slots : Nat) (Q : State → Prop) (g : JFrame) (q : Addr) : Prop :=
  ∀ T : State, T.heap = H → Stand p l e R s m args below meth c T locs cells slots → ∃ t, Steps p.tables e below ((T.setTop g).pushFrame (.throwing q)) t ∧ Q t
def vx_Run (p : Program) (l : Launch) (e : Env) (R : Room) (s : State) (m : MethodId) (args : Array Value) (below : List Frame) (meth : Method) (c : Code) (H : Heap) (locs : List Loc) (cells slots mc ms : Nat) (g : JFrame) (rest : List Value) (Qa : State → Outcome → State → Prop) (XC : String → State → State → Prop) (free : Addr → Prop) : Prop :=
  ∀ T : State, T.heap = H → Stand p l e R s m args below meth c T locs cells slots →
    (∃ (v : Option Value) (st₀ t T' : State) (L : List Loc), st₀.heap = H ∧ Stand p l e R s m args below meth c T' (locs ++ L) (cells + mc) (slots + ms) ∧ (∀ q ∈ L, free q.base) ∧ T'.heap = t.heap ∧ T'.vm = t.vm ∧ Qa st₀ (.returned v) t ∧
      Goes p e below T g T' { g with pc := g.pc + 3, stack := v.toList ++ rest }) ∨
    (∃ (q : Addr) (st₀ t T' : State) (L : List Loc) (E : String) (ce : Cell), st₀.heap = H ∧ Stand p l e R s m args below meth c T' (locs ++ L) (cells + mc) (slots + ms) ∧ (∀ z ∈ L, free z.base) ∧ T'.heap = t.heap ∧ T'.vm = t.vm ∧ XC E st₀ t ∧ t.heap[q]? = some ce ∧ ce.vm = .none ∧ s.vm.findClass E = some ce.cls ∧
      Steps p.tables e below (T.setTop g) ((T'.setTop { g with stack := rest }).pushFrame (.throwing q)))
def vx_X {S : Type} (px : S → Prop) (B : String → S → State → Prop) (A : Nat → Prop) : String → State → State → Prop := fun E st t => ∃ u : S, px u ∧ B E u t ∧ va_F A st t
section Runs
variable {p : Program} {l : Launch} {e : Env} {R : Room} {s : State} {m : MethodId} {args : Array Value} {below : List Frame} {meth : Method} {c : Code} {H : Heap} {locs : List Loc} {cells slots : Nat}
variable {y : MethodName} {bytes cc : ByteArray} {maxL nL mc ms n index : Nat} {ret : Option FieldType} {ws : List Cond} {rm : Room} {Pc : Array Value → State → Prop} {Qc : Array Value → State → Outcome → State → Prop} {XC : String → State → State → Prop} {free : Addr → Prop} {Ts : List Cond} {own C : String} {b : Addr} {As rest : List Value} {g : JFrame}
theorem vx_callBack (cb : CallB R s args own index y bytes maxL ret ws rm mc ms n) (hM : vx_Met l y ws rm Pc Qc XC mc ms free) (hbl : FrameBlind Pc) : vx_Back l R p e below s args y 3 8 (PreOf R mc ms Pc) (PostOf Qc mc ms free) (vx_Post XC mc ms free) := by
  obtain ⟨hrc, hrs, hfr, hlo, hws, hcw, -, hini, -⟩ := cb
  exact vx_back (bytes := bytes) (maxL := maxL) (ret := ret) hM hbl hrc hrs hfr hlo hws hcw (fun a' U hW => word_at hW (Or.inl (by first | rfl | simp [Cond.onTables, Cond.keeps, Cond.steady])) hini)
theorem vx_runV (S : CallFix p m c cc nL s args Ts own) (hM : vx_Met l y ws rm Pc Qc XC mc ms free) (cw : CallW R s args own C index y bytes maxL ret ws rm mc ms n) (hp : PreV s H C b Pc As)
    (hg : g.method = m) (hn : As.length = n) (hsize : g.locals.size = nL) (hstack : g.stack = As.reverse ++ .ref b :: rest) (hW : 2 * g.monitorRoom + (rest.map fun v => v.category).sum ≤ 8) (hdg : decode cc g.pc = .ok (.invokevirtual index, 3)) (hf : cells + mc ≤ R.cells ∧ slots + ms ≤ R.slots) :
    vx_Run p l e R s m args below meth c H locs cells slots mc ms g rest (Qc (Value.ref b :: As).toArray) XC free := by
  have hK : vx_Back l R p e below s args y 3 8 (PreOf R mc ms Pc) (PostOf Qc mc ms free) (vx_Post XC mc ms free) := vx_callBack cw.1 hM hp.1
  obtain ⟨⟨-, -, -, -, -, -, hcode, -, hy, hlen, hl⟩, hin, hse⟩ := cw
  obtain ⟨hx, hb, hml, ho, -⟩ := S
  obtain ⟨-, ⟨cellB, hcB, hoB, hclB⟩, hPc⟩ := hp
  intro T hT X
  rcases vx_callV X hx (C := C) (bytes := bytes) (maxL := maxL) (ret := ret) ho hl hin hse hcode hy hK (by rw [hT]; exact hcB) hoB hclB hg (hsize.trans hml.symm) (argsL := As) (rest := rest) (fun sig h => hn.trans (hlen sig h)) hstack hW (by rw [hb]; exact hdg)
    (fun vm₁ hW₁ => ⟨hf.1, hf.2, hPc (T.setVm vm₁) hT hW₁⟩) with ⟨v, vm₁, ⟨U', l2, c2, s2⟩, hW₁, X', ⟨g', mk, t, L, e1, e2, hq, h1, hL, h2, h3⟩, st⟩ | ⟨q, vm₁, ⟨U', l2, c2, s2⟩, hW₁, X', ⟨g', mk, t, L, E, ce, e1, e2, hq, hce, hcv, hcl, h1, hL, h2, h3⟩, st⟩
  · dsimp only [Pt.U, Pt.locs, Pt.cells, Pt.slots] at X' e1 e2 h1 h2 h3 st
    subst h1; subst h2; subst h3
    exact Or.inl ⟨v, (T.setVm vm₁).calling g' mk (Value.ref b :: As).toArray, t, U', L, hT, X', hL, e1, e2, hq, st⟩
  · dsimp only [Pt.U, Pt.locs, Pt.cells, Pt.slots] at X' e1 e2 h1 h2 h3 st hcl
    subst h1; subst h2; subst h3
    exact Or.inr ⟨q, (T.setVm vm₁).calling g' mk (Value.ref b :: As).toArray, t, U', L, E, ce, hT, X', hL, e1, e2, hq, hce, hcv, vx_cls hW₁ hcl, st⟩
theorem vx_runS (S : CallFix p m c cc nL s args Ts own) (hM : vx_Met l y ws rm Pc Qc XC mc ms free) (cw : CallB R s args own index y bytes maxL ret ws rm mc ms n ∧ (Cond.static y).before args s = true) (hp : PreS s H Pc As)
    (hg : g.method = m) (hn : As.length = n) (hsize : g.locals.size = nL) (hstack : g.stack = As.reverse ++ rest) (hW : 2 * g.monitorRoom + (rest.map fun v => v.category).sum ≤ 8) (hdg : decode cc g.pc = .ok (.invokestatic index, 3)) (hf : cells + mc ≤ R.cells ∧ slots + ms ≤ R.slots) :
    vx_Run p l e R s m args below meth c H locs cells slots mc ms g rest (Qc As.toArray) XC free := by
  have hK : vx_Back l R p e below s args y 3 8 (PreOf R mc ms Pc) (PostOf Qc mc ms free) (vx_Post XC mc ms free) := vx_callBack cw.1 hM hp.1
  obtain ⟨⟨-, -, -, -, -, -, hcode, hini, hy, hlen, hl⟩, hstt⟩ := cw
  obtain ⟨hx, hb, hml, ho, -⟩ := S
  intro T hT X
  rcases vx_callS X hx (bytes := bytes) (maxL := maxL) (ret := ret) ho hl hstt hini hcode hy hK hg (hsize.trans hml.symm) (argsL := As) (rest := rest) (fun sig h => hn.trans (hlen sig h)) hstack hW (by rw [hb]; exact hdg)
    (fun vm₁ hW₁ => ⟨hf.1, hf.2, hp.2 (T.setVm vm₁) hT hW₁⟩) with ⟨v, vm₁, ⟨U', l2, c2, s2⟩, hW₁, X', ⟨g', mk, t, L, e1, e2, hq, h1, hL, h2, h3⟩, st⟩ | ⟨q, vm₁, ⟨U', l2, c2, s2⟩, hW₁, X', ⟨g', mk, t, L, E, ce, e1, e2, hq, hce, hcv, hcl, h1, hL, h2, h3⟩, st⟩
  · dsimp only [Pt.U, Pt.locs, Pt.cells, Pt.slots] at X' e1 e2 h1 h2 h3 st
    subst h1; subst h2; subst h3
    exact Or.inl ⟨v, (T.setVm vm₁).calling g' mk As.toArray, t, U', L, hT, X', hL, e1, e2, hq, st⟩
  · dsimp only [Pt.U, Pt.locs, Pt.cells, Pt.slots] at X' e1 e2 h1 h2 h3 st hcl
    subst h1; subst h2; subst h3
    exact Or.inr ⟨q, (T.setVm vm₁).calling g' mk As.toArray, t, U', L, E, ce, hT, X', hL, e1, e2, hq, hce, hcv, vx_cls hW₁ hcl, st⟩
end Runs
section Rows
variable {p : Program} {l : Launch} {e : Env} {R : Room} {s : State} {m : MethodId} {args : Array Value} {below : List Frame} {meth : Method} {c : Code} {H : Heap} {locs : List Loc} {cells slots : Nat} {Q : State → Prop}
variable {mc ms : Nat} {free : Addr → Prop} {A0 A1 : Nat → Prop} {H0 : Heap} {a : Array Value} {pc : Nat} {ls : Array Slot} {st0 rest : List Value}
theorem vx_keep {st₀ t T' : State} {L : List Loc} (h0 : st₀.heap = H) (e1 : T'.heap = t.heap) (hS : va_S A0 H0 H locs) (hA : ∀ q, q < H.size → A1 q → A0 q) (hf : ∀ q, free q → A0 q) (hL : ∀ q ∈ L, free q.base) (hF : va_F A1 st₀ t) :
    H.size ≤ T'.heap.size ∧ (∀ q : Nat, q < H.size → ¬ A1 q → T'.heap[q]? = H[q]?) ∧ va_S A0 H0 T'.heap (locs ++ L) := by
  obtain ⟨hz, hk⟩ := hF
  rw [h0] at hz hk
  exact ⟨by rw [e1]; exact hz, fun q h1 h2 => by rw [e1]; exact hk q h1 h2,
    ⟨Nat.le_trans hS.1 (by rw [e1]; exact hz), fun q h1 h2 => by rw [e1, hk q (Nat.lt_of_lt_of_le h1 hS.1) (fun z => h2 (hA q (Nat.lt_of_lt_of_le h1 hS.1) z))]; exact hS.2.1 q h1 h2, fun q hq => by
      rcases List.mem_append.mp hq with h | h
      · exact hS.2.2 q h
      · exact hf _ (hL q h)⟩⟩
theorem vx_calli {S SX : Type} {post : Int32 → S → Prop} {px : SX → Prop} {B : S → State → Prop} {BX : String → SX → State → Prop} {AX : Nat → Prop} (hr : vx_Run p l e R s m args below meth c H locs cells slots mc ms (F0 m pc ls st0) rest (va_Qi post B A1 a) (vx_X px BX AX) free) (hS : va_S A0 H0 H locs) (hA : ∀ q, q < H.size → A1 q → A0 q) (hf : ∀ q, free q → A0 q) (hAX : ∀ q, q < H.size → AX q → A0 q)
    (kx : ∀ (E : String) (ce : Cell) (q9 : Addr) (u : SX) (t : State) (H1 : Heap) (locs1 : List Loc), t.heap = H1 → s.vm.Alike t.vm → px u → BX E u t → H.size ≤ H1.size → (∀ q : Nat, q < H.size → ¬ AX q → H1[q]? = H[q]?) → va_S A0 H0 H1 locs1 → H1[q9]? = some ce → ce.vm = .none → s.vm.findClass E = some ce.cls → vx_W p l e R s m args below meth c H1 locs1 (cells + mc) (slots + ms) Q (F0 m pc ls rest) q9)
    (kk : ∀ (r : Int32) (u : S) (t : State) (H1 : Heap) (locs1 : List Loc), t.heap = H1 → s.vm.Alike t.vm → post r u → B u t → H.size ≤ H1.size → (∀ q : Nat, q < H.size → ¬ A1 q → H1[q]? = H[q]?) → va_S A0 H0 H1 locs1 → W p l e R s m args below meth c H1 locs1 (cells + mc) (slots + ms) Q (F0 m (pc + 3) ls (.int r :: rest))) : W p l e R s m args below meth c H locs cells slots Q (F0 m pc ls st0) := by
  intro T hT X
  rcases hr T hT X with ⟨v, st₀, t, T', L, h0, X', hL, e1, e2, ⟨⟨r, u, hv, hp, hb⟩, hF⟩, st⟩ | ⟨q, st₀, t, T', L, E, ce, h0, X', hL, e1, e2, ⟨u, hp, hb, hF⟩, hce, hcv, hcl, st⟩
  · cases hv
    obtain ⟨k1, k2, k3⟩ := vx_keep h0 e1 hS hA hf hL hF
    obtain ⟨t2, a1, b1⟩ := kk r u t T'.heap (locs ++ L) e1.symm (by rw [← e2]; exact X'.warmed.alike) hp hb k1 k2 k3 T' rfl X'
    exact ⟨t2, st t2 a1, b1⟩
  · obtain ⟨k1, k2, k3⟩ := vx_keep h0 e1 hS hAX hf hL hF
    obtain ⟨t2, a1, b1⟩ := kx E ce q u t T'.heap (locs ++ L) e1.symm (by rw [← e2]; exact X'.warmed.alike) hp hb k1 k2 k3 (by rw [e1]; exact hce) hcv hcl T' rfl X'
    exact ⟨t2, st.trans a1, b1⟩
theorem vx_calll {S SX : Type} {post : Int64 → S → Prop} {px : SX → Prop} {B : S → State → Prop} {BX : String → SX → State → Prop} {AX : Nat → Prop} (hr : vx_Run p l e R s m args below meth c H locs cells slots mc ms (F0 m pc ls st0) rest (va_Ql post B A1 a) (vx_X px BX AX) free) (hS : va_S A0 H0 H locs) (hA : ∀ q, q < H.size → A1 q → A0 q) (hf : ∀ q, free q → A0 q) (hAX : ∀ q, q < H.size → AX q → A0 q)
    (kx : ∀ (E : String) (ce : Cell) (q9 : Addr) (u : SX) (t : State) (H1 : Heap) (locs1 : List Loc), t.heap = H1 → s.vm.Alike t.vm → px u → BX E u t → H.size ≤ H1.size → (∀ q : Nat, q < H.size → ¬ AX q → H1[q]? = H[q]?) → va_S A0 H0 H1 locs1 → H1[q9]? = some ce → ce.vm = .none → s.vm.findClass E = some ce.cls → vx_W p l e R s m args below meth c H1 locs1 (cells + mc) (slots + ms) Q (F0 m pc ls rest) q9)
    (kk : ∀ (r : Int64) (u : S) (t : State) (H1 : Heap) (locs1 : List Loc), t.heap = H1 → s.vm.Alike t.vm → post r u → B u t → H.size ≤ H1.size → (∀ q : Nat, q < H.size → ¬ A1 q → H1[q]? = H[q]?) → va_S A0 H0 H1 locs1 → W p l e R s m args below meth c H1 locs1 (cells + mc) (slots + ms) Q (F0 m (pc + 3) ls (.long r :: rest))) : W p l e R s m args below meth c H locs cells slots Q (F0 m pc ls st0) := by
  intro T hT X
  rcases hr T hT X with ⟨v, st₀, t, T', L, h0, X', hL, e1, e2, ⟨⟨r, u, hv, hp, hb⟩, hF⟩, st⟩ | ⟨q, st₀, t, T', L, E, ce, h0, X', hL, e1, e2, ⟨u, hp, hb, hF⟩, hce, hcv, hcl, st⟩
  · cases hv
    obtain ⟨k1, k2, k3⟩ := vx_keep h0 e1 hS hA hf hL hF
    obtain ⟨t2, a1, b1⟩ := kk r u t T'.heap (locs ++ L) e1.symm (by rw [← e2]; exact X'.warmed.alike) hp hb k1 k2 k3 T' rfl X'
    exact ⟨t2, st t2 a1, b1⟩
  · obtain ⟨k1, k2, k3⟩ := vx_keep h0 e1 hS hAX hf hL hF
    obtain ⟨t2, a1, b1⟩ := kx E ce q u t T'.heap (locs ++ L) e1.symm (by rw [← e2]; exact X'.warmed.alike) hp hb k1 k2 k3 (by rw [e1]; exact hce) hcv hcl T' rfl X'
    exact ⟨t2, st.trans a1, b1⟩
theorem vx_callf {S SX : Type} {post : UInt32 → S → Prop} {px : SX → Prop} {B : S → State → Prop} {BX : String → SX → State → Prop} {AX : Nat → Prop} (hr : vx_Run p l e R s m args below meth c H locs cells slots mc ms (F0 m pc ls st0) rest (va_Qf post B A1 a) (vx_X px BX AX) free) (hS : va_S A0 H0 H locs) (hA : ∀ q, q < H.size → A1 q → A0 q) (hf : ∀ q, free q → A0 q) (hAX : ∀ q, q < H.size → AX q → A0 q)
    (kx : ∀ (E : String) (ce : Cell) (q9 : Addr) (u : SX) (t : State) (H1 : Heap) (locs1 : List Loc), t.heap = H1 → s.vm.Alike t.vm → px u → BX E u t → H.size ≤ H1.size → (∀ q : Nat, q < H.size → ¬ AX q → H1[q]? = H[q]?) → va_S A0 H0 H1 locs1 → H1[q9]? = some ce → ce.vm = .none → s.vm.findClass E = some ce.cls → vx_W p l e R s m args below meth c H1 locs1 (cells + mc) (slots + ms) Q (F0 m pc ls rest) q9)
    (kk : ∀ (r : UInt32) (u : S) (t : State) (H1 : Heap) (locs1 : List Loc), t.heap = H1 → s.vm.Alike t.vm → post r u → B u t → H.size ≤ H1.size → (∀ q : Nat, q < H.size → ¬ A1 q → H1[q]? = H[q]?) → va_S A0 H0 H1 locs1 → W p l e R s m args below meth c H1 locs1 (cells + mc) (slots + ms) Q (F0 m (pc + 3) ls (.float r :: rest))) : W p l e R s m args below meth c H locs cells slots Q (F0 m pc ls st0) := by
  intro T hT X
  rcases hr T hT X with ⟨v, st₀, t, T', L, h0, X', hL, e1, e2, ⟨⟨r, u, hv, hp, hb⟩, hF⟩, st⟩ | ⟨q, st₀, t, T', L, E, ce, h0, X', hL, e1, e2, ⟨u, hp, hb, hF⟩, hce, hcv, hcl, st⟩
  · cases hv
    obtain ⟨k1, k2, k3⟩ := vx_keep h0 e1 hS hA hf hL hF
    obtain ⟨t2, a1, b1⟩ := kk r u t T'.heap (locs ++ L) e1.symm (by rw [← e2]; exact X'.warmed.alike) hp hb k1 k2 k3 T' rfl X'
    exact ⟨t2, st t2 a1, b1⟩
  · obtain ⟨k1, k2, k3⟩ := vx_keep h0 e1 hS hAX hf hL hF
    obtain ⟨t2, a1, b1⟩ := kx E ce q u t T'.heap (locs ++ L) e1.symm (by rw [← e2]; exact X'.warmed.alike) hp hb k1 k2 k3 (by rw [e1]; exact hce) hcv hcl T' rfl X'
    exact ⟨t2, st.trans a1, b1⟩
theorem vx_calld {S SX : Type} {post : UInt64 → S → Prop} {px : SX → Prop} {B : S → State → Prop} {BX : String → SX → State → Prop} {AX : Nat → Prop} (hr : vx_Run p l e R s m args below meth c H locs cells slots mc ms (F0 m pc ls st0) rest (va_Qd post B A1 a) (vx_X px BX AX) free) (hS : va_S A0 H0 H locs) (hA : ∀ q, q < H.size → A1 q → A0 q) (hf : ∀ q, free q → A0 q) (hAX : ∀ q, q < H.size → AX q → A0 q)
    (kx : ∀ (E : String) (ce : Cell) (q9 : Addr) (u : SX) (t : State) (H1 : Heap) (locs1 : List Loc), t.heap = H1 → s.vm.Alike t.vm → px u → BX E u t → H.size ≤ H1.size → (∀ q : Nat, q < H.size → ¬ AX q → H1[q]? = H[q]?) → va_S A0 H0 H1 locs1 → H1[q9]? = some ce → ce.vm = .none → s.vm.findClass E = some ce.cls → vx_W p l e R s m args below meth c H1 locs1 (cells + mc) (slots + ms) Q (F0 m pc ls rest) q9)
    (kk : ∀ (r : UInt64) (u : S) (t : State) (H1 : Heap) (locs1 : List Loc), t.heap = H1 → s.vm.Alike t.vm → post r u → B u t → H.size ≤ H1.size → (∀ q : Nat, q < H.size → ¬ A1 q → H1[q]? = H[q]?) → va_S A0 H0 H1 locs1 → W p l e R s m args below meth c H1 locs1 (cells + mc) (slots + ms) Q (F0 m (pc + 3) ls (.double r :: rest))) : W p l e R s m args below meth c H locs cells slots Q (F0 m pc ls st0) := by
  intro T hT X
  rcases hr T hT X with ⟨v, st₀, t, T', L, h0, X', hL, e1, e2, ⟨⟨r, u, hv, hp, hb⟩, hF⟩, st⟩ | ⟨q, st₀, t, T', L, E, ce, h0, X', hL, e1, e2, ⟨u, hp, hb, hF⟩, hce, hcv, hcl, st⟩
  · cases hv
    obtain ⟨k1, k2, k3⟩ := vx_keep h0 e1 hS hA hf hL hF
    obtain ⟨t2, a1, b1⟩ := kk r u t T'.heap (locs ++ L) e1.symm (by rw [← e2]; exact X'.warmed.alike) hp hb k1 k2 k3 T' rfl X'
    exact ⟨t2, st t2 a1, b1⟩
  · obtain ⟨k1, k2, k3⟩ := vx_keep h0 e1 hS hAX hf hL hF
    obtain ⟨t2, a1, b1⟩ := kx E ce q u t T'.heap (locs ++ L) e1.symm (by rw [← e2]; exact X'.warmed.alike) hp hb k1 k2 k3 (by rw [e1]; exact hce) hcv hcl T' rfl X'
    exact ⟨t2, st.trans a1, b1⟩
theorem vx_callv {S SX : Type} {post : S → Prop} {px : SX → Prop} {B : S → State → Prop} {BX : String → SX → State → Prop} {AX : Nat → Prop} (hr : vx_Run p l e R s m args below meth c H locs cells slots mc ms (F0 m pc ls st0) rest (va_Qv post B A1 a) (vx_X px BX AX) free) (hS : va_S A0 H0 H locs) (hA : ∀ q, q < H.size → A1 q → A0 q) (hf : ∀ q, free q → A0 q) (hAX : ∀ q, q < H.size → AX q → A0 q)
    (kx : ∀ (E : String) (ce : Cell) (q9 : Addr) (u : SX) (t : State) (H1 : Heap) (locs1 : List Loc), t.heap = H1 → s.vm.Alike t.vm → px u → BX E u t → H.size ≤ H1.size → (∀ q : Nat, q < H.size → ¬ AX q → H1[q]? = H[q]?) → va_S A0 H0 H1 locs1 → H1[q9]? = some ce → ce.vm = .none → s.vm.findClass E = some ce.cls → vx_W p l e R s m args below meth c H1 locs1 (cells + mc) (slots + ms) Q (F0 m pc ls rest) q9)
    (kk : ∀ (u : S) (t : State) (H1 : Heap) (locs1 : List Loc), t.heap = H1 → s.vm.Alike t.vm → post u → B u t → H.size ≤ H1.size → (∀ q : Nat, q < H.size → ¬ A1 q → H1[q]? = H[q]?) → va_S A0 H0 H1 locs1 → W p l e R s m args below meth c H1 locs1 (cells + mc) (slots + ms) Q (F0 m (pc + 3) ls (rest))) : W p l e R s m args below meth c H locs cells slots Q (F0 m pc ls st0) := by
  intro T hT X
  rcases hr T hT X with ⟨v, st₀, t, T', L, h0, X', hL, e1, e2, ⟨⟨u, hv, hp, hb⟩, hF⟩, st⟩ | ⟨q, st₀, t, T', L, E, ce, h0, X', hL, e1, e2, ⟨u, hp, hb, hF⟩, hce, hcv, hcl, st⟩
  · cases hv
    obtain ⟨k1, k2, k3⟩ := vx_keep h0 e1 hS hA hf hL hF
    obtain ⟨t2, a1, b1⟩ := kk u t T'.heap (locs ++ L) e1.symm (by rw [← e2]; exact X'.warmed.alike) hp hb k1 k2 k3 T' rfl X'
    exact ⟨t2, st t2 a1, b1⟩
  · obtain ⟨k1, k2, k3⟩ := vx_keep h0 e1 hS hAX hf hL hF
    obtain ⟨t2, a1, b1⟩ := kx E ce q u t T'.heap (locs ++ L) e1.symm (by rw [← e2]; exact X'.warmed.alike) hp hb k1 k2 k3 (by rw [e1]; exact hce) hcv hcl T' rfl X'
    exact ⟨t2, st.trans a1, b1⟩
/-- caught by the row x of this method's table; the rows ahead don't take it -/
theorem vx_catch {own name : String} {E : String} {ce : Cell} {q : Addr} (hown : s.vm.findClass own = some m.cls) (pre : List ExceptionTableEntry) (x : ExceptionTableEntry) (suf : List ExceptionTableEntry) (hsplit : c.exceptionTable.toList = pre ++ x :: suf)
    (hpass : ∀ z ∈ pre, covers z pc = false ∨ (z.catchType ≠ 0 ∧ ∃ nm : String, (Cond.classLink own z.catchType nm).before args s = true ∧ va_Nc E nm s)) (hx : covers x pc = true) (h0 : x.catchType ≠ 0)
    (hlink : (Cond.classLink own x.catchType name).before args s = true) (hcast : (Cond.castable E name).before args s = true) (hcell : H[q]? = some ce) (hv : ce.vm = .none) (hcl : s.vm.findClass E = some ce.cls)
    (kk : W p l e R s m args below meth c H locs cells slots Q (F0 m x.handlerPc ls [.ref q])) : vx_W p l e R s m args below meth c H locs cells slots Q (F0 m pc ls rest) q := by
  intro T hT X
  have hpl : e.platform.magicAccessors = ({} : Platform).magicAccessors := by rw [X.admits.platform]
  obtain ⟨c3, c4, hc3, hc4, hasg⟩ := Cond.castable_spec hcast
  cases Option.some.inj (hc3.symm.trans hcl)
  obtain ⟨c5, hc5, hcl5⟩ := Cond.classLink_spec hown hlink e.platform hpl
  cases Option.some.inj (hc4.symm.trans hc5)
  obtain ⟨vm', X', st⟩ := X.thenCaughtThrough q (g := F0 m pc ls rest) rfl (Steps.refl _) (by rw [hT]; exact hcell) (by rw [hv]; rfl) (by obtain ⟨k9, h9, -⟩ := Vm.findClass_spec hcl; exact ⟨k9, h9⟩) pre x suf hsplit
    (fun z hz => by
      rcases hpass z hz with h | ⟨hz0, nm, hl1, hn1⟩
      · exact Or.inl h
      · obtain ⟨c6, hc6, hcl6⟩ := Cond.classLink_spec hown hl1 e.platform hpl
        obtain ⟨a8, b8, h1, h2, h3⟩ := hn1
        cases Option.some.inj (h1.symm.trans hcl)
        cases Option.some.inj (h2.symm.trans hc6)
        exact Or.inr ⟨hz0, _, hcl6, h3⟩) hx (Or.inr ⟨h0, c4, hcl5, hasg⟩)
  obtain ⟨t, a1, b1⟩ := kk (T.setVm vm') hT X'
  exact ⟨t, st.trans a1, b1⟩
end Rows
section Ends
variable {p : Program} {l : Launch} {e : Env} {R : Room} {s : State} {m : MethodId} {args : Array Value} {below : List Frame} {meth : Method} {c : Code} {H : Heap} {locs : List Loc} {cells slots : Nat} {Q : State → Prop}
variable {mc ms : Nat} {free : Addr → Prop} {A0 A1 : Nat → Prop} {H0 : Heap} {a : Array Value} {ls : Array Slot} {st0 rest : List Value}
variable {Qc : Array Value → State → Outcome → State → Prop} {XC : String → State → State → Prop}
/-- what a body that may throw owes at its end -/
def vx_MQ (below : List Frame) (Qc : Array Value → State → Outcome → State → Prop) (XC : String → State → State → Prop) (a : Array Value) (s : State) (mc ms : Nat) (free : Addr → Prop) : State → Prop := fun t =>
  ∃ o, t.status = .running ∧ Ended t below o ∧ vx_Q Qc XC mc ms free a s o t
theorem vx_ret {g : JFrame} {mc ms : Nat} (k : W p l e R s m args below meth c H locs cells slots (MQ below Qc args s mc ms free) g) : W p l e R s m args below meth c H locs cells slots (vx_MQ below Qc XC args s mc ms free) g := by
  intro T hT X
  obtain ⟨t, a1, o, b1, b2, b3, b4⟩ := k T hT X
  exact ⟨t, a1, o, b1, b2, Or.inl ⟨b3, b4⟩⟩
/-- not caught here: it goes on to the caller -/
theorem vx_widen {g : JFrame} {q : Addr} {k n : Nat} (h1 : cells ≤ k) (h2 : slots ≤ n) (kk : vx_W p l e R s m args below meth c H locs k n Q g q) : vx_W p l e R s m args below meth c H locs cells slots Q g q := fun T hT X => kk T hT (stand_widen X h1 h2)
theorem vx_out {pc : Nat} {E : String} {ce : Cell} {q : Addr} {mc ms : Nat} (hout : ∀ x ∈ c.exceptionTable.toList, covers x pc = false) (hlocks : meth.locks = false) (hcell : H[q]? = some ce) (hv : ce.vm = .none) (hcl : s.vm.findClass E = some ce.cls)
    (hx : ∀ t : State, t.heap = H → s.vm.Alike t.vm → XC E s t) (hf : ∀ z ∈ locs, free z.base) (hc : cells ≤ mc) (hs : slots ≤ ms) :
    vx_W p l e R s m args below meth c H locs cells slots (vx_MQ below Qc XC args s mc ms free) (F0 m pc ls rest) q := by
  intro T hT X
  obtain ⟨st1, hrun, hend, hW, hsm⟩ := X.leaveThrown q (g := F0 m pc ls rest) rfl rfl rfl hout hlocks
  have hcell9 : (T.setFrames (.throwing q :: below)).heap[q]? = some ce := by
    show T.heap[q]? = some ce
    rw [hT]; exact hcell
  exact ⟨_, st1, .threw q, hrun, hend, Or.inr ⟨q, rfl, E, ce, locs, hx _ hT hW.alike, hcell9, hv, hcl, hW, hsm.mono hc hs, hf⟩⟩
theorem vx_frame {U : State} {k n : Nat} (h : s.sameButNew ({ U with vm := s.vm } : State) locs k n) : s.heap.size ≤ U.heap.size ∧ ∀ q : Nat, q < s.heap.size → (∀ z ∈ locs, z.base ≠ q) → U.heap[q]? = s.heap[q]? := by
  obtain ⟨-, h2, -, -, -, h6⟩ := h
  refine ⟨h2, fun q hq hz => ?_⟩
  obtain ⟨c9, e1, e2, e3, e4⟩ := h6 q _ (Array.getElem?_eq_getElem hq)
  have hs : c9.slots = (s.heap[q]).slots := Array.ext_getElem? fun i => e4 i fun hm => hz _ hm rfl
  have h9 : c9 = s.heap[q] := by
    rw [hs] at e2
    exact e2
  have e5 : U.heap[q]? = some c9 := e1
  rw [e5, h9, Array.getElem?_eq_getElem hq]
/-- the words of a throw but the four that speak of the heap -/
def vx_no (w : Cond) : Bool := decide (w ≠ .isRef (.static Bundle.tN "UNASSIGNED_STACK" Bundle.steD)) && decide (w ≠ .isRef (.static Bundle.tN "SUPPRESSED_SENTINEL" Bundle.listD)) && decide (w ≠ .laysStatic Bundle.tN "UNASSIGNED_STACK" Bundle.steD) && decide (w ≠ .laysStatic Bundle.tN "SUPPRESSED_SENTINEL" Bundle.listD)
def vx_at0 (own : String) (ic : Nat) (X : String) (names : List String) : List Cond := (Bundle.ownAtoms0 own ic X names).filter vx_no
def vx_atS (own : String) (ic : Nat) (X : String) (names : List String) : List Cond := (Bundle.ownAtoms own ic X names).filter vx_no
/-- a word that the tables alone decide, or a good one -/
def vx_ot (w : Cond) : Bool := w.onTables || goodWord w
theorem vx_ot_at {args a' : Array Value} {s U : State} {w : Cond} (hW : s.WarmedH U.vm) (hvm : s.vm = U.vm) (hg : vx_ot w = true) (h : w.before args s = true) : w.before a' U = true := by
  simp only [vx_ot, Bool.or_eq_true] at hg
  rcases hg with hg | hg
  · exact va_tabs hg hvm h
  · exact word_at hW (good_of_word hg) h
/-- a list's words: the good ones out of the method's own list, the others by premises of their own -/
theorem vx_hat {args : Array Value} {s : State} {L B : List Cond} (h1 : ∀ w ∈ L.filter goodWord, w.before args s = true) (h2 : ∀ w ∈ L.filter (fun w => !goodWord w), w ∈ B) (h3 : ∀ w ∈ B, w.before args s = true) : ∀ w ∈ L, w.before args s = true := by
  intro w hw
  by_cases g : goodWord w = true
  · exact h1 w (List.mem_filter.mpr ⟨hw, g⟩)
  · refine h3 w (h2 w (List.mem_filter.mpr ⟨hw, ?_⟩))
    show (!goodWord w) = true
    cases hgw : goodWord w
    · rfl
    · exact absurd hgw g
theorem vx_c {args : Array Value} {s : State} {w : Cond} {B : List Cond} (h : w.before args s = true) (t : ∀ w ∈ B, w.before args s = true) : ∀ w' ∈ w :: B, w'.before args s = true := fun w' h' => (List.mem_cons.mp h').elim (fun e => by rw [e]; exact h) (t w')
theorem vx_n {args : Array Value} {s : State} : ∀ w ∈ ([] : List Cond), w.before args s = true := fun _ h => nomatch h
theorem vx_own {args : Array Value} {s : State} {L : List Cond} (h1 : ∀ w ∈ L.filter vx_no, w.before args s = true)
    (hU : (Cond.isRef (.static Bundle.tN "UNASSIGNED_STACK" Bundle.steD)).before args s = true) (hN : (Cond.isRef (.static Bundle.tN "SUPPRESSED_SENTINEL" Bundle.listD)).before args s = true)
    (lU : (Cond.laysStatic Bundle.tN "UNASSIGNED_STACK" Bundle.steD).before args s = true) (lN : (Cond.laysStatic Bundle.tN "SUPPRESSED_SENTINEL" Bundle.listD).before args s = true) : ∀ w ∈ L, w.before args s = true := by
  intro w hw
  by_cases e1 : w = .isRef (.static Bundle.tN "UNASSIGNED_STACK" Bundle.steD)
  · rw [e1]; exact hU
  · by_cases e2 : w = .isRef (.static Bundle.tN "SUPPRESSED_SENTINEL" Bundle.listD)
    · rw [e2]; exact hN
    · by_cases e3 : w = .laysStatic Bundle.tN "UNASSIGNED_STACK" Bundle.steD
      · rw [e3]; exact lU
      · by_cases e4 : w = .laysStatic Bundle.tN "SUPPRESSED_SENTINEL" Bundle.listD
        · rw [e4]; exact lN
        · exact h1 w (List.mem_filter.mpr ⟨hw, by unfold vx_no; rw [decide_eq_true e1, decide_eq_true e2, decide_eq_true e3, decide_eq_true e4]; rfl⟩)
/-- where a static field lies, its class's statics cell in H -/
def vx_L (C n d : String) (A : Nat → Prop) (U : State) (H : Heap) : Prop := ∃ (c : ClassId) (k : Class) (i : Nat) (f : Field) (a : Nat) (cell : Cell), U.vm.findClass C = some c ∧ U.fieldFound? C n d = some (c, k, i, f) ∧ f.isStatic = true ∧ k.statics = some a ∧ H[a]? = some cell ∧ cell.vm.isStatics = true ∧ cell.cls = c ∧ f.slot < cell.slots.size ∧ k.staticTypes[f.slot]? = some f.type ∧ ¬ A a
theorem vx_L.moved {C n d : String} {A : Nat → Prop} {u U : State} {H : Heap} (hvm : u.vm.Alike U.vm) (h : vx_L C n d A u H) : vx_L C n d A U H := by
  obtain ⟨c, k, i, f, a, cell, h1, h2, h3, h4, h5, h6, h7, h8, h9, h10⟩ := h
  obtain ⟨k', hi', he⟩ := State.fieldFound?_setVm hvm h2
  exact ⟨c, k', i, f, a, cell, by rw [hvm.findClass]; exact h1, hi', h3, by rw [he]; exact h4, h5, h6, h7, h8, by rw [he]; exact h9, h10⟩
theorem vx_L.kept {C n d : String} {A : Nat → Prop} {U : State} {H H1 : Heap} (h : vx_L C n d A U H) (hq : ∀ a : Nat, a < H.size → ¬ A a → H1[a]? = H[a]?) : vx_L C n d A U H1 := by
  obtain ⟨c, k, i, f, a, cell, h1, h2, h3, h4, h5, h6, h7, h8, h9, h10⟩ := h
  exact ⟨c, k, i, f, a, cell, h1, h2, h3, h4, by rw [hq a (Array.getElem?_eq_some_iff.mp h5).1 h10]; exact h5, h6, h7, h8, h9, h10⟩
theorem vx_L.narrow {C n d : String} {A B : Nat → Prop} {U : State} {H : Heap} (h : vx_L C n d A U H) (hAB : ∀ q, B q → A q) : vx_L C n d B U H := by
  obtain ⟨c, k, i, f, a, cell, h1, h2, h3, h4, h5, h6, h7, h8, h9, h10⟩ := h
  exact ⟨c, k, i, f, a, cell, h1, h2, h3, h4, h5, h6, h7, h8, h9, fun z => h10 (hAB _ z)⟩
theorem vx_L.word {C n d : String} {A : Nat → Prop} {s : State} {args : Array Value} (h : vx_L C n d A s s.heap) : (Cond.laysStatic C n d).before args s = true := by
  obtain ⟨c, k, i, f, a, cell, h1, h2, h3, h4, h5, h6, h7, h8, h9, -⟩ := h
  show (Cond.laysStatic C n d).holds args s none s [] = true
  exact Cond.laysStatic_of h1 h2 h3 h4 h5 h6 h7 h8 h9
/-- .. and what it holds: null or some reference -/
def vx_Zq (C n d : String) (A : Nat → Prop) (U : State) (H : Heap) : Prop := va_Zq C n d A U H ∧ vx_L C n d A U H
theorem vx_Zq.moved {C n d : String} {A : Nat → Prop} {u U : State} {H : Heap} (hvm : u.vm.Alike U.vm) (h : vx_Zq C n d A u H) : vx_Zq C n d A U H := ⟨va_Zq.moved hvm h.1, vx_L.moved hvm h.2⟩
theorem vx_Zq.kept {C n d : String} {A : Nat → Prop} {U : State} {H H1 : Heap} (h : vx_Zq C n d A U H) (hq : ∀ a : Nat, a < H.size → ¬ A a → H1[a]? = H[a]?) : vx_Zq C n d A U H1 := ⟨va_Zq.kept h.1 hq, vx_L.kept h.2 hq⟩
theorem vx_Zq.narrow {C n d : String} {A B : Nat → Prop} {U : State} {H : Heap} (h : vx_Zq C n d A U H) (hAB : ∀ q, B q → A q) : vx_Zq C n d B U H := ⟨va_Zq.narrow h.1 hAB, vx_L.narrow h.2 hAB⟩
theorem vx_Zqof {args : Array Value} {s : State} {C n d : String} {A : Nat → Prop} (hl : (Cond.laysStatic C n d).before args s = true) (hini : (Cond.initialized C).before args s = true) (h : (Cond.isRef (.static C n d)).before args s = true) (hA : ∀ a : Nat, a < s.heap.size → ¬ A a) : vx_Zq C n d A s s.heap := by
  refine ⟨va_Zqof hl hini h hA, ?_⟩
  obtain ⟨c, k, i, f, a, cell, h1, h2, h3, h4, h5, h6, h7, h8, h9⟩ := Cond.laysStatic_spec hl
  exact ⟨c, k, i, f, a, cell, h1, h2, h3, h4, h5, h6, h7, h8, h9, hA a (Array.getElem?_eq_some_iff.mp h5).1⟩
theorem vx_isRef {C n d : String} {v : Value} {A : Nat → Prop} {s : State} {args : Array Value} (h : va_Z C n d v A s s.heap) (hv : v.isRef = true) : (Cond.isRef (.static C n d)).before args s = true := by
  obtain ⟨cf, kf, fi, f, a, cell, h1, h2, h3, h4, h5, h6, h7, -⟩ := h
  have he : (Term.static C n d).eval args s none [] s = some v := by
    simp [Term.eval, State.fieldNamed?, h1, h2, h4, h5, h6, h7]
  simp only [Cond.before, Cond.holds, Cond.value, he]
  cases v <;> simp_all [Value.isRef]
theorem vx_isRefq {C n d : String} {A : Nat → Prop} {s : State} {args : Array Value} (h : va_Zq C n d A s s.heap) : (Cond.isRef (.static C n d)).before args s = true := by
  rcases h with h | ⟨t, h⟩
  · exact vx_isRef h rfl
  · exact vx_isRef h rfl
/-- the same frame, seen from here: as if the method were called anew in this heap -/
theorem vx_rebase {T : State} (X : Stand p l e R s m args below meth c T locs cells slots) {R' : Room} (hf : R'.frames ≤ R.frames) (hl : R'.locals ≤ R.locals) (hc : cells + R'.cells ≤ R.cells) (hs : slots + R'.slots ≤ R.slots) :
    Stand p l e R' ((T.setVm s.vm).setFrames (.invoking m args :: below)) m args below meth c T [] 0 0 := by
  have htop : (T.setVm s.vm).topJava?.isSome := X.here.top
  have hF : ((T.setVm s.vm).setFrames (.invoking m args :: below)).frames = .invoking m args :: below := State.frames_setFrames _ (State.cur_lt_of_top htop)
  obtain ⟨g₀, hg0⟩ := Option.isSome_iff_exists.mp htop
  obtain ⟨r, hr⟩ := State.topJava?_eq_some.mp hg0
  have hl9 : e.platform.stackLimits (T.setVm s.vm).me = e.platform.stackLimits s.me := X.limits
  have hb9 : (T.setVm s.vm).me.stackBytes = s.me.stackBytes := X.bytes
  refine ⟨X.admits, X.cas, X.clock, hF, ?_, X.hears, X.method, X.code, X.here, X.tail, X.warmed, ?_, ?_, ?_⟩
  · have h := X.room
    have hU : ((T.setVm s.vm).setFrames (.invoking m args :: below)).localsInUse = s.localsInUse := by
      rw [State.localsInUse_invoking hF (meth := meth) (c := c) X.method X.code, State.localsInUse_invoking X.frames X.method X.code]
    simp only [State.hasRoom, Bool.and_eq_true, decide_eq_true_eq] at h ⊢
    obtain ⟨⟨⟨⟨h1, h2, h3, h4, h5, h6⟩, h7⟩, h8⟩, h9⟩ := h
    rw [X.frames, List.length_cons] at h2 h3
    have q1 := X.heapSize
    have q2 := X.used
    simp only [hF, hU, List.length_cons, State.stackLimits_setFrames, State.stackBytes_setFrames, hl9, hb9]
    refine ⟨⟨⟨⟨by omega, by omega, by omega, by omega, by omega, h6⟩, ?_⟩, ?_⟩, X.book⟩
    · show T.heap.size + R'.cells ≤ e.platform.maxCells
      omega
    · show T.slotsUsed + R'.slots ≤ e.platform.maxSlots
      omega
  · rw [State.stackLimits_setFrames]; rfl
  · rw [State.stackBytes_setFrames]; rfl
  · refine ⟨?_, Nat.le_refl _, Nat.le_refl _, ?_, ?_, fun a c9 h9 => ⟨c9, h9, rfl, rfl, fun _ _ => rfl⟩⟩
    · obtain ⟨t, ht, -⟩ := State.frames_cons hr
      show T.setVm s.vm = { ((T.setVm s.vm).setFrames (.invoking m args :: below)).setFrames (T.setVm s.vm).frames with heap := T.heap, slotsUsed := T.slotsUsed }
      rw [State.setFrames_setFrames, State.setFrames_self ht]
      rfl
    · show T.slotsUsed = T.slotsUsed + ((T.heap.toList.drop T.heap.size).map (·.slots.size)).sum
      rw [List.drop_eq_nil_of_le (Nat.le_of_eq Array.length_toList)]
      rfl
    · show ((T.heap.toList.drop T.heap.size).map (·.slots.size)).sum ≤ 0
      rw [List.drop_eq_nil_of_le (Nat.le_of_eq Array.length_toList)]
      exact Nat.le_refl _
/-- 'throw new E()': new; dup; invokespecial; athrow -/
theorem vx_throw0 {cc : ByteArray} {pc : Nat} (hexec : p.tables.exec = Jvm.exec) (hb : c.code = cc) (hl : l.stackTraces = false) {own cls : String} {names : List String} {ik ic mc ms : Nat} {A : Nat → Prop}
    (hown : s.vm.findClass own = some m.cls) (hcls : Bundle.fit cls = true) (hnames : ∀ n ∈ names, Bundle.fit n = true)
    (hk : (Cond.classLink own ik cls).before args s = true) (hini : (Cond.initialized cls).before args s = true) (hat : ∀ w ∈ vx_at0 own ic cls names, w.before args s = true)
    (hgood : ∀ w ∈ Cond.classLink own ik cls :: Cond.initialized cls :: vx_at0 own ic cls names, vx_ot w = true)
    (hU : vx_Zq Bundle.tN "UNASSIGNED_STACK" Bundle.steD A s s.heap) (hN : vx_Zq Bundle.tN "SUPPRESSED_SENTINEL" Bundle.listD A s s.heap) (hS : va_S A s.heap H locs) (hsize : ls.size = c.maxLocals)
    (d0 : decode cc pc = .ok (.new ik, 3)) (d3 : decode cc (pc + 3) = .ok (.dup, 1)) (d4 : decode cc (pc + 4) = .ok (.invokespecial ic, 3)) (d7 : decode cc (pc + 7) = .ok (.athrow, 1))
    (hout : ∀ x ∈ c.exceptionTable.toList, covers x (pc + 7) = false)
    (hRframes : names.length + 3 < R.frames) (hRlocals : (rest.map fun v => v.category).sum + (13 * (names.length + 1) + 42) ≤ R.locals) (hRcells : cells + 1 ≤ R.cells) (hRslots : slots + 6 ≤ R.slots) (hlocks : meth.locks = false)
    (hx : ∀ t : State, s.vm.Alike t.vm → H.size ≤ t.heap.size → (∀ q : Nat, q < H.size → t.heap[q]? = H[q]?) → XC cls s t)
    (hf : ∀ z ∈ locs, free z.base) (hc : cells + 1 ≤ mc) (hs : slots + 6 ≤ ms) :
    W p l e R s m args below meth c H locs cells slots (vx_MQ below Qc XC args s mc ms free) (F0 m pc ls rest) := by
  intro T hT X
  have htr : e.platform.stackTraces = false := (show e.platform.stackTraces = l.stackTraces by rw [X.admits.platform]).trans hl
  have Y := vx_rebase X (R' := { frames := R.frames, locals := R.locals, cells := 1, slots := 6 }) (Nat.le_refl _) (Nat.le_refl _) hRcells hRslots
  obtain ⟨s', hA⟩ : ∃ z, z = (T.setVm s.vm).setFrames (.invoking m args :: below) := ⟨_, rfl⟩
  rw [← hA] at Y
  have hvm : s'.vm = s.vm := by rw [hA]; rfl
  have hhp : s'.heap = H := by rw [hA]; exact hT
  have hW0 : s.WarmedH s'.vm := by rw [hvm]; exact State.WarmedH.refl s
  have hat' : ∀ w ∈ vx_at0 own ic cls names, w.before args s' = true := fun w hw => vx_ot_at hW0 hvm.symm (hgood w (List.mem_cons_of_mem _ (List.mem_cons_of_mem _ hw))) (hat w hw)
  have hk' : (Cond.classLink own ik cls).before args s' = true := vx_ot_at hW0 hvm.symm (hgood _ List.mem_cons_self) hk
  have hini' : (Cond.initialized cls).before args s' = true := vx_ot_at hW0 hvm.symm (hgood _ (List.mem_cons_of_mem _ List.mem_cons_self)) hini
  have hU' : vx_Zq Bundle.tN "UNASSIGNED_STACK" Bundle.steD A s' s'.heap := by rw [hhp]; exact vx_Zq.moved hW0.alike (hU.kept hS.2.1)
  have hN' : vx_Zq Bundle.tN "SUPPRESSED_SENTINEL" Bundle.listD A s' s'.heap := by rw [hhp]; exact vx_Zq.moved hW0.alike (hN.kept hS.2.1)
  have h : ∀ w ∈ Bundle.ownAtoms0 own ic cls names, w.before args s' = true := vx_own hat' (vx_isRefq hU'.1) (vx_isRefq hN'.1) hU'.2.word hN'.2.word
  have hown' : s'.vm.findClass own = some m.cls := by rw [hvm]; exact hown
  have hins : (Cond.instantiable cls 6).before args s' = true := h _ (by simp [Bundle.ownAtoms0])
  obtain ⟨vm₁, cX, kX, hfX, hkX, -, -, X₁, st1⟩ := Y.newCold hexec (own := own) (C := cls) (index := ik) (n := 6) hown' hk' hins hini'
    (g := F0 m pc ls rest) rfl (by rw [hb]; exact d0) (Nat.le_refl _) (Nat.le_refl _)
  generalize hT1 : (T.setVm vm₁).pushCell { cls := cX, slots := kX.instanceTypes.map defaultValue, vm := .none } = T1 at X₁ st1
  have hcat : (Value.ref T.heap.size).category = 1 := rfl
  have hcellA : T1.heap[T.heap.size]? = some (freshCell cX kX) := by rw [← hT1]; exact State.heap_pushCell_size _ _
  have d3' : decode c.code (pc + 3) = .ok (.dup, 1) := by rw [hb]; exact d3
  obtain ⟨U, hsteps, hrun, hend, hW, hsame, ce, hce, hO⟩ := X₁.ctorThrow0 hexec htr (own := own) (cls := cls) (names := names) (ic := ic) hown' hcls hnames h (fun x hx => nomatch hx) hfX hkX hcellA (by rw [hhp, hT]; exact Nat.le_refl _)
    (g := { method := m, pc := pc + 4, locals := ls, stack := .ref T.heap.size :: .ref T.heap.size :: rest, locked := none }) rfl hsize rfl rfl (rest := rest) rfl
    (by rw [hb]; exact d4) (by rw [hb]; exact d7) hout hRframes (by simp only [List.map_cons, List.sum_cons, hcat]; omega) hlocks
  obtain ⟨f1, f2⟩ := vx_frame hsame
  rw [hhp] at f1 f2
  have hWs : s.WarmedH U.vm := State.WarmedH.trans hW0 hW
  have hcl : s.vm.findClass cls = some ce.cls := by
    have h9 := hO.cls
    rw [hvm] at h9
    exact h9
  have hall : s.sameButNew ({ U with vm := s.vm } : State) locs mc ms := by
    subst hA
    obtain ⟨e1, e2⟩ := hsame
    rw [State.setFrames_setFrames] at e1
    have h2 : (T.setVm s.vm).sameButNew ({ U with vm := s.vm } : State) [] (0 + 1) (0 + 6) := ⟨e1, e2⟩
    have h3 := X.same.trans h2
    rw [List.append_nil] at h3
    exact h3.mono hc hs
  refine ⟨U, ?_, .threw T.heap.size, hrun, hend, Or.inr ⟨T.heap.size, rfl, cls, ce, locs, hx U hWs.alike f1 (fun q hq => f2 q hq (fun z hz => nomatch hz)), hce, hO.vm, hcl, hWs, hall, hf⟩⟩
  refine st1 _ ?_
  show Steps p.tables e below (T1.setTop { method := m, pc := pc + 3, locals := ls, stack := .ref T.heap.size :: rest, locked := none }) _
  jvm_step X₁.here [X₁.here.top, hexec, d3', Value.category]
  exact hsteps
/-- 'throw new E("text")': new; dup; ldc; invokespecial; athrow -/
theorem vx_throwS {cc : ByteArray} {pc : Nat} (hexec : p.tables.exec = Jvm.exec) (hb : c.code = cc) (hl : l.stackTraces = false) {own cls text : String} {names : List String} {ik is ic mc ms sa : Nat} {A : Nat → Prop}
    (hown : s.vm.findClass own = some m.cls) (hcls : Bundle.fit cls = true) (hnames : ∀ n ∈ names, Bundle.fit n = true)
    (hk : (Cond.classLink own ik cls).before args s = true) (hini : (Cond.initialized cls).before args s = true) (hstr : vk_R own is text sa s) (hat : ∀ w ∈ vx_atS own ic cls names, w.before args s = true)
    (hgood : ∀ w ∈ Cond.classLink own ik cls :: Cond.initialized cls :: vx_atS own ic cls names, vx_ot w = true)
    (hU : vx_Zq Bundle.tN "UNASSIGNED_STACK" Bundle.steD A s s.heap) (hN : vx_Zq Bundle.tN "SUPPRESSED_SENTINEL" Bundle.listD A s s.heap) (hS : va_S A s.heap H locs) (hsize : ls.size = c.maxLocals)
    (d0 : decode cc pc = .ok (.new ik, 3)) (d3 : decode cc (pc + 3) = .ok (.dup, 1)) (d4 : decode cc (pc + 4) = .ok (.ldc is, 2)) (d6 : decode cc (pc + 6) = .ok (.invokespecial ic, 3)) (d9 : decode cc (pc + 9) = .ok (.athrow, 1))
    (hout : ∀ x ∈ c.exceptionTable.toList, covers x (pc + 9) = false)
    (hRframes : names.length + 3 < R.frames) (hRlocals : (rest.map fun v => v.category).sum + (13 * (names.length + 1) + 43) ≤ R.locals) (hRcells : cells + 1 ≤ R.cells) (hRslots : slots + 6 ≤ R.slots) (hlocks : meth.locks = false)
    (hx : ∀ t : State, s.vm.Alike t.vm → H.size ≤ t.heap.size → (∀ q : Nat, q < H.size → t.heap[q]? = H[q]?) → XC cls s t)
    (hf : ∀ z ∈ locs, free z.base) (hc : cells + 1 ≤ mc) (hs : slots + 6 ≤ ms) :
    W p l e R s m args below meth c H locs cells slots (vx_MQ below Qc XC args s mc ms free) (F0 m pc ls rest) := by
  intro T hT X
  have htr : e.platform.stackTraces = false := (show e.platform.stackTraces = l.stackTraces by rw [X.admits.platform]).trans hl
  have Y := vx_rebase X (R' := { frames := R.frames, locals := R.locals, cells := 1, slots := 6 }) (Nat.le_refl _) (Nat.le_refl _) hRcells hRslots
  obtain ⟨s', hA⟩ : ∃ z, z = (T.setVm s.vm).setFrames (.invoking m args :: below) := ⟨_, rfl⟩
  rw [← hA] at Y
  have hvm : s'.vm = s.vm := by rw [hA]; rfl
  have hhp : s'.heap = H := by rw [hA]; exact hT
  have hW0 : s.WarmedH s'.vm := by rw [hvm]; exact State.WarmedH.refl s
  have hat' : ∀ w ∈ vx_atS own ic cls names, w.before args s' = true := fun w hw => vx_ot_at hW0 hvm.symm (hgood w (List.mem_cons_of_mem _ (List.mem_cons_of_mem _ hw))) (hat w hw)
  have hk' : (Cond.classLink own ik cls).before args s' = true := vx_ot_at hW0 hvm.symm (hgood _ List.mem_cons_self) hk
  have hini' : (Cond.initialized cls).before args s' = true := vx_ot_at hW0 hvm.symm (hgood _ (List.mem_cons_of_mem _ List.mem_cons_self)) hini
  have hU' : vx_Zq Bundle.tN "UNASSIGNED_STACK" Bundle.steD A s' s'.heap := by rw [hhp]; exact vx_Zq.moved hW0.alike (hU.kept hS.2.1)
  have hN' : vx_Zq Bundle.tN "SUPPRESSED_SENTINEL" Bundle.listD A s' s'.heap := by rw [hhp]; exact vx_Zq.moved hW0.alike (hN.kept hS.2.1)
  have h : ∀ w ∈ Bundle.ownAtoms own ic cls names, w.before args s' = true := vx_own hat' (vx_isRefq hU'.1) (vx_isRefq hN'.1) hU'.2.word hN'.2.word
  have hown' : s'.vm.findClass own = some m.cls := by rw [hvm]; exact hown
  have hins : (Cond.instantiable cls 6).before args s' = true := h _ (by simp [Bundle.ownAtoms])
  obtain ⟨vm₁, cX, kX, hfX, hkX, -, -, X₁, st1⟩ := Y.newCold hexec (own := own) (C := cls) (index := ik) (n := 6) hown' hk' hins hini'
    (g := F0 m pc ls rest) rfl (by rw [hb]; exact d0) (Nat.le_refl _) (Nat.le_refl _)
  generalize hT1 : (T.setVm vm₁).pushCell { cls := cX, slots := kX.instanceTypes.map defaultValue, vm := .none } = T1 at X₁ st1
  have hcat : (Value.ref T.heap.size).category = 1 := rfl
  have hcellA : T1.heap[T.heap.size]? = some (freshCell cX kX) := by rw [← hT1]; exact State.heap_pushCell_size _ _
  have d3' : decode c.code (pc + 3) = .ok (.dup, 1) := by rw [hb]; exact d3
  have d4' : decode c.code (pc + 4) = .ok (.ldc is, 2) := by rw [hb]; exact d4
  have hstr' : vk_R own is text sa s' := vk_R.warm hW0 hstr
  obtain ⟨U, hsteps, hrun, hend, hW, hsame, ce, hce, hO⟩ := X₁.ctorThrowS hexec htr (own := own) (cls := cls) (names := names) (ic := ic) hown' hcls hnames h (fun x hx => nomatch hx) hfX hkX hcellA (by rw [hhp, hT]; exact Nat.le_refl _) (msg := .ref sa) rfl
    (g := { method := m, pc := pc + 6, locals := ls, stack := .ref sa :: .ref T.heap.size :: .ref T.heap.size :: rest, locked := none }) rfl hsize rfl rfl (rest := rest) rfl
    (by rw [hb]; exact d6) (by rw [hb]; exact d9) hout hRframes (by simp only [List.map_cons, List.sum_cons, hcat]; omega) hlocks
  obtain ⟨f1, f2⟩ := vx_frame hsame
  rw [hhp] at f1 f2
  have hWs : s.WarmedH U.vm := State.WarmedH.trans hW0 hW
  have hcl : s.vm.findClass cls = some ce.cls := by
    have h9 := hO.cls
    rw [hvm] at h9
    exact h9
  have hall : s.sameButNew ({ U with vm := s.vm } : State) locs mc ms := by
    subst hA
    obtain ⟨e1, e2⟩ := hsame
    rw [State.setFrames_setFrames] at e1
    have h2 : (T.setVm s.vm).sameButNew ({ U with vm := s.vm } : State) [] (0 + 1) (0 + 6) := ⟨e1, e2⟩
    have h3 := X.same.trans h2
    rw [List.append_nil] at h3
    exact h3.mono hc hs
  refine ⟨U, ?_, .threw T.heap.size, hrun, hend, Or.inr ⟨T.heap.size, rfl, cls, ce, locs, hx U hWs.alike f1 (fun q hq => f2 q hq (fun z hz => nomatch hz)), hce, hO.vm, hcl, hWs, hall, hf⟩⟩
  refine st1 _ ?_
  show Steps p.tables e below (T1.setTop { method := m, pc := pc + 3, locals := ls, stack := .ref T.heap.size :: rest, locked := none }) _
  jvm_step X₁.here [X₁.here.top, hexec, d3', Value.category]
  exact X₁.ldcString hexec (own := own) (text := text) (index := is) (a := sa) hown' hstr'.1 hstr'.2
    (g := { method := m, pc := pc + 4, locals := ls, stack := .ref T.heap.size :: .ref T.heap.size :: rest, locked := none }) rfl d4' _ hsteps
/-- 'throw new E("text")', the text by a wide index -/
theorem vx_throwSW {cc : ByteArray} {pc : Nat} (hexec : p.tables.exec = Jvm.exec) (hb : c.code = cc) (hl : l.stackTraces = false) {own cls text : String} {names : List String} {ik is ic mc ms sa : Nat} {A : Nat → Prop}
    (hown : s.vm.findClass own = some m.cls) (hcls : Bundle.fit cls = true) (hnames : ∀ n ∈ names, Bundle.fit n = true)
    (hk : (Cond.classLink own ik cls).before args s = true) (hini : (Cond.initialized cls).before args s = true) (hstr : vk_R own is text sa s) (hat : ∀ w ∈ vx_atS own ic cls names, w.before args s = true)
    (hgood : ∀ w ∈ Cond.classLink own ik cls :: Cond.initialized cls :: vx_atS own ic cls names, vx_ot w = true)
    (hU : vx_Zq Bundle.tN "UNASSIGNED_STACK" Bundle.steD A s s.heap) (hN : vx_Zq Bundle.tN "SUPPRESSED_SENTINEL" Bundle.listD A s s.heap) (hS : va_S A s.heap H locs) (hsize : ls.size = c.maxLocals)
    (d0 : decode cc pc = .ok (.new ik, 3)) (d3 : decode cc (pc + 3) = .ok (.dup, 1)) (d4 : decode cc (pc + 4) = .ok (.ldc_w is, 3)) (d7 : decode cc (pc + 7) = .ok (.invokespecial ic, 3)) (d10 : decode cc (pc + 10) = .ok (.athrow, 1))
    (hout : ∀ x ∈ c.exceptionTable.toList, covers x (pc + 10) = false)
    (hRframes : names.length + 3 < R.frames) (hRlocals : (rest.map fun v => v.category).sum + (13 * (names.length + 1) + 43) ≤ R.locals) (hRcells : cells + 1 ≤ R.cells) (hRslots : slots + 6 ≤ R.slots) (hlocks : meth.locks = false)
    (hx : ∀ t : State, s.vm.Alike t.vm → H.size ≤ t.heap.size → (∀ q : Nat, q < H.size → t.heap[q]? = H[q]?) → XC cls s t)
    (hf : ∀ z ∈ locs, free z.base) (hc : cells + 1 ≤ mc) (hs : slots + 6 ≤ ms) :
    W p l e R s m args below meth c H locs cells slots (vx_MQ below Qc XC args s mc ms free) (F0 m pc ls rest) := by
  intro T hT X
  have htr : e.platform.stackTraces = false := (show e.platform.stackTraces = l.stackTraces by rw [X.admits.platform]).trans hl
  have Y := vx_rebase X (R' := { frames := R.frames, locals := R.locals, cells := 1, slots := 6 }) (Nat.le_refl _) (Nat.le_refl _) hRcells hRslots
  obtain ⟨s', hA⟩ : ∃ z, z = (T.setVm s.vm).setFrames (.invoking m args :: below) := ⟨_, rfl⟩
  rw [← hA] at Y
  have hvm : s'.vm = s.vm := by rw [hA]; rfl
  have hhp : s'.heap = H := by rw [hA]; exact hT
  have hW0 : s.WarmedH s'.vm := by rw [hvm]; exact State.WarmedH.refl s
  have hat' : ∀ w ∈ vx_atS own ic cls names, w.before args s' = true := fun w hw => vx_ot_at hW0 hvm.symm (hgood w (List.mem_cons_of_mem _ (List.mem_cons_of_mem _ hw))) (hat w hw)
  have hk' : (Cond.classLink own ik cls).before args s' = true := vx_ot_at hW0 hvm.symm (hgood _ List.mem_cons_self) hk
  have hini' : (Cond.initialized cls).before args s' = true := vx_ot_at hW0 hvm.symm (hgood _ (List.mem_cons_of_mem _ List.mem_cons_self)) hini
  have hU' : vx_Zq Bundle.tN "UNASSIGNED_STACK" Bundle.steD A s' s'.heap := by rw [hhp]; exact vx_Zq.moved hW0.alike (hU.kept hS.2.1)
  have hN' : vx_Zq Bundle.tN "SUPPRESSED_SENTINEL" Bundle.listD A s' s'.heap := by rw [hhp]; exact vx_Zq.moved hW0.alike (hN.kept hS.2.1)
  have h : ∀ w ∈ Bundle.ownAtoms own ic cls names, w.before args s' = true := vx_own hat' (vx_isRefq hU'.1) (vx_isRefq hN'.1) hU'.2.word hN'.2.word
  have hown' : s'.vm.findClass own = some m.cls := by rw [hvm]; exact hown
  have hins : (Cond.instantiable cls 6).before args s' = true := h _ (by simp [Bundle.ownAtoms])
  obtain ⟨vm₁, cX, kX, hfX, hkX, -, -, X₁, st1⟩ := Y.newCold hexec (own := own) (C := cls) (index := ik) (n := 6) hown' hk' hins hini'
    (g := F0 m pc ls rest) rfl (by rw [hb]; exact d0) (Nat.le_refl _) (Nat.le_refl _)
  generalize hT1 : (T.setVm vm₁).pushCell { cls := cX, slots := kX.instanceTypes.map defaultValue, vm := .none } = T1 at X₁ st1
  have hcat : (Value.ref T.heap.size).category = 1 := rfl
  have hcellA : T1.heap[T.heap.size]? = some (freshCell cX kX) := by rw [← hT1]; exact State.heap_pushCell_size _ _
  have d3' : decode c.code (pc + 3) = .ok (.dup, 1) := by rw [hb]; exact d3
  have d4' : decode c.code (pc + 4) = .ok (.ldc_w is, 3) := by rw [hb]; exact d4
  have hstr' : vk_R own is text sa s' := vk_R.warm hW0 hstr
  obtain ⟨U, hsteps, hrun, hend, hW, hsame, ce, hce, hO⟩ := X₁.ctorThrowS hexec htr (own := own) (cls := cls) (names := names) (ic := ic) hown' hcls hnames h (fun x hx => nomatch hx) hfX hkX hcellA (by rw [hhp, hT]; exact Nat.le_refl _) (msg := .ref sa) rfl
    (g := { method := m, pc := pc + 7, locals := ls, stack := .ref sa :: .ref T.heap.size :: .ref T.heap.size :: rest, locked := none }) rfl hsize rfl rfl (rest := rest) rfl
    (by rw [hb]; exact d7) (by rw [hb]; exact d10) hout hRframes (by simp only [List.map_cons, List.sum_cons, hcat]; omega) hlocks
  obtain ⟨f1, f2⟩ := vx_frame hsame
  rw [hhp] at f1 f2
  have hWs : s.WarmedH U.vm := State.WarmedH.trans hW0 hW
  have hcl : s.vm.findClass cls = some ce.cls := by
    have h9 := hO.cls
    rw [hvm] at h9
    exact h9
  have hall : s.sameButNew ({ U with vm := s.vm } : State) locs mc ms := by
    subst hA
    obtain ⟨e1, e2⟩ := hsame
    rw [State.setFrames_setFrames] at e1
    have h2 : (T.setVm s.vm).sameButNew ({ U with vm := s.vm } : State) [] (0 + 1) (0 + 6) := ⟨e1, e2⟩
    have h3 := X.same.trans h2
    rw [List.append_nil] at h3
    exact h3.mono hc hs
  refine ⟨U, ?_, .threw T.heap.size, hrun, hend, Or.inr ⟨T.heap.size, rfl, cls, ce, locs, hx U hWs.alike f1 (fun q hq => f2 q hq (fun z hz => nomatch hz)), hce, hO.vm, hcl, hWs, hall, hf⟩⟩
  refine st1 _ ?_
  show Steps p.tables e below (T1.setTop { method := m, pc := pc + 3, locals := ls, stack := .ref T.heap.size :: rest, locked := none }) _
  jvm_step X₁.here [X₁.here.top, hexec, d3', Value.category]
  exact X₁.ldcStringW hexec (own := own) (text := text) (index := is) (a := sa) hown' hstr'.1 hstr'.2
    (g := { method := m, pc := pc + 4, locals := ls, stack := .ref T.heap.size :: .ref T.heap.size :: rest, locked := none }) rfl d4' _ hsteps
end Ends
section Bodies
variable {l : Launch}
theorem vx_ofW {y : MethodName} {ws ws' : List Cond} {rm : Room} {Pc : Array Value → State → Prop} {Qc : Array Value → State → Outcome → State → Prop} {XC : String → State → State → Prop} {mc ms : Nat} {free : Addr → Prop} {cc : ByteArray} {maxL : Nat} {ret : Option FieldType}
    (hy : plainName y.cls = true) (hw : ws = Cond.code y cc maxL ret :: ws')
    (body : ∀ p e s m args below meth c s₁, BodyLoose p l y (headSpec ws rm) cc maxL ret e s m args below meth c s₁ → c.maxLocals = maxL → (∀ x ∈ c.exceptionTable.toList, False) → Pc args s →
      W p l e (headSpec ws rm).room s m args below meth c s.heap [] 0 0 (vx_MQ below Qc XC args s mc ms free) (entryFrame m args maxL)) : vx_Met l y ws rm Pc Qc XC mc ms free := by
  refine MetFree.of_bodyS (code := cc) (maxLocals := maxL) (ret := ret) hy ?_ ?_
  · intro args s m h hn
    obtain ⟨meth, c, h1, h2, h3, h4, h5, h6, -, -⟩ := Cond.code_spec hn (atoms_spec (ws := ws) h _ (by rw [hw]; exact List.mem_cons_self))
    exact ⟨meth, c, h1, h2, h3, h4, h5, h6⟩
  · intro p e s m args below meth c s₁ B hml hP _
    have hh0 : s₁.heap = s.heap := by rw [B.state]; rfl
    have ht : ∀ x ∈ c.exceptionTable.toList, False := by
      obtain ⟨meth9, c9, h1, h2, -, -, -, -, h7, -⟩ := Cond.code_spec B.named (atoms_spec (ws := ws) B.pre _ (by rw [hw]; exact List.mem_cons_self))
      cases Option.some.inj (h1.symm.trans B.method)
      cases Option.some.inj (h2.symm.trans (Stand.of_body B).code)
      intro x hx
      rw [Array.isEmpty_iff.mp h7] at hx
      cases hx
    obtain ⟨t, a1, o, b1, b2, b3⟩ := body p e s m args below meth c s₁ B hml ht hP s₁ hh0 (Stand.of_body B)
    exact ⟨t, o, a1, b1, b2, b3⟩
/-- the table of a body with handlers -/
theorem vx_table {p : Program} {x y : MethodName} {S : Spec} {cc bytes : ByteArray} {maxL maxL' : Nat} {ret ret' : Option FieldType} {e : Env} {s s₁ : State} {m : MethodId} {args : Array Value} {below : List Frame} {meth : Method} {c : Code} {hh : List (Nat × Nat × Nat × Nat)}
    (B : BodyLoose p l y S cc maxL ret e s m args below meth c s₁) (h : (Cond.codeWith y bytes maxL' ret' hh).before args s = true) : c.exceptionTable.toList = tableOf hh := by
  obtain ⟨m9, meth9, c9, hn9, h1, h2, -, -, h6, -⟩ := Cond.codeWith_spec h
  cases Option.some.inj (hn9.symm.trans B.named)
  cases Option.some.inj (h1.symm.trans B.method)
  cases Option.some.inj (h2.symm.trans (Stand.of_body B).code)
  rw [← h6, table_eq]
end Bodies
end VXA
/-! ===== END ===== -/
/-! ===== BEGIN a static call of a method with an exception table ===== -/
section VXS
variable {p : Program} {l : Launch} {e : Env} {R : Room} {s : State} {m : MethodId} {args : Array Value} {below : List Frame} {meth : Method} {c : Code} {T : State} {H : Heap} {locs : List Loc} {cells slots : Nat}
abbrev vx_CSW (R : Room) (s : State) (args : Array Value) (own : String) (index : Nat) (y : MethodName) (bytes : ByteArray) (maxL : Nat) (ret : Option FieldType) (hh : List (Nat × Nat × Nat × Nat)) (ws : List Cond) (rm : Room) (mc ms n : Nat) : Prop :=
  (rm.cells = mc ∧ rm.slots = ms ∧ rm.frames + 1 ≤ R.frames ∧ 8 + (maxL + 11) + rm.locals ≤ R.locals ∧ (∀ w ∈ ws, ∀ (a' : Array Value) (U : State), s.WarmedH U.vm → w.before a' U = true) ∧ Cond.codeWith y bytes maxL ret hh ∈ ws) ∧
  (Cond.codeWith y bytes maxL ret hh).before args s = true ∧ (Cond.initialized y.cls).before args s = true ∧ (y.cls ≠ "java/lang/invoke/MethodHandle" ∧ y.cls ≠ "java/lang/invoke/VarHandle") ∧
  (∀ sig, parseMethodDescriptor y.desc = some sig → n = sig.parameters.length) ∧ (Cond.methodLink own index y).before args s = true ∧ (Cond.static y).before args s = true
theorem vx_cwSW {own : String} {index maxL mc ms : Nat} {y : MethodName} {bytes : ByteArray} {ret : Option FieldType} {hh : List (Nat × Nat × Nat × Nat)} {Ts ws ws' : List Cond} {rm : Room} (n : Nat) (ht : ∀ w ∈ Ts, w.before args s = true) (hT : GoodIn Ts (va_wsS own index y ws)) (hw : ws = Cond.codeWith y bytes maxL ret hh :: ws') (hrc : rm.cells = mc) (hrs : rm.slots = ms)
    (hd : y.cls ≠ "java/lang/invoke/MethodHandle" ∧ y.cls ≠ "java/lang/invoke/VarHandle" ∧ (parseMethodDescriptor y.desc).map (fun d => d.parameters.length) = some n) (hR : rm.frames + 1 ≤ R.frames ∧ 8 + (maxL + 11) + rm.locals ≤ R.locals) :
    vx_CSW R s args own index y bytes maxL ret hh ws rm mc ms n := by
  have ok : ∀ w ∈ va_wsS own index y ws, w.before args s = true := fun w h => ht w (hT w h).1
  have hG : GoodIn Ts ws := fun w h => hT w (by unfold va_wsS; exact List.mem_append_right _ h)
  have hc : Cond.codeWith y bytes maxL ret hh ∈ ws := by rw [hw]; exact List.mem_cons_self
  refine ⟨⟨hrc, hrs, hR.1, hR.2, pay_in ht hG, hc⟩, ht _ (hG _ hc).1, ok _ (by simp [va_wsS]), ⟨hd.1, hd.2.1⟩, fun sig h => ?_, ok _ (by simp [va_wsS]), ok _ (by simp [va_wsS])⟩
  have h2 := hd.2.2
  rw [h] at h2
  exact (Option.some.inj h2).symm
theorem vx_callSW (X : Stand p l e R s m args below meth c T locs cells slots) (hexec : p.tables.exec = Jvm.exec) {own : String} {index : Nat} {y : MethodName} {bytes : ByteArray} {maxL : Nat} {ret : Option FieldType} {hh : List (Nat × Nat × Nat × Nat)}
    (hown : s.vm.findClass own = some m.cls) (hlink : (Cond.methodLink own index y).before args s = true) (hstat : (Cond.static y).before args s = true) (hinit : (Cond.initialized y.cls).before args s = true)
    (hcode : (Cond.codeWith y bytes maxL ret hh).before args s = true) (hy : y.cls ≠ "java/lang/invoke/MethodHandle" ∧ y.cls ≠ "java/lang/invoke/VarHandle")
    {W9 : Nat} {Pre : Pt → Array Value → Prop} {Post : Pt → Array Value → Option Value → Pt → Prop} (hK : Back l R p e below s args y 3 W9 Pre Post)
    {g : JFrame} (hg : g.method = m) (hsize : g.locals.size = c.maxLocals) {argsL rest : List Value} (hlen : ∀ sig, parseMethodDescriptor y.desc = some sig → argsL.length = sig.parameters.length)
    (hstack : g.stack = argsL.reverse ++ rest) (hW : 2 * g.monitorRoom + (rest.map fun v => v.category).sum ≤ W9) (hdg : decode c.code g.pc = .ok (.invokestatic index, 3))
    (hpre : ∀ vm₁, s.WarmedH vm₁ → Pre ⟨T.setVm vm₁, locs, cells, slots⟩ argsL.toArray) :
    ∃ (v : Option Value) (vm₁ : Vm) (B : Pt), s.WarmedH vm₁ ∧ Stand p l e R s m args below meth c B.U B.locs B.cells B.slots ∧ Post ⟨T.setVm vm₁, locs, cells, slots⟩ argsL.toArray v B ∧
      ∀ target, Steps p.tables e below (B.U.setTop { g with pc := g.pc + 3, stack := v.toList ++ rest }) target → Steps p.tables e below (T.setTop g) target := by
  obtain ⟨mk, methM, cM, hnamed, hmethM, -, -, -, -, -, -, hsigM⟩ := Cond.codeWith_spec hcode
  have hstatic : methM.isStatic = true := Cond.static_spec hnamed hmethM hstat
  obtain ⟨kP, hkP, -⟩ := className_of_methodNamed hnamed
  have hinitP : kP.init = .initialized := Cond.initialized_spec (findClass_of_methodNamed hnamed) hkP hinit
  obtain ⟨vm₁, X₁, hstep₁⟩ := X.invokestatic hexec hown hlink hnamed hmethM hstatic hkP hinitP hy (g := g) hg (argsL := argsL) (rest := rest) (hlen _ hsigM) hstack hdg
  obtain ⟨v, B, X', hpost, hsteps⟩ := hK m meth c ⟨T.setVm vm₁, locs, cells, slots⟩ { g with stack := rest } (.invokestatic index) mk argsL.toArray X₁ hg hsize hdg hW (X₁.named hnamed) (hpre vm₁ X₁.warmed)
  exact ⟨v, vm₁, B, X₁.warmed, X', hpost, fun target h => hstep₁ _ fun acts => by rw [doInvoke_state]; exact hsteps.trans h⟩
theorem vx_runSW {y : MethodName} {bytes cc : ByteArray} {maxL nL mc ms n index : Nat} {ret : Option FieldType} {hh : List (Nat × Nat × Nat × Nat)} {ws : List Cond} {rm : Room} {Pc : Array Value → State → Prop} {Qc : Array Value → State → Outcome → State → Prop} {free : Addr → Prop} {Ts : List Cond} {own : String} {As rest : List Value} {g : JFrame}
    (S : CallFix p m c cc nL s args Ts own) (hM : Met l y ws rm Pc Qc mc ms free) (cw : vx_CSW R s args own index y bytes maxL ret hh ws rm mc ms n) (hp : PreS s H Pc As)
    (hg : g.method = m) (hn : As.length = n) (hsize : g.locals.size = nL) (hstack : g.stack = As.reverse ++ rest) (hW : 2 * g.monitorRoom + (rest.map fun v => v.category).sum ≤ 8) (hdg : decode cc g.pc = .ok (.invokestatic index, 3)) (hf : cells + mc ≤ R.cells ∧ slots + ms ≤ R.slots) :
    va_Run p l e R s m args below meth c H locs cells slots mc ms g rest (Qc As.toArray) (free) := by
  obtain ⟨⟨hrc, hrs, hfr, hlo, hws, hcw⟩, hcode, hini, hy, hlen, hl, hstt⟩ := cw
  have hK : Back l R p e below s args y 3 8 (PreOf R mc ms Pc) (PostOf Qc mc ms free) := va_backW (hh := hh) (bytes := bytes) (maxL := maxL) (ret := ret) hM hp.1 hrc hrs hfr hlo hws hcw (fun a' U hW => word_at hW (Or.inl (by first | rfl | simp [Cond.onTables, Cond.keeps, Cond.steady])) hini)
  obtain ⟨hx, hb, hml, ho, -⟩ := S
  intro T hT X
  obtain ⟨v, vm₁, ⟨U', l2, c2, s2⟩, hW₁, X', ⟨g', mk, t, L, e1, e2, hq, h1, hL, h2, h3⟩, st⟩ := vx_callSW X hx (hh := hh) (bytes := bytes) (maxL := maxL) (ret := ret) ho hl hstt hini hcode hy hK hg (hsize.trans hml.symm) (argsL := As) (rest := rest) (fun sig h => hn.trans (hlen sig h)) hstack hW (by rw [hb]; exact hdg)
    (fun vm₁ hW₁ => ⟨hf.1, hf.2, hp.2 (T.setVm vm₁) hT hW₁⟩)
  dsimp only [Pt.U, Pt.locs, Pt.cells, Pt.slots] at X' e1 e2 h1 h2 h3 st
  subst h1; subst h2; subst h3
  exact ⟨v, (T.setVm vm₁).calling g' mk As.toArray, t, U', L, hT, X', hL, e1, e2, hq, st⟩
/-- not caught here, past rows that name other classes: it goes on to the caller -/
theorem vx_outP {p : Program} {l : Launch} {e : Env} {R : Room} {s : State} {m : MethodId} {args : Array Value} {below : List Frame} {meth : Method} {c : Code} {H : Heap} {locs : List Loc} {cells slots : Nat} {free : Addr → Prop} {ls : Array Slot} {rest : List Value} {Qc : Array Value → State → Outcome → State → Prop} {XC : String → State → State → Prop}
    {pc : Nat} {own E : String} {ce : Cell} {q : Addr} {mc ms : Nat} (hown : s.vm.findClass own = some m.cls) (hlocks : meth.locks = false)
    (hpass : ∀ z ∈ c.exceptionTable.toList, covers z pc = false ∨ (z.catchType ≠ 0 ∧ ∃ nm : String, (Cond.classLink own z.catchType nm).before args s = true ∧ va_Nc E nm s)) (hcell : H[q]? = some ce) (hv : ce.vm = .none) (hcl : s.vm.findClass E = some ce.cls)
    (hx : ∀ t : State, t.heap = H → s.vm.Alike t.vm → XC E s t) (hf : ∀ z ∈ locs, free z.base) (hc : cells ≤ mc) (hs : slots ≤ ms) :
    vx_W p l e R s m args below meth c H locs cells slots (vx_MQ below Qc XC args s mc ms free) (F0 m pc ls rest) q := by
  intro T hT X
  have hpl : e.platform.magicAccessors = ({} : Platform).magicAccessors := by rw [X.admits.platform]
  obtain ⟨vm', hW', X', st⟩ := X.outThrough hlocks q (g := F0 m pc ls rest) rfl rfl rfl (cell := ce) (by rw [hT]; exact hcell) (by rw [hv]; rfl)
    (by obtain ⟨k9, h9, -⟩ := Vm.findClass_spec hcl; exact ⟨k9, h9⟩) (fun z hz => by
      rcases hpass z hz with h | ⟨hz0, nm, hl1, hn1⟩
      · exact Or.inl h
      · obtain ⟨c6, hc6, hcl6⟩ := Cond.classLink_spec hown hl1 e.platform hpl
        obtain ⟨a8, b8, h1, h2, h3⟩ := hn1
        cases Option.some.inj (h1.symm.trans hcl)
        cases Option.some.inj (h2.symm.trans hc6)
        exact Or.inr ⟨hz0, _, hcl6, h3⟩)
  obtain ⟨g₀, hfr⟩ := X'.frames_eq
  have hcell9 : ((T.setVm vm').setFrames (.throwing q :: below)).heap[q]? = some ce := by
    show T.heap[q]? = some ce
    rw [hT]; exact hcell
  have hend : Ended ((T.setVm vm').setFrames (.throwing q :: below)) below (.threw q) := State.frames_setFrames _ (State.cur_lt_of_frames hfr)
  refine ⟨(T.setVm vm').setFrames (.throwing q :: below), ?_, .threw q, X'.here.running, hend, Or.inr ⟨q, rfl, E, ce, locs, hx _ hT (X'.ends _).1.alike, hcell9, hv, hcl, (X'.ends _).1, (X'.ends _).2.mono hc hs, hf⟩⟩
  rw [X.pushThrowing_eq]
  exact st
/-- a thing of a world lies in the heap -/
theorem vx_lt {D : va_G} {cl : List vw_C} {ws : va_W} {H1 : Heap} (h : va_P D cl ws H1) {k : Nat} {q : Nat × va_E} (hk : ws[k]? = some q) : q.1 < H1.size := (h k q hk).lt
end VXS
/-! ===== END ===== -/
/-! ===== BEGIN methods with a table of their own: called by a name, returning or throwing ===== -/
section VXH
/-! vx_backW, vx_callVX, vx_callSX, vx_callVW, vx_runVW, vx_runVX, vx_runSX, vx_ofWH follow the same proofs as their sisters above (Free/Laws.lean, Shelf42/LK1.lean); vx_outP calls Shelf42/NT130.lean (outThrough). -/
section
variable {l : Launch} {R : Room} {p : Program} {e : Env} {below : List Frame} {s : State} {sargs : Array Value} {y : MethodName} {len W9 : Nat}
theorem vx_backW {ws : List Cond} {rm : Room} {Pc : Array Value → State → Prop} {Qc : Array Value → State → Outcome → State → Prop} {XC : String → State → State → Prop} {mc ms : Nat} {free : Addr → Prop} {bytes : ByteArray} {maxL : Nat} {ret : Option FieldType} {hh : List (Nat × Nat × Nat × Nat)}
    (hM : vx_Met l y ws rm Pc Qc XC mc ms free) (hblind : FrameBlind Pc) (hrc : rm.cells = mc) (hrs : rm.slots = ms)
    (hframes : rm.frames + 1 ≤ R.frames) (hlocals : W9 + (maxL + 11) + rm.locals ≤ R.locals)
    (hws : ∀ w ∈ ws, ∀ a' U, s.WarmedH U.vm → w.before a' U = true) (hcode : Cond.codeWith y bytes maxL ret hh ∈ ws) (hinit : ∀ a' U, s.WarmedH U.vm → (Cond.initialized y.cls).before a' U = true) :
    vx_Back l R p e below s sargs y len W9 (PreOf R mc ms Pc) (PostOf Qc mc ms free) (vx_Post XC mc ms free) := by
  intro m meth c A g ig mk a X hg hsize hdg hW hn hp
  have h1 : (headSpec ws rm).pre.before a A.U = true := atoms_intro fun w hw => hws w hw _ _ X.warmed
  have h2 : (Cond.codeWith y bytes maxL ret hh).before a A.U = true := hws _ hcode _ _ X.warmed
  have h3 : (Cond.initialized y.cls).before a A.U = true := hinit _ _ X.warmed
  have h4 : A.cells + (headSpec ws rm).room.cells ≤ R.cells := by rw [show (headSpec ws rm).room.cells = mc from hrc]; exact hp.1
  have h5 : A.slots + (headSpec ws rm).room.slots ≤ R.slots := by rw [show (headSpec ws rm).room.slots = ms from hrs]; exact hp.2.1
  have hPc : Pc a (A.U.calling g mk a) := hblind _ _ _ _ hp.2.2
  obtain ⟨U, Ls, c0, s0⟩ := A
  dsimp only [Pt.U, Pt.locs, Pt.cells, Pt.slots] at h1 h2 h3 h4 h5 X hn hPc ⊢
  obtain ⟨m9, methY, cY, hn9, hmY, hcY, -, hlY, -⟩ := Cond.codeWith_spec h2
  cases Option.some.inj (hn9.symm.trans hn)
  obtain ⟨kY, hkY, -⟩ := className_of_methodNamed hn
  have hinitY : kY.init = .initialized := Cond.initialized_spec (findClass_of_methodNamed hn) hkY h3
  have h : At U g.method c below := by rw [hg]; exact X.here
  have hlocals9 : W9 + (maxL + 11) + (headSpec ws rm).room.locals ≤ R.locals := hlocals
  have happ : (headSpec ws rm).appliesLoose y e.platform (U.calling g mk a) = true :=
    Spec.appliesLoose_calling (g := g) h hdg hn hkY hinitY
      (X.room_calling (g := g) (R' := (headSpec ws rm).room) hsize hmY hcY hframes (by rw [hlY]; omega) h4 h5) h1
  obtain ⟨mid, hmid⟩ := h.above
  have hfr : (U.setTop g).frames = (.java g :: mid) ++ below := by rw [State.frames_setTop' g h.top, hmid]; rfl
  obtain ⟨o, s₂, hsteps, -, hend, hq⟩ := Steps.callFree hM p X.admits X.cas X.clock (acts := []) hfr happ hPc trivial
  have hq' : vx_Q Qc XC mc ms free a (U.calling g mk a) o s₂ := hq
  rw [State.frames_setTop' g h.top] at hend
  obtain ⟨g₀, hg0⟩ := Option.isSome_iff_exists.mp h.top
  obtain ⟨r, hr⟩ := State.topJava?_eq_some.mp hg0
  have hr' : (({ U with heap := s₂.heap, slotsUsed := s₂.slotsUsed } : State).setVm s₂.vm).frames = .java g₀ :: r := hr
  rcases hq' with ⟨hqc, L, hfe, hL⟩ | ⟨q, rfl, E, ce, L, hx, hce, hcv, hcl, hW₂, hsm, hL⟩
  · obtain ⟨⟨v, rfl⟩, hW₂, e2, q2, q3, q4, q5, q6⟩ := id hfe
    have e3 : s₂ = ({ (U.calling g mk a).setFrames s₂.frames with heap := s₂.heap, slotsUsed := s₂.slotsUsed } : State).setVm s₂.vm := by
      have : s₂ = ({ s₂ with vm := (U.calling g mk a).vm } : State).setVm s₂.vm := rfl
      rw [e2] at this
      exact this
    obtain ⟨c₂, i₂, len₂, hc₂, hd₂, hf₂⟩ := hend
    have hW' : U.WarmedH s₂.vm := hW₂
    have hcc : c₂ = c := by
      have h1 : s₂.code? g.method = U.code? g.method := by
        rw [State.code?_eq, State.code?_eq, hW'.alike.method?]
      exact Option.some.inj (hc₂.symm.trans (h1.trans h.code))
    subst hcc
    have hlen : len₂ = len := by rw [hdg] at hd₂; cases hd₂; rfl
    subst hlen
    have hs₂ : s₂ = (({ U with heap := s₂.heap, slotsUsed := s₂.slotsUsed } : State).setVm s₂.vm).setTop { g with pc := g.pc + len₂, stack := v.toList ++ g.stack } := by
      refine e3.trans ?_
      rw [hf₂, State.calling_eq h.top, State.setFrames_setFrames, State.setTop_of_frames _ hr', hr]
      rfl
    have hsame : U.sameButNew ({ U with heap := s₂.heap, slotsUsed := s₂.slotsUsed } : State) L mc ms := by
      refine ⟨?_, q2, q3, q4, q5, q6⟩
      obtain ⟨t, ht, -⟩ := State.frames_cons hr
      show ({ U with heap := s₂.heap, slotsUsed := s₂.slotsUsed } : State) = { U.setFrames U.frames with heap := s₂.heap, slotsUsed := s₂.slotsUsed }
      rw [State.setFrames_self ht]
    subst hg
    refine Or.inl ⟨v, ⟨(({ U with heap := s₂.heap, slotsUsed := s₂.slotsUsed } : State).setVm s₂.vm), Ls ++ L, c0 + mc, s0 + ms⟩,
      ⟨X.admits, X.cas, X.clock, X.frames, X.room, X.hears, X.method, X.code, (X.here.setHeapUsed s₂.heap s₂.slotsUsed).setVm hW'.alike, X.tail, State.WarmedH.trans X.warmed hW', X.limits, X.bytes, X.same.trans (hsame.setVm s.vm)⟩,
      ⟨g, mk, s₂, L, rfl, rfl, hqc, rfl, hL, rfl, rfl⟩, ?_⟩
    show Steps p.tables e below _ ((({ U with heap := s₂.heap, slotsUsed := s₂.slotsUsed } : State).setVm s₂.vm).setTop { g with pc := g.pc + len₂, stack := v.toList ++ g.stack })
    rw [← hs₂]
    exact hsteps
  · obtain ⟨e2, q2, q3, q4, q5, q6⟩ := id hsm
    have e3 : s₂ = ({ (U.calling g mk a).setFrames s₂.frames with heap := s₂.heap, slotsUsed := s₂.slotsUsed } : State).setVm s₂.vm := by
      have : s₂ = ({ s₂ with vm := (U.calling g mk a).vm } : State).setVm s₂.vm := rfl
      rw [e2] at this
      exact this
    have hf₂ : s₂.frames = .throwing q :: .java g :: U.frames.tail := hend
    have hW' : U.WarmedH s₂.vm := hW₂
    have hs₂ : s₂ = ((({ U with heap := s₂.heap, slotsUsed := s₂.slotsUsed } : State).setVm s₂.vm).setTop g).pushFrame (.throwing q) := by
      refine e3.trans ?_
      rw [hf₂, State.calling_eq h.top, State.setFrames_setFrames, State.pushFrame, State.frames_setTop _ hr', State.setTop_of_frames _ hr', State.setFrames_setFrames, hr]
      rfl
    have hsame : U.sameButNew ({ U with heap := s₂.heap, slotsUsed := s₂.slotsUsed } : State) L mc ms := by
      refine ⟨?_, q2, q3, q4, q5, q6⟩
      obtain ⟨t, ht, -⟩ := State.frames_cons hr
      show ({ U with heap := s₂.heap, slotsUsed := s₂.slotsUsed } : State) = { U.setFrames U.frames with heap := s₂.heap, slotsUsed := s₂.slotsUsed }
      rw [State.setFrames_self ht]
    subst hg
    refine Or.inr ⟨q, ⟨(({ U with heap := s₂.heap, slotsUsed := s₂.slotsUsed } : State).setVm s₂.vm), Ls ++ L, c0 + mc, s0 + ms⟩,
      ⟨X.admits, X.cas, X.clock, X.frames, X.room, X.hears, X.method, X.code, (X.here.setHeapUsed s₂.heap s₂.slotsUsed).setVm hW'.alike, X.tail, State.WarmedH.trans X.warmed hW', X.limits, X.bytes, X.same.trans (hsame.setVm s.vm)⟩,
      ⟨g, mk, s₂, L, E, ce, rfl, rfl, hx, hce, hcv, hcl, rfl, hL, rfl, rfl⟩, ?_⟩
    show Steps p.tables e below _ (((({ U with heap := s₂.heap, slotsUsed := s₂.slotsUsed } : State).setVm s₂.vm).setTop g).pushFrame (.throwing q))
    rw [← hs₂]
    exact hsteps
end
variable {p : Program} {l : Launch} {e : Env} {R : Room} {s : State} {m : MethodId} {args : Array Value} {below : List Frame} {meth : Method} {c : Code} {T : State} {H : Heap} {locs : List Loc} {cells slots : Nat}
theorem vx_callVX (X : Stand p l e R s m args below meth c T locs cells slots) (hexec : p.tables.exec = Jvm.exec) {own C : String} {index : Nat} {y : MethodName} {bytes : ByteArray} {maxL : Nat} {ret : Option FieldType} {hh : List (Nat × Nat × Nat × Nat)}
    (hown : s.vm.findClass own = some m.cls) (hlink : (Cond.methodLink own index y).before args s = true) (hinst : (Cond.instanceMethod y).before args s = true) (hsel : (Cond.selects C y y).before args s = true)
    (hcode : (Cond.codeWith y bytes maxL ret hh).before args s = true) (hy : y.cls ≠ "java/lang/invoke/MethodHandle" ∧ y.cls ≠ "java/lang/invoke/VarHandle")
    {W9 : Nat} {Pre : Pt → Array Value → Prop} {Post : Pt → Array Value → Option Value → Pt → Prop} {PostX : Pt → Array Value → Addr → Pt → Prop} (hK : vx_Back l R p e below s args y 3 W9 Pre Post PostX)
    {b : Addr} {cellB : Cell} (hcell : T.heap[b]? = some cellB) (hobj : cellB.vm.isStatics = false) (hcls : s.vm.findClass C = some cellB.cls)
    {g : JFrame} (hg : g.method = m) (hsize : g.locals.size = c.maxLocals) {argsL rest : List Value} (hlen : ∀ sig, parseMethodDescriptor y.desc = some sig → argsL.length = sig.parameters.length)
    (hstack : g.stack = argsL.reverse ++ .ref b :: rest) (hW : 2 * g.monitorRoom + (rest.map fun v => v.category).sum ≤ W9) (hdg : decode c.code g.pc = .ok (.invokevirtual index, 3))
    (hpre : ∀ vm₁, s.WarmedH vm₁ → Pre ⟨T.setVm vm₁, locs, cells, slots⟩ (Value.ref b :: argsL).toArray) :
    (∃ (v : Option Value) (vm₁ : Vm) (B : Pt), s.WarmedH vm₁ ∧ Stand p l e R s m args below meth c B.U B.locs B.cells B.slots ∧ Post ⟨T.setVm vm₁, locs, cells, slots⟩ (Value.ref b :: argsL).toArray v B ∧
      ∀ target, Steps p.tables e below (B.U.setTop { g with pc := g.pc + 3, stack := v.toList ++ rest }) target → Steps p.tables e below (T.setTop g) target) ∨
    (∃ (q : Addr) (vm₁ : Vm) (B : Pt), s.WarmedH vm₁ ∧ Stand p l e R s m args below meth c B.U B.locs B.cells B.slots ∧ PostX ⟨T.setVm vm₁, locs, cells, slots⟩ (Value.ref b :: argsL).toArray q B ∧
      Steps p.tables e below (T.setTop g) ((B.U.setTop { g with stack := rest }).pushFrame (.throwing q))) := by
  obtain ⟨mk, methM, hnamed, hmethM, hstM, habM⟩ := Cond.instanceMethod_spec hinst
  obtain ⟨m8, methM', cM, hn8, hmethM', -, -, -, -, -, -, hsigM⟩ := Cond.codeWith_spec hcode
  cases Option.some.inj (hn8.symm.trans hnamed)
  cases hmethM.symm.trans hmethM'
  obtain ⟨c2, r2, m2, q1, q2, q3, q4, kP, hkP, hkPi⟩ := Cond.selects_spec hsel
  cases hcls.symm.trans q1
  cases (State.methodFound?_of_named hnamed hy).symm.trans q2
  cases hnamed.symm.trans q3
  have hselP : selectMethod e.platform s.vm cellB.cls mk = .method mk := by rw [Launch.admits_selectMethod X.admits]; exact q4
  obtain ⟨vm₁, X₁, hstep₁⟩ := X.invokevirtual hexec hown hlink hnamed hmethM hstM hkP hkPi hy (a := b) (cell := cellB) hcell
    (fun z h => by rw [h] at hobj; cases hobj) hselP hmethM habM hkP hkPi (g := g) hg (argsL := argsL) (rest := rest) (hlen _ hsigM) hstack hdg
  rcases hK m meth c ⟨T.setVm vm₁, locs, cells, slots⟩ { g with stack := rest } (.invokevirtual index) mk (Value.ref b :: argsL).toArray X₁ hg hsize hdg hW (X₁.named hnamed) (hpre vm₁ X₁.warmed) with ⟨v, B, X', hpost, hsteps⟩ | ⟨q, B, X', hpost, hsteps⟩
  · exact Or.inl ⟨v, vm₁, B, X₁.warmed, X', hpost, fun target h => hstep₁ _ fun acts => by rw [doInvoke_state]; exact hsteps.trans h⟩
  · exact Or.inr ⟨q, vm₁, B, X₁.warmed, X', hpost, hstep₁ _ fun acts => by rw [doInvoke_state]; exact hsteps⟩
theorem vx_callSX (X : Stand p l e R s m args below meth c T locs cells slots) (hexec : p.tables.exec = Jvm.exec) {own : String} {index : Nat} {y : MethodName} {bytes : ByteArray} {maxL : Nat} {ret : Option FieldType} {hh : List (Nat × Nat × Nat × Nat)}
    (hown : s.vm.findClass own = some m.cls) (hlink : (Cond.methodLink own index y).before args s = true) (hstat : (Cond.static y).before args s = true) (hinit : (Cond.initialized y.cls).before args s = true)
    (hcode : (Cond.codeWith y bytes maxL ret hh).before args s = true) (hy : y.cls ≠ "java/lang/invoke/MethodHandle" ∧ y.cls ≠ "java/lang/invoke/VarHandle")
    {W9 : Nat} {Pre : Pt → Array Value → Prop} {Post : Pt → Array Value → Option Value → Pt → Prop} {PostX : Pt → Array Value → Addr → Pt → Prop} (hK : vx_Back l R p e below s args y 3 W9 Pre Post PostX)
    {g : JFrame} (hg : g.method = m) (hsize : g.locals.size = c.maxLocals) {argsL rest : List Value} (hlen : ∀ sig, parseMethodDescriptor y.desc = some sig → argsL.length = sig.parameters.length)
    (hstack : g.stack = argsL.reverse ++ rest) (hW : 2 * g.monitorRoom + (rest.map fun v => v.category).sum ≤ W9) (hdg : decode c.code g.pc = .ok (.invokestatic index, 3))
    (hpre : ∀ vm₁, s.WarmedH vm₁ → Pre ⟨T.setVm vm₁, locs, cells, slots⟩ argsL.toArray) :
    (∃ (v : Option Value) (vm₁ : Vm) (B : Pt), s.WarmedH vm₁ ∧ Stand p l e R s m args below meth c B.U B.locs B.cells B.slots ∧ Post ⟨T.setVm vm₁, locs, cells, slots⟩ argsL.toArray v B ∧
      ∀ target, Steps p.tables e below (B.U.setTop { g with pc := g.pc + 3, stack := v.toList ++ rest }) target → Steps p.tables e below (T.setTop g) target) ∨
    (∃ (q : Addr) (vm₁ : Vm) (B : Pt), s.WarmedH vm₁ ∧ Stand p l e R s m args below meth c B.U B.locs B.cells B.slots ∧ PostX ⟨T.setVm vm₁, locs, cells, slots⟩ argsL.toArray q B ∧
      Steps p.tables e below (T.setTop g) ((B.U.setTop { g with stack := rest }).pushFrame (.throwing q))) := by
  obtain ⟨mk, methM, cM, hnamed, hmethM, -, -, -, -, -, -, hsigM⟩ := Cond.codeWith_spec hcode
  have hstatic : methM.isStatic = true := Cond.static_spec hnamed hmethM hstat
  obtain ⟨kP, hkP, -⟩ := className_of_methodNamed hnamed
  have hinitP : kP.init = .initialized := Cond.initialized_spec (findClass_of_methodNamed hnamed) hkP hinit
  obtain ⟨vm₁, X₁, hstep₁⟩ := X.invokestatic hexec hown hlink hnamed hmethM hstatic hkP hinitP hy (g := g) hg (argsL := argsL) (rest := rest) (hlen _ hsigM) hstack hdg
  rcases hK m meth c ⟨T.setVm vm₁, locs, cells, slots⟩ { g with stack := rest } (.invokestatic index) mk argsL.toArray X₁ hg hsize hdg hW (X₁.named hnamed) (hpre vm₁ X₁.warmed) with ⟨v, B, X', hpost, hsteps⟩ | ⟨q, B, X', hpost, hsteps⟩
  · exact Or.inl ⟨v, vm₁, B, X₁.warmed, X', hpost, fun target h => hstep₁ _ fun acts => by rw [doInvoke_state]; exact hsteps.trans h⟩
  · exact Or.inr ⟨q, vm₁, B, X₁.warmed, X', hpost, hstep₁ _ fun acts => by rw [doInvoke_state]; exact hsteps⟩
theorem vx_callVW (X : Stand p l e R s m args below meth c T locs cells slots) (hexec : p.tables.exec = Jvm.exec) {own C : String} {index : Nat} {y : MethodName} {bytes : ByteArray} {maxL : Nat} {ret : Option FieldType} {hh : List (Nat × Nat × Nat × Nat)}
    (hown : s.vm.findClass own = some m.cls) (hlink : (Cond.methodLink own index y).before args s = true) (hinst : (Cond.instanceMethod y).before args s = true) (hsel : (Cond.selects C y y).before args s = true)
    (hcode : (Cond.codeWith y bytes maxL ret hh).before args s = true) (hy : y.cls ≠ "java/lang/invoke/MethodHandle" ∧ y.cls ≠ "java/lang/invoke/VarHandle")
    {W9 : Nat} {Pre : Pt → Array Value → Prop} {Post : Pt → Array Value → Option Value → Pt → Prop} (hK : Back l R p e below s args y 3 W9 Pre Post)
    {b : Addr} {cellB : Cell} (hcell : T.heap[b]? = some cellB) (hobj : cellB.vm.isStatics = false) (hcls : s.vm.findClass C = some cellB.cls)
    {g : JFrame} (hg : g.method = m) (hsize : g.locals.size = c.maxLocals) {argsL rest : List Value} (hlen : ∀ sig, parseMethodDescriptor y.desc = some sig → argsL.length = sig.parameters.length)
    (hstack : g.stack = argsL.reverse ++ .ref b :: rest) (hW : 2 * g.monitorRoom + (rest.map fun v => v.category).sum ≤ W9) (hdg : decode c.code g.pc = .ok (.invokevirtual index, 3))
    (hpre : ∀ vm₁, s.WarmedH vm₁ → Pre ⟨T.setVm vm₁, locs, cells, slots⟩ (Value.ref b :: argsL).toArray) :
    ∃ (v : Option Value) (vm₁ : Vm) (B : Pt), s.WarmedH vm₁ ∧ Stand p l e R s m args below meth c B.U B.locs B.cells B.slots ∧ Post ⟨T.setVm vm₁, locs, cells, slots⟩ (Value.ref b :: argsL).toArray v B ∧
      ∀ target, Steps p.tables e below (B.U.setTop { g with pc := g.pc + 3, stack := v.toList ++ rest }) target → Steps p.tables e below (T.setTop g) target := by
  obtain ⟨mk, methM, hnamed, hmethM, hstM, habM⟩ := Cond.instanceMethod_spec hinst
  obtain ⟨m8, methM', cM, hn8, hmethM', -, -, -, -, -, -, hsigM⟩ := Cond.codeWith_spec hcode
  cases Option.some.inj (hn8.symm.trans hnamed)
  cases hmethM.symm.trans hmethM'
  obtain ⟨c2, r2, m2, q1, q2, q3, q4, kP, hkP, hkPi⟩ := Cond.selects_spec hsel
  cases hcls.symm.trans q1
  cases (State.methodFound?_of_named hnamed hy).symm.trans q2
  cases hnamed.symm.trans q3
  have hselP : selectMethod e.platform s.vm cellB.cls mk = .method mk := by rw [Launch.admits_selectMethod X.admits]; exact q4
  obtain ⟨vm₁, X₁, hstep₁⟩ := X.invokevirtual hexec hown hlink hnamed hmethM hstM hkP hkPi hy (a := b) (cell := cellB) hcell
    (fun z h => by rw [h] at hobj; cases hobj) hselP hmethM habM hkP hkPi (g := g) hg (argsL := argsL) (rest := rest) (hlen _ hsigM) hstack hdg
  obtain ⟨v, B, X', hpost, hsteps⟩ := hK m meth c ⟨T.setVm vm₁, locs, cells, slots⟩ { g with stack := rest } (.invokevirtual index) mk (Value.ref b :: argsL).toArray X₁ hg hsize hdg hW (X₁.named hnamed) (hpre vm₁ X₁.warmed)
  exact ⟨v, vm₁, B, X₁.warmed, X', hpost, fun target h => hstep₁ _ fun acts => by rw [doInvoke_state]; exact hsteps.trans h⟩
abbrev vx_CVW (R : Room) (s : State) (args : Array Value) (own C : String) (index : Nat) (y : MethodName) (bytes : ByteArray) (maxL : Nat) (ret : Option FieldType) (hh : List (Nat × Nat × Nat × Nat)) (ws : List Cond) (rm : Room) (mc ms n : Nat) : Prop :=
  (rm.cells = mc ∧ rm.slots = ms ∧ rm.frames + 1 ≤ R.frames ∧ 8 + (maxL + 11) + rm.locals ≤ R.locals ∧ (∀ w ∈ ws, ∀ (a' : Array Value) (U : State), s.WarmedH U.vm → w.before a' U = true) ∧ Cond.codeWith y bytes maxL ret hh ∈ ws) ∧
  (Cond.codeWith y bytes maxL ret hh).before args s = true ∧ (Cond.initialized y.cls).before args s = true ∧ (y.cls ≠ "java/lang/invoke/MethodHandle" ∧ y.cls ≠ "java/lang/invoke/VarHandle") ∧
  (∀ sig, parseMethodDescriptor y.desc = some sig → n = sig.parameters.length) ∧ (Cond.methodLink own index y).before args s = true ∧ (Cond.instanceMethod y).before args s = true ∧ (Cond.selects C y y).before args s = true
theorem vx_cwVW {own C : String} {index maxL mc ms : Nat} {y : MethodName} {bytes : ByteArray} {ret : Option FieldType} {hh : List (Nat × Nat × Nat × Nat)} {Ts ws ws' : List Cond} {rm : Room} (n : Nat) (ht : ∀ w ∈ Ts, w.before args s = true) (hT : GoodIn Ts (wsV own index C y ws)) (hw : ws = Cond.codeWith y bytes maxL ret hh :: ws') (hrc : rm.cells = mc) (hrs : rm.slots = ms)
    (hd : y.cls = C ∧ y.cls ≠ "java/lang/invoke/MethodHandle" ∧ y.cls ≠ "java/lang/invoke/VarHandle" ∧ (parseMethodDescriptor y.desc).map (fun d => d.parameters.length) = some n) (hR : rm.frames + 1 ≤ R.frames ∧ 8 + (maxL + 11) + rm.locals ≤ R.locals) :
    vx_CVW R s args own C index y bytes maxL ret hh ws rm mc ms n := by
  obtain ⟨hC, hd⟩ := hd
  subst hC
  have ok : ∀ w ∈ wsV own index y.cls y ws, w.before args s = true := fun w h => ht w (hT w h).1
  have hG : GoodIn Ts ws := fun w h => hT w (by unfold wsV; exact List.mem_append_right _ h)
  have hc : Cond.codeWith y bytes maxL ret hh ∈ ws := by rw [hw]; exact List.mem_cons_self
  refine ⟨⟨hrc, hrs, hR.1, hR.2, pay_in ht hG, hc⟩, ht _ (hG _ hc).1, ok _ (by simp [wsV]), ⟨hd.1, hd.2.1⟩, fun sig h => ?_, ok _ (by simp [wsV]), ok _ (by simp [wsV]), ok _ (by simp [wsV])⟩
  have h2 := hd.2.2
  rw [h] at h2
  exact (Option.some.inj h2).symm
theorem vx_runVW {y : MethodName} {bytes cc : ByteArray} {maxL nL mc ms n index : Nat} {ret : Option FieldType} {hh : List (Nat × Nat × Nat × Nat)} {ws : List Cond} {rm : Room} {Pc : Array Value → State → Prop} {Qc : Array Value → State → Outcome → State → Prop} {free : Addr → Prop} {Ts : List Cond} {own C : String} {b : Addr} {As rest : List Value} {g : JFrame}
    (S : CallFix p m c cc nL s args Ts own) (hM : Met l y ws rm Pc Qc mc ms free) (cw : vx_CVW R s args own C index y bytes maxL ret hh ws rm mc ms n) (hp : PreV s H C b Pc As)
    (hg : g.method = m) (hn : As.length = n) (hsize : g.locals.size = nL) (hstack : g.stack = As.reverse ++ .ref b :: rest) (hW : 2 * g.monitorRoom + (rest.map fun v => v.category).sum ≤ 8) (hdg : decode cc g.pc = .ok (.invokevirtual index, 3)) (hf : cells + mc ≤ R.cells ∧ slots + ms ≤ R.slots) :
    va_Run p l e R s m args below meth c H locs cells slots mc ms g rest (Qc (Value.ref b :: As).toArray) free := by
  obtain ⟨⟨hrc, hrs, hfr, hlo, hws, hcw⟩, hcode, hini, hy, hlen, hl, hin, hse⟩ := cw
  have hK : Back l R p e below s args y 3 8 (PreOf R mc ms Pc) (PostOf Qc mc ms free) := va_backW (hh := hh) (bytes := bytes) (maxL := maxL) (ret := ret) hM hp.1 hrc hrs hfr hlo hws hcw (fun a' U hW => word_at hW (Or.inl (by first | rfl | simp [Cond.onTables, Cond.keeps, Cond.steady])) hini)
  obtain ⟨hx, hb, hml, ho, -⟩ := S
  obtain ⟨-, ⟨cellB, hcB, hoB, hclB⟩, hPc⟩ := hp
  intro T hT X
  obtain ⟨v, vm₁, ⟨U', l2, c2, s2⟩, hW₁, X', ⟨g', mk, t, L, e1, e2, hq, h1, hL, h2, h3⟩, st⟩ := vx_callVW X hx (C := C) (hh := hh) (bytes := bytes) (maxL := maxL) (ret := ret) ho hl hin hse hcode hy hK (by rw [hT]; exact hcB) hoB hclB hg (hsize.trans hml.symm) (argsL := As) (rest := rest) (fun sig h => hn.trans (hlen sig h)) hstack hW (by rw [hb]; exact hdg)
    (fun vm₁ hW₁ => ⟨hf.1, hf.2, hPc (T.setVm vm₁) hT hW₁⟩)
  dsimp only [Pt.U, Pt.locs, Pt.cells, Pt.slots] at X' e1 e2 h1 h2 h3 st
  subst h1; subst h2; subst h3
  exact ⟨v, (T.setVm vm₁).calling g' mk (Value.ref b :: As).toArray, t, U', L, hT, X', hL, e1, e2, hq, st⟩
section
variable {y : MethodName} {bytes cc : ByteArray} {maxL nL mc ms n index : Nat} {ret : Option FieldType} {ws : List Cond} {rm : Room} {Pc : Array Value → State → Prop} {Qc : Array Value → State → Outcome → State → Prop} {XC : String → State → State → Prop} {free : Addr → Prop} {Ts : List Cond} {own C : String} {b : Addr} {As rest : List Value} {g : JFrame}
theorem vx_runVX {hh : List (Nat × Nat × Nat × Nat)} (S : CallFix p m c cc nL s args Ts own) (hM : vx_Met l y ws rm Pc Qc XC mc ms free) (cw : vx_CVW R s args own C index y bytes maxL ret hh ws rm mc ms n) (hp : PreV s H C b Pc As)
    (hg : g.method = m) (hn : As.length = n) (hsize : g.locals.size = nL) (hstack : g.stack = As.reverse ++ .ref b :: rest) (hW : 2 * g.monitorRoom + (rest.map fun v => v.category).sum ≤ 8) (hdg : decode cc g.pc = .ok (.invokevirtual index, 3)) (hf : cells + mc ≤ R.cells ∧ slots + ms ≤ R.slots) :
    vx_Run p l e R s m args below meth c H locs cells slots mc ms g rest (Qc (Value.ref b :: As).toArray) XC free := by
  obtain ⟨⟨hrc, hrs, hfr, hlo, hws, hcw⟩, hcode, hini, hy, hlen, hl, hin, hse⟩ := cw
  have hK : vx_Back l R p e below s args y 3 8 (PreOf R mc ms Pc) (PostOf Qc mc ms free) (vx_Post XC mc ms free) := vx_backW (hh := hh) (bytes := bytes) (maxL := maxL) (ret := ret) hM hp.1 hrc hrs hfr hlo hws hcw (fun a' U hW => word_at hW (Or.inl (by first | rfl | simp [Cond.onTables, Cond.keeps, Cond.steady])) hini)
  obtain ⟨hx, hb, hml, ho, -⟩ := S
  obtain ⟨-, ⟨cellB, hcB, hoB, hclB⟩, hPc⟩ := hp
  intro T hT X
  rcases vx_callVX X hx (C := C) (hh := hh) (bytes := bytes) (maxL := maxL) (ret := ret) ho hl hin hse hcode hy hK (by rw [hT]; exact hcB) hoB hclB hg (hsize.trans hml.symm) (argsL := As) (rest := rest) (fun sig h => hn.trans (hlen sig h)) hstack hW (by rw [hb]; exact hdg)
    (fun vm₁ hW₁ => ⟨hf.1, hf.2, hPc (T.setVm vm₁) hT hW₁⟩) with ⟨v, vm₁, ⟨U', l2, c2, s2⟩, hW₁, X', ⟨g', mk, t, L, e1, e2, hq, h1, hL, h2, h3⟩, st⟩ | ⟨q, vm₁, ⟨U', l2, c2, s2⟩, hW₁, X', ⟨g', mk, t, L, E, ce, e1, e2, hq, hce, hcv, hcl, h1, hL, h2, h3⟩, st⟩
  · dsimp only [Pt.U, Pt.locs, Pt.cells, Pt.slots] at X' e1 e2 h1 h2 h3 st
    subst h1; subst h2; subst h3
    exact Or.inl ⟨v, (T.setVm vm₁).calling g' mk (Value.ref b :: As).toArray, t, U', L, hT, X', hL, e1, e2, hq, st⟩
  · dsimp only [Pt.U, Pt.locs, Pt.cells, Pt.slots] at X' e1 e2 h1 h2 h3 st hcl
    subst h1; subst h2; subst h3
    exact Or.inr ⟨q, (T.setVm vm₁).calling g' mk (Value.ref b :: As).toArray, t, U', L, E, ce, hT, X', hL, e1, e2, hq, hce, hcv, vx_cls hW₁ hcl, st⟩
theorem vx_runSX {hh : List (Nat × Nat × Nat × Nat)} (S : CallFix p m c cc nL s args Ts own) (hM : vx_Met l y ws rm Pc Qc XC mc ms free) (cw : vx_CSW R s args own index y bytes maxL ret hh ws rm mc ms n) (hp : PreS s H Pc As)
    (hg : g.method = m) (hn : As.length = n) (hsize : g.locals.size = nL) (hstack : g.stack = As.reverse ++ rest) (hW : 2 * g.monitorRoom + (rest.map fun v => v.category).sum ≤ 8) (hdg : decode cc g.pc = .ok (.invokestatic index, 3)) (hf : cells + mc ≤ R.cells ∧ slots + ms ≤ R.slots) :
    vx_Run p l e R s m args below meth c H locs cells slots mc ms g rest (Qc As.toArray) XC free := by
  obtain ⟨⟨hrc, hrs, hfr, hlo, hws, hcw⟩, hcode, hini, hy, hlen, hl, hstt⟩ := cw
  have hK : vx_Back l R p e below s args y 3 8 (PreOf R mc ms Pc) (PostOf Qc mc ms free) (vx_Post XC mc ms free) := vx_backW (hh := hh) (bytes := bytes) (maxL := maxL) (ret := ret) hM hp.1 hrc hrs hfr hlo hws hcw (fun a' U hW => word_at hW (Or.inl (by first | rfl | simp [Cond.onTables, Cond.keeps, Cond.steady])) hini)
  obtain ⟨hx, hb, hml, ho, -⟩ := S
  intro T hT X
  rcases vx_callSX X hx (hh := hh) (bytes := bytes) (maxL := maxL) (ret := ret) ho hl hstt hini hcode hy hK hg (hsize.trans hml.symm) (argsL := As) (rest := rest) (fun sig h => hn.trans (hlen sig h)) hstack hW (by rw [hb]; exact hdg)
    (fun vm₁ hW₁ => ⟨hf.1, hf.2, hp.2 (T.setVm vm₁) hT hW₁⟩) with ⟨v, vm₁, ⟨U', l2, c2, s2⟩, hW₁, X', ⟨g', mk, t, L, e1, e2, hq, h1, hL, h2, h3⟩, st⟩ | ⟨q, vm₁, ⟨U', l2, c2, s2⟩, hW₁, X', ⟨g', mk, t, L, E, ce, e1, e2, hq, hce, hcv, hcl, h1, hL, h2, h3⟩, st⟩
  · dsimp only [Pt.U, Pt.locs, Pt.cells, Pt.slots] at X' e1 e2 h1 h2 h3 st
    subst h1; subst h2; subst h3
    exact Or.inl ⟨v, (T.setVm vm₁).calling g' mk As.toArray, t, U', L, hT, X', hL, e1, e2, hq, st⟩
  · dsimp only [Pt.U, Pt.locs, Pt.cells, Pt.slots] at X' e1 e2 h1 h2 h3 st hcl
    subst h1; subst h2; subst h3
    exact Or.inr ⟨q, (T.setVm vm₁).calling g' mk As.toArray, t, U', L, E, ce, hT, X', hL, e1, e2, hq, hce, hcv, vx_cls hW₁ hcl, st⟩
end
end VXH
theorem vx_ofWH {l : Launch} {y : MethodName} {ws ws' : List Cond} {rm : Room} {Pc : Array Value → State → Prop} {Qc : Array Value → State → Outcome → State → Prop} {XC : String → State → State → Prop} {mc ms : Nat} {free : Addr → Prop} {cc : ByteArray} {maxL : Nat} {ret : Option FieldType} {hh : List (Nat × Nat × Nat × Nat)}
    (hy : plainName y.cls = true) (hw : ws = Cond.codeWith y cc maxL ret hh :: ws')
    (body : ∀ p e s m args below meth c s₁, BodyLoose p l y (headSpec ws rm) cc maxL ret e s m args below meth c s₁ → c.maxLocals = maxL → Pc args s →
      W p l e (headSpec ws rm).room s m args below meth c s.heap [] 0 0 (vx_MQ below Qc XC args s mc ms free) (entryFrame m args maxL)) : vx_Met l y ws rm Pc Qc XC mc ms free := by
  refine MetFree.of_bodyS (code := cc) (maxLocals := maxL) (ret := ret) hy ?_ ?_
  · intro args s m h hn
    obtain ⟨m9, meth, c, hn9, h1, h2, h3, h4, -, h5, h6, -⟩ := Cond.codeWith_spec (atoms_spec (ws := ws) h _ (by rw [hw]; exact List.mem_cons_self))
    cases hn.symm.trans hn9
    exact ⟨meth, c, h1, h2, h3, h4, h5, h6⟩
  · intro p e s m args below meth c s₁ B hml hP _
    have hh0 : s₁.heap = s.heap := by rw [B.state]; rfl
    obtain ⟨t, a1, o, b1, b2, b3⟩ := body p e s m args below meth c s₁ B hml hP s₁ hh0 (Stand.of_body B)
    exact ⟨t, o, a1, b1, b2, b3⟩
/-! ===== END ===== -/
end
section
/-! ===== BEGIN printed: names, fields, word lists, decode rows ===== -/
def RX0 : String := "PageBail$Bail"
def TX0 : u_T := fun k => match k with
  | 0 => ("PageBail$Bail", "number", "I", true)
  | 1 => ("PageBail$Bail", "sum", "I", true)
  | 2 => ("PageBail$Bail", "surety", "I", true)
  | 3 => ("PageBail$Bail", "putDay", "I", true)
  | _ => ("PageBail$Bail", "forfeitDay", "I", false)
def tyX0 : Nat → FieldType := fun k => match k with
  | 0 => .int
  | 1 => .int
  | 2 => .int
  | 3 => .int
  | _ => .int
abbrev wsX00 : List Cond := u_ws RX0 TX0 5
theorem nmX0 : ∀ a, a < 5 → ∀ b, b < 5 → a ≠ b → (TX0 a).2.1 ≠ (TX0 b).2.1 := by decide +kernel
theorem tyX0_ok : ∀ k, k < 5 → parseFieldDescriptor (TX0 k).2.2.1 = some (tyX0 k) := by decide +kernel
abbrev cX0_init : ByteArray := prog_2_method_1_code
def yX0_init : MethodName := ⟨RX0, "<init>", "(IIII)V"⟩
abbrev cX0_hasForfeitDay : ByteArray := prog_2_method_2_code
def yX0_hasForfeitDay : MethodName := ⟨RX0, "hasForfeitDay", "()Z"⟩
abbrev cX0_isOverdue : ByteArray := prog_2_method_3_code
def yX0_isOverdue : MethodName := ⟨RX0, "isOverdue", "(I)Z"⟩
abbrev cX0_isUnder : ByteArray := prog_2_method_4_code
def yX0_isUnder : MethodName := ⟨RX0, "isUnder", "(II)Z"⟩
def RX1 : String := "PageBail$BailRow"
def TX1 : u_T := fun k => match k with
  | 0 => ("PageBail$BailRow", "bails", "[LPageBail$Bail;", true)
  | _ => ("PageBail$BailRow", "count", "I", false)
def tyX1 : Nat → FieldType := fun k => match k with
  | 0 => .array (.object "PageBail$Bail")
  | _ => .int
abbrev wsX10 : List Cond := u_ws RX1 TX1 2
theorem nmX1 : ∀ a, a < 2 → ∀ b, b < 2 → a ≠ b → (TX1 a).2.1 ≠ (TX1 b).2.1 := by decide +kernel
theorem tyX1_ok : ∀ k, k < 2 → parseFieldDescriptor (TX1 k).2.2.1 = some (tyX1 k) := by decide +kernel
abbrev cX1_init : ByteArray := prog_3_method_1_code
def yX1_init : MethodName := ⟨RX1, "<init>", "()V"⟩
abbrev cX1_count : ByteArray := prog_3_method_2_code
def yX1_count : MethodName := ⟨RX1, "count", "()I"⟩
abbrev cX1_bailAt : ByteArray := prog_3_method_3_code
def yX1_bailAt : MethodName := ⟨RX1, "bailAt", "(I)LPageBail$Bail;"⟩
abbrev cX1_numberAt : ByteArray := prog_3_method_4_code
def yX1_numberAt : MethodName := ⟨RX1, "numberAt", "(I)I"⟩
abbrev cX1_countUpTo : ByteArray := prog_3_method_5_code
def yX1_countUpTo : MethodName := ⟨RX1, "countUpTo", "(I)I"⟩
abbrev cX1_placeOf : ByteArray := prog_3_method_6_code
def yX1_placeOf : MethodName := ⟨RX1, "placeOf", "(I)I"⟩
abbrev cX1_find : ByteArray := prog_3_method_7_code
def yX1_find : MethodName := ⟨RX1, "find", "(I)LPageBail$Bail;"⟩
abbrev cX1_sumOfSurety : ByteArray := prog_3_method_8_code
def yX1_sumOfSurety : MethodName := ⟨RX1, "sumOfSurety", "(I)I"⟩
abbrev cX1_insert : ByteArray := prog_3_method_9_code
def yX1_insert : MethodName := ⟨RX1, "insert", "(ILPageBail$Bail;)V"⟩
abbrev cX1_remove : ByteArray := prog_3_method_10_code
def yX1_remove : MethodName := ⟨RX1, "remove", "(I)V"⟩
def RX2 : String := "PageBail$PageRow"
def TX2 : u_T := fun k => match k with
  | 0 => ("PageBail$PageRow", "sizes", "[I", true)
  | _ => ("PageBail$PageRow", "count", "I", false)
def tyX2 : Nat → FieldType := fun k => match k with
  | 0 => .array .int
  | _ => .int
abbrev wsX20 : List Cond := u_ws RX2 TX2 2
theorem nmX2 : ∀ a, a < 2 → ∀ b, b < 2 → a ≠ b → (TX2 a).2.1 ≠ (TX2 b).2.1 := by decide +kernel
theorem tyX2_ok : ∀ k, k < 2 → parseFieldDescriptor (TX2 k).2.2.1 = some (tyX2 k) := by decide +kernel
abbrev cX2_init : ByteArray := prog_4_method_1_code
def yX2_init : MethodName := ⟨RX2, "<init>", "()V"⟩
abbrev cX2_count : ByteArray := prog_4_method_2_code
def yX2_count : MethodName := ⟨RX2, "count", "()I"⟩
abbrev cX2_has : ByteArray := prog_4_method_3_code
def yX2_has : MethodName := ⟨RX2, "has", "(I)Z"⟩
abbrev cX2_sizeOf : ByteArray := prog_4_method_4_code
def yX2_sizeOf : MethodName := ⟨RX2, "sizeOf", "(I)I"⟩
abbrev cX2_beginOf : ByteArray := prog_4_method_5_code
def yX2_beginOf : MethodName := ⟨RX2, "beginOf", "(I)I"⟩
abbrev cX2_pageWith : ByteArray := prog_4_method_6_code
def yX2_pageWith : MethodName := ⟨RX2, "pageWith", "(I)I"⟩
abbrev cX2_addTo : ByteArray := prog_4_method_7_code
def yX2_addTo : MethodName := ⟨RX2, "addTo", "(I)V"⟩
abbrev cX2_split : ByteArray := prog_4_method_8_code
def yX2_split : MethodName := ⟨RX2, "split", "(I)V"⟩
abbrev cX2_takeFrom : ByteArray := prog_4_method_9_code
def yX2_takeFrom : MethodName := ⟨RX2, "takeFrom", "(I)V"⟩
abbrev cX2_move : ByteArray := prog_4_method_10_code
def yX2_move : MethodName := ⟨RX2, "move", "(II)V"⟩
abbrev cX2_borrowOrJoin : ByteArray := prog_4_method_11_code
def yX2_borrowOrJoin : MethodName := ⟨RX2, "borrowOrJoin", "(I)V"⟩
abbrev cX2_remove : ByteArray := prog_4_method_12_code
def yX2_remove : MethodName := ⟨RX2, "remove", "(I)V"⟩
def RX3 : String := "PageBail"
def TX3 : u_T := fun k => match k with
  | 0 => ("PageBail", "bailRow", "LPageBail$BailRow;", true)
  | 1 => ("PageBail", "pageRow", "LPageBail$PageRow;", true)
  | 2 => ("PageBail", "lastRead", "[I", true)
  | 3 => ("PageBail", "now", "I", false)
  | 4 => ("PageBail", "keptInAll", "I", false)
  | 5 => ("PageBail", "paidInAll", "I", false)
  | _ => ("PageBail", "sweptPage", "I", false)
def tyX3 : Nat → FieldType := fun k => match k with
  | 0 => .object "PageBail$BailRow"
  | 1 => .object "PageBail$PageRow"
  | 2 => .array .int
  | 3 => .int
  | 4 => .int
  | 5 => .int
  | _ => .int
abbrev wsX30 : List Cond := u_ws RX3 TX3 7
theorem nmX3 : ∀ a, a < 7 → ∀ b, b < 7 → a ≠ b → (TX3 a).2.1 ≠ (TX3 b).2.1 := by decide +kernel
theorem tyX3_ok : ∀ k, k < 7 → parseFieldDescriptor (TX3 k).2.2.1 = some (tyX3 k) := by decide +kernel
abbrev cX3_init : ByteArray := prog_1_method_1_code
def yX3_init : MethodName := ⟨RX3, "<init>", "()V"⟩
abbrev cX3_put : ByteArray := prog_1_method_2_code
def yX3_put : MethodName := ⟨RX3, "put", "(III)I"⟩
abbrev cX3_payBack : ByteArray := prog_1_method_3_code
def yX3_payBack : MethodName := ⟨RX3, "payBack", "(I)I"⟩
abbrev cX3_forfeit : ByteArray := prog_1_method_4_code
def yX3_forfeit : MethodName := ⟨RX3, "forfeit", "(I)V"⟩
abbrev cX3_undo : ByteArray := prog_1_method_5_code
def yX3_undo : MethodName := ⟨RX3, "undo", "(I)I"⟩
abbrev cX3_amnesty : ByteArray := prog_1_method_6_code
def yX3_amnesty : MethodName := ⟨RX3, "amnesty", "(II)I"⟩
abbrev cX3_records : ByteArray := prog_1_method_7_code
def yX3_records : MethodName := ⟨RX3, "records", "()I"⟩
abbrev cX3_sum : ByteArray := prog_1_method_8_code
def yX3_sum : MethodName := ⟨RX3, "sum", "(I)I"⟩
abbrev cX3_isForfeited : ByteArray := prog_1_method_9_code
def yX3_isForfeited : MethodName := ⟨RX3, "isForfeited", "(I)Z"⟩
abbrev cX3_heldBy : ByteArray := prog_1_method_10_code
def yX3_heldBy : MethodName := ⟨RX3, "heldBy", "(I)I"⟩
abbrev cX3_kept : ByteArray := prog_1_method_11_code
def yX3_kept : MethodName := ⟨RX3, "kept", "()I"⟩
abbrev cX3_paidBack : ByteArray := prog_1_method_12_code
def yX3_paidBack : MethodName := ⟨RX3, "paidBack", "()I"⟩
abbrev cX3_pass : ByteArray := prog_1_method_13_code
def yX3_pass : MethodName := ⟨RX3, "pass", "(I)I"⟩
abbrev cX3_today : ByteArray := prog_1_method_14_code
def yX3_today : MethodName := ⟨RX3, "today", "()I"⟩
abbrev cX3_pages : ByteArray := prog_1_method_15_code
def yX3_pages : MethodName := ⟨RX3, "pages", "()I"⟩
abbrev cX3_size : ByteArray := prog_1_method_16_code
def yX3_size : MethodName := ⟨RX3, "size", "(I)I"⟩
abbrev cX3_at : ByteArray := prog_1_method_17_code
def yX3_at : MethodName := ⟨RX3, "at", "(II)I"⟩
abbrev cX3_pageOf : ByteArray := prog_1_method_18_code
def yX3_pageOf : MethodName := ⟨RX3, "pageOf", "(I)I"⟩
abbrev cX3_sweep : ByteArray := prog_1_method_19_code
def yX3_sweep : MethodName := ⟨RX3, "sweep", "()V"⟩
abbrev cX3_step : ByteArray := prog_1_method_20_code
def yX3_step : MethodName := ⟨RX3, "step", "(I)I"⟩
abbrev cX3_sweeping : ByteArray := prog_1_method_21_code
def yX3_sweeping : MethodName := ⟨RX3, "sweeping", "()I"⟩
abbrev cX3_walk : ByteArray := prog_1_method_22_code
def yX3_walk : MethodName := ⟨RX3, "walk", "(I)I"⟩
abbrev cX3_isIn : ByteArray := prog_1_method_23_code
def yX3_isIn : MethodName := ⟨RX3, "isIn", "(III)Z"⟩
abbrev cX3_requireCase : ByteArray := prog_1_method_24_code
def yX3_requireCase : MethodName := ⟨RX3, "requireCase", "(I)V"⟩
abbrev cX3_pageToPutOn : ByteArray := prog_1_method_25_code
def yX3_pageToPutOn : MethodName := ⟨RX3, "pageToPutOn", "(I)I"⟩
abbrev cX3_takeOut : ByteArray := prog_1_method_26_code
def yX3_takeOut : MethodName := ⟨RX3, "takeOut", "(I)V"⟩
abbrev cX3_keepOverdue : ByteArray := prog_1_method_27_code
def yX3_keepOverdue : MethodName := ⟨RX3, "keepOverdue", "()I"⟩
abbrev cX3_sweepOn : ByteArray := prog_1_method_28_code
def yX3_sweepOn : MethodName := ⟨RX3, "sweepOn", "()I"⟩
def RX4 : String := "PageBailModel"
def TX4 : u_T := fun k => match k with
  | 0 => ("PageBailModel", "thrown", "I", false)
  | 1 => ("PageBailModel", "records", "I", false)
  | 2 => ("PageBailModel", "cases", "[I", true)
  | 3 => ("PageBailModel", "sums", "[I", true)
  | 4 => ("PageBailModel", "sureties", "[I", true)
  | 5 => ("PageBailModel", "putAt", "[I", true)
  | 6 => ("PageBailModel", "forfeitedAt", "[I", true)
  | 7 => ("PageBailModel", "pages", "I", false)
  | 8 => ("PageBailModel", "sizes", "[I", true)
  | 9 => ("PageBailModel", "kept", "I", false)
  | 10 => ("PageBailModel", "paidBack", "I", false)
  | 11 => ("PageBailModel", "today", "I", false)
  | 12 => ("PageBailModel", "sweeping", "I", false)
  | _ => ("PageBailModel", "walks", "[I", true)
def tyX4 : Nat → FieldType := fun k => match k with
  | 0 => .int
  | 1 => .int
  | 2 => .array .int
  | 3 => .array .int
  | 4 => .array .int
  | 5 => .array .int
  | 6 => .array .int
  | 7 => .int
  | 8 => .array .int
  | 9 => .int
  | 10 => .int
  | 11 => .int
  | 12 => .int
  | _ => .array .int
abbrev wsX40 : List Cond := u_ws RX4 TX4 14
theorem nmX4 : ∀ a, a < 14 → ∀ b, b < 14 → a ≠ b → (TX4 a).2.1 ≠ (TX4 b).2.1 := by decide +kernel
theorem tyX4_ok : ∀ k, k < 14 → parseFieldDescriptor (TX4 k).2.2.1 = some (tyX4 k) := by decide +kernel
abbrev cX4_init : ByteArray := prog_6_method_1_code
def yX4_init : MethodName := ⟨RX4, "<init>", "()V"⟩
abbrev cX4_thrown : ByteArray := prog_6_method_2_code
def yX4_thrown : MethodName := ⟨RX4, "thrown", "()I"⟩
abbrev cX4_goesWell : ByteArray := prog_6_method_3_code
def yX4_goesWell : MethodName := ⟨RX4, "goesWell", "(I)Z"⟩
abbrev cX4_in : ByteArray := prog_6_method_4_code
def yX4_in : MethodName := ⟨RX4, "in", "(III)Z"⟩
abbrev cX4_isCase : ByteArray := prog_6_method_5_code
def yX4_isCase : MethodName := ⟨RX4, "isCase", "(I)Z"⟩
abbrev cX4_find : ByteArray := prog_6_method_6_code
def yX4_find : MethodName := ⟨RX4, "find", "(I)I"⟩
abbrev cX4_beginOf : ByteArray := prog_6_method_7_code
def yX4_beginOf : MethodName := ⟨RX4, "beginOf", "(I)I"⟩
abbrev cX4_pageAt : ByteArray := prog_6_method_8_code
def yX4_pageAt : MethodName := ⟨RX4, "pageAt", "(I)I"⟩
abbrev cX4_dropPage : ByteArray := prog_6_method_9_code
def yX4_dropPage : MethodName := ⟨RX4, "dropPage", "(I)V"⟩
abbrev cX4_pageFor : ByteArray := prog_6_method_10_code
def yX4_pageFor : MethodName := ⟨RX4, "pageFor", "(I)I"⟩
abbrev cX4_split : ByteArray := prog_6_method_11_code
def yX4_split : MethodName := ⟨RX4, "split", "(I)V"⟩
abbrev cX4_moveUp : ByteArray := prog_6_method_12_code
def yX4_moveUp : MethodName := ⟨RX4, "moveUp", "(I)V"⟩
abbrev cX4_copy : ByteArray := prog_6_method_13_code
def yX4_copy : MethodName := ⟨RX4, "copy", "(II)V"⟩
abbrev cX4_put : ByteArray := prog_6_method_14_code
def yX4_put : MethodName := ⟨RX4, "put", "(III)I"⟩
abbrev cX4_settle : ByteArray := prog_6_method_15_code
def yX4_settle : MethodName := ⟨RX4, "settle", "(I)V"⟩
abbrev cX4_takeOut : ByteArray := prog_6_method_16_code
def yX4_takeOut : MethodName := ⟨RX4, "takeOut", "(I)V"⟩
abbrev cX4_payBack : ByteArray := prog_6_method_17_code
def yX4_payBack : MethodName := ⟨RX4, "payBack", "(I)I"⟩
abbrev cX4_forfeit : ByteArray := prog_6_method_18_code
def yX4_forfeit : MethodName := ⟨RX4, "forfeit", "(I)V"⟩
abbrev cX4_undo : ByteArray := prog_6_method_19_code
def yX4_undo : MethodName := ⟨RX4, "undo", "(I)I"⟩
abbrev cX4_amnesty : ByteArray := prog_6_method_20_code
def yX4_amnesty : MethodName := ⟨RX4, "amnesty", "(II)I"⟩
abbrev cX4_records : ByteArray := prog_6_method_21_code
def yX4_records : MethodName := ⟨RX4, "records", "()I"⟩
abbrev cX4_sum : ByteArray := prog_6_method_22_code
def yX4_sum : MethodName := ⟨RX4, "sum", "(I)I"⟩
abbrev cX4_isForfeited : ByteArray := prog_6_method_23_code
def yX4_isForfeited : MethodName := ⟨RX4, "isForfeited", "(I)Z"⟩
abbrev cX4_heldBy : ByteArray := prog_6_method_24_code
def yX4_heldBy : MethodName := ⟨RX4, "heldBy", "(I)I"⟩
abbrev cX4_kept : ByteArray := prog_6_method_25_code
def yX4_kept : MethodName := ⟨RX4, "kept", "()I"⟩
abbrev cX4_paidBack : ByteArray := prog_6_method_26_code
def yX4_paidBack : MethodName := ⟨RX4, "paidBack", "()I"⟩
abbrev cX4_pass : ByteArray := prog_6_method_27_code
def yX4_pass : MethodName := ⟨RX4, "pass", "(I)I"⟩
abbrev cX4_today : ByteArray := prog_6_method_28_code
def yX4_today : MethodName := ⟨RX4, "today", "()I"⟩
abbrev cX4_pages : ByteArray := prog_6_method_29_code
def yX4_pages : MethodName := ⟨RX4, "pages", "()I"⟩
abbrev cX4_isPage : ByteArray := prog_6_method_30_code
def yX4_isPage : MethodName := ⟨RX4, "isPage", "(I)Z"⟩
abbrev cX4_size : ByteArray := prog_6_method_31_code
def yX4_size : MethodName := ⟨RX4, "size", "(I)I"⟩
abbrev cX4_at : ByteArray := prog_6_method_32_code
def yX4_at : MethodName := ⟨RX4, "at", "(II)I"⟩
abbrev cX4_pageOf : ByteArray := prog_6_method_33_code
def yX4_pageOf : MethodName := ⟨RX4, "pageOf", "(I)I"⟩
abbrev cX4_sweep : ByteArray := prog_6_method_34_code
def yX4_sweep : MethodName := ⟨RX4, "sweep", "()V"⟩
abbrev cX4_step : ByteArray := prog_6_method_35_code
def yX4_step : MethodName := ⟨RX4, "step", "(I)I"⟩
abbrev cX4_sweeping : ByteArray := prog_6_method_36_code
def yX4_sweeping : MethodName := ⟨RX4, "sweeping", "()I"⟩
abbrev cX4_walk : ByteArray := prog_6_method_37_code
def yX4_walk : MethodName := ⟨RX4, "walk", "(I)I"⟩
def RJ9 : String := "java/lang/Math"
def TJ9 : u_T := fun k => match k with
  | _ => ("", "", "", false)
def tyJ9 : Nat → FieldType := fun k => match k with
  | _ => .int
abbrev wsJ90 : List Cond := u_ws RJ9 TJ9 0
theorem nmJ9 : ∀ a, a < 0 → ∀ b, b < 0 → a ≠ b → (TJ9 a).2.1 ≠ (TJ9 b).2.1 := by decide +kernel
theorem tyJ9_ok : ∀ k, k < 0 → parseFieldDescriptor (TJ9 k).2.2.1 = some (tyJ9 k) := by decide +kernel
abbrev cJ9_max_7cf53 : ByteArray := prog_11_method_65_code
def yJ9_max_7cf53 : MethodName := ⟨RJ9, "max", "(II)I"⟩
def RJ0 : String := "java/lang/String"
def TJ0 : u_T := fun k => match k with
  | _ => ("", "", "", false)
def tyJ0 : Nat → FieldType := fun k => match k with
  | _ => .int
abbrev wsJ00 : List Cond := u_ws RJ0 TJ0 0
theorem nmJ0 : ∀ a, a < 0 → ∀ b, b < 0 → a ≠ b → (TJ0 a).2.1 ≠ (TJ0 b).2.1 := by decide +kernel
theorem tyJ0_ok : ∀ k, k < 0 → parseFieldDescriptor (TJ0 k).2.2.1 = some (tyJ0 k) := by decide +kernel
def RL : String := "PageBailLaw"
abbrev cL_put : ByteArray := method_3_code
def yL_put : MethodName := ⟨RL, "put", "(LPageBail;III[J)I"⟩
abbrev cL_payBack : ByteArray := method_4_code
def yL_payBack : MethodName := ⟨RL, "payBack", "(LPageBail;I[J)I"⟩
abbrev cL_forfeit : ByteArray := method_5_code
def yL_forfeit : MethodName := ⟨RL, "forfeit", "(LPageBail;I)I"⟩
abbrev cL_undo : ByteArray := method_6_code
def yL_undo : MethodName := ⟨RL, "undo", "(LPageBail;I[J)I"⟩
abbrev cL_amnesty : ByteArray := method_7_code
def yL_amnesty : MethodName := ⟨RL, "amnesty", "(LPageBail;II[J)I"⟩
abbrev cL_sum : ByteArray := method_8_code
def yL_sum : MethodName := ⟨RL, "sum", "(LPageBail;I[J)I"⟩
abbrev cL_isForfeited : ByteArray := method_9_code
def yL_isForfeited : MethodName := ⟨RL, "isForfeited", "(LPageBail;I[J)I"⟩
abbrev cL_heldBy : ByteArray := method_10_code
def yL_heldBy : MethodName := ⟨RL, "heldBy", "(LPageBail;I[J)I"⟩
abbrev cL_pass : ByteArray := method_11_code
def yL_pass : MethodName := ⟨RL, "pass", "(LPageBail;I[J)I"⟩
abbrev cL_size : ByteArray := method_12_code
def yL_size : MethodName := ⟨RL, "size", "(LPageBail;I[J)I"⟩
abbrev cL_at : ByteArray := method_13_code
def yL_at : MethodName := ⟨RL, "at", "(LPageBail;II[J)I"⟩
abbrev cL_pageOf : ByteArray := method_14_code
def yL_pageOf : MethodName := ⟨RL, "pageOf", "(LPageBail;I[J)I"⟩
abbrev cL_sweep : ByteArray := method_15_code
def yL_sweep : MethodName := ⟨RL, "sweep", "(LPageBail;)I"⟩
abbrev cL_step : ByteArray := method_16_code
def yL_step : MethodName := ⟨RL, "step", "(LPageBail;I[J)I"⟩
abbrev cL_walk : ByteArray := method_17_code
def yL_walk : MethodName := ⟨RL, "walk", "(LPageBail;I[J)I"⟩
abbrev cL_law : ByteArray := code
def yL_law : MethodName := ⟨RL, "law", "([I)Z"⟩
def wsX0_init : List Cond := .code yX0_init cX0_init 5 none :: ([.methodLink RX0 3 objectInit, .instanceMethod objectInit, .code objectInit ⟨#[0xb1]⟩ 1 none, .fieldLink RX0 9 "PageBail$Bail" "number" "I", .fieldLink RX0 15 "PageBail$Bail" "sum" "I", .fieldLink RX0 18 "PageBail$Bail" "surety" "I", .fieldLink RX0 21 "PageBail$Bail" "putDay" "I", .fieldLink RX0 24 "PageBail$Bail" "forfeitDay" "I"] ++ wsX00)
def wsX0_hasForfeitDay : List Cond := .code yX0_hasForfeitDay cX0_hasForfeitDay 1 (some .boolean) :: ([.fieldLink RX0 24 "PageBail$Bail" "forfeitDay" "I"] ++ wsX00)
def wsX0_isOverdue : List Cond := .code yX0_isOverdue cX0_isOverdue 2 (some .boolean) :: ([.fieldLink RX0 24 "PageBail$Bail" "forfeitDay" "I", .methodLink RX0 27 yX0_hasForfeitDay, .instanceMethod yX0_hasForfeitDay, .selects RX0 yX0_hasForfeitDay yX0_hasForfeitDay, .initialized RX0, .code yX0_hasForfeitDay cX0_hasForfeitDay 1 (some .boolean)] ++ wsX00)
def wsX0_isUnder : List Cond := .code yX0_isUnder cX0_isUnder 3 (some .boolean) :: ([.fieldLink RX0 15 "PageBail$Bail" "sum" "I", .fieldLink RX0 21 "PageBail$Bail" "putDay" "I", .methodLink RX0 27 yX0_hasForfeitDay, .instanceMethod yX0_hasForfeitDay, .selects RX0 yX0_hasForfeitDay yX0_hasForfeitDay, .initialized RX0, .code yX0_hasForfeitDay cX0_hasForfeitDay 1 (some .boolean), .fieldLink RX0 24 "PageBail$Bail" "forfeitDay" "I"] ++ wsX00)
def wsX1_init : List Cond := .code yX1_init cX1_init 1 none :: ([.methodLink RX1 3 objectInit, .instanceMethod objectInit, .code objectInit ⟨#[0xb1]⟩ 1 none, .classLink RX1 9 RX0, .fieldLink RX1 11 "PageBail$BailRow" "bails" "[LPageBail$Bail;"] ++ wsX10)
def wsX1_count : List Cond := .code yX1_count cX1_count 1 (some .int) :: ([.fieldLink RX1 17 "PageBail$BailRow" "count" "I"] ++ wsX10)
def wsX1_bailAt : List Cond := .code yX1_bailAt cX1_bailAt 2 (some (.object "PageBail$Bail")) :: ([.fieldLink RX1 17 "PageBail$BailRow" "count" "I", .fieldLink RX1 11 "PageBail$BailRow" "bails" "[LPageBail$Bail;"] ++ wsX10)
def wsX1_numberAt : List Cond := .code yX1_numberAt cX1_numberAt 3 (some .int) :: ([.fieldLink RX1 25 "PageBail$Bail" "number" "I", .methodLink RX1 21 yX1_bailAt, .instanceMethod yX1_bailAt, .selects RX1 yX1_bailAt yX1_bailAt, .initialized RX1, .code yX1_bailAt cX1_bailAt 2 (some (.object "PageBail$Bail")), .fieldLink RX1 17 "PageBail$BailRow" "count" "I", .fieldLink RX1 11 "PageBail$BailRow" "bails" "[LPageBail$Bail;"] ++ wsX00 ++ wsX10)
def wsX1_countUpTo : List Cond := .code yX1_countUpTo cX1_countUpTo 3 (some .int) :: ([.fieldLink RX1 17 "PageBail$BailRow" "count" "I", .methodLink RX1 28 yX1_numberAt, .instanceMethod yX1_numberAt, .selects RX1 yX1_numberAt yX1_numberAt, .initialized RX1, .code yX1_numberAt cX1_numberAt 3 (some .int), .fieldLink RX1 25 "PageBail$Bail" "number" "I", .methodLink RX1 21 yX1_bailAt, .instanceMethod yX1_bailAt, .selects RX1 yX1_bailAt yX1_bailAt, .code yX1_bailAt cX1_bailAt 2 (some (.object "PageBail$Bail")), .fieldLink RX1 11 "PageBail$BailRow" "bails" "[LPageBail$Bail;"] ++ wsX10 ++ wsX00)
def wsX1_placeOf : List Cond := .code yX1_placeOf cX1_placeOf 3 (some .int) :: ([.methodLink RX1 32 yX1_countUpTo, .instanceMethod yX1_countUpTo, .selects RX1 yX1_countUpTo yX1_countUpTo, .initialized RX1, .code yX1_countUpTo cX1_countUpTo 3 (some .int), .fieldLink RX1 17 "PageBail$BailRow" "count" "I", .methodLink RX1 28 yX1_numberAt, .instanceMethod yX1_numberAt, .selects RX1 yX1_numberAt yX1_numberAt, .code yX1_numberAt cX1_numberAt 3 (some .int), .fieldLink RX1 25 "PageBail$Bail" "number" "I", .methodLink RX1 21 yX1_bailAt, .instanceMethod yX1_bailAt, .selects RX1 yX1_bailAt yX1_bailAt, .code yX1_bailAt cX1_bailAt 2 (some (.object "PageBail$Bail")), .fieldLink RX1 11 "PageBail$BailRow" "bails" "[LPageBail$Bail;"] ++ wsX10 ++ wsX00)
def wsX1_find : List Cond := .code yX1_find cX1_find 2 (some (.object "PageBail$Bail")) :: ([.methodLink RX1 35 yX1_placeOf, .instanceMethod yX1_placeOf, .selects RX1 yX1_placeOf yX1_placeOf, .initialized RX1, .code yX1_placeOf cX1_placeOf 3 (some .int), .methodLink RX1 32 yX1_countUpTo, .instanceMethod yX1_countUpTo, .selects RX1 yX1_countUpTo yX1_countUpTo, .code yX1_countUpTo cX1_countUpTo 3 (some .int), .fieldLink RX1 17 "PageBail$BailRow" "count" "I", .methodLink RX1 28 yX1_numberAt, .instanceMethod yX1_numberAt, .selects RX1 yX1_numberAt yX1_numberAt, .code yX1_numberAt cX1_numberAt 3 (some .int), .fieldLink RX1 25 "PageBail$Bail" "number" "I", .methodLink RX1 21 yX1_bailAt, .instanceMethod yX1_bailAt, .selects RX1 yX1_bailAt yX1_bailAt, .code yX1_bailAt cX1_bailAt 2 (some (.object "PageBail$Bail")), .fieldLink RX1 11 "PageBail$BailRow" "bails" "[LPageBail$Bail;"] ++ wsX10 ++ wsX00)
def wsX1_sumOfSurety : List Cond := .code yX1_sumOfSurety cX1_sumOfSurety 5 (some .int) :: ([.fieldLink RX1 17 "PageBail$BailRow" "count" "I", .fieldLink RX1 38 "PageBail$Bail" "surety" "I", .fieldLink RX1 41 "PageBail$Bail" "sum" "I", .methodLink RX1 21 yX1_bailAt, .instanceMethod yX1_bailAt, .selects RX1 yX1_bailAt yX1_bailAt, .initialized RX1, .code yX1_bailAt cX1_bailAt 2 (some (.object "PageBail$Bail")), .fieldLink RX1 11 "PageBail$BailRow" "bails" "[LPageBail$Bail;"] ++ wsX10 ++ wsX00)
def wsX1_insert : List Cond := .code yX1_insert cX1_insert 4 none :: ([.fieldLink RX1 17 "PageBail$BailRow" "count" "I", .fieldLink RX1 11 "PageBail$BailRow" "bails" "[LPageBail$Bail;"] ++ wsX10)
def wsX1_remove : List Cond := .code yX1_remove cX1_remove 3 none :: ([.fieldLink RX1 17 "PageBail$BailRow" "count" "I", .fieldLink RX1 11 "PageBail$BailRow" "bails" "[LPageBail$Bail;", .methodLink RX1 21 yX1_bailAt, .instanceMethod yX1_bailAt, .selects RX1 yX1_bailAt yX1_bailAt, .initialized RX1, .code yX1_bailAt cX1_bailAt 2 (some (.object "PageBail$Bail"))] ++ wsX10)
def wsX2_init : List Cond := .code yX2_init cX2_init 1 none :: ([.methodLink RX2 3 objectInit, .instanceMethod objectInit, .code objectInit ⟨#[0xb1]⟩ 1 none, .arrayClass .int, .fieldLink RX2 9 "PageBail$PageRow" "sizes" "[I"] ++ wsX20)
def wsX2_count : List Cond := .code yX2_count cX2_count 1 (some .int) :: ([.fieldLink RX2 15 "PageBail$PageRow" "count" "I"] ++ wsX20)
def wsX2_has : List Cond := .code yX2_has cX2_has 2 (some .boolean) :: ([.fieldLink RX2 15 "PageBail$PageRow" "count" "I", .fieldLink RX2 9 "PageBail$PageRow" "sizes" "[I"] ++ wsX20)
def wsX2_sizeOf : List Cond := .code yX2_sizeOf cX2_sizeOf 2 (some .int) :: ([.fieldLink RX2 9 "PageBail$PageRow" "sizes" "[I", .methodLink RX2 19 yX2_has, .instanceMethod yX2_has, .selects RX2 yX2_has yX2_has, .initialized RX2, .code yX2_has cX2_has 2 (some .boolean), .fieldLink RX2 15 "PageBail$PageRow" "count" "I"] ++ wsX20)
def wsX2_beginOf : List Cond := .code yX2_beginOf cX2_beginOf 4 (some .int) :: ([.fieldLink RX2 15 "PageBail$PageRow" "count" "I", .methodLink RX2 23 yX2_sizeOf, .instanceMethod yX2_sizeOf, .selects RX2 yX2_sizeOf yX2_sizeOf, .initialized RX2, .code yX2_sizeOf cX2_sizeOf 2 (some .int), .fieldLink RX2 9 "PageBail$PageRow" "sizes" "[I", .methodLink RX2 19 yX2_has, .instanceMethod yX2_has, .selects RX2 yX2_has yX2_has, .code yX2_has cX2_has 2 (some .boolean)] ++ wsX20)
def wsX2_pageWith : List Cond := .code yX2_pageWith cX2_pageWith 4 (some .int) :: ([.fieldLink RX2 15 "PageBail$PageRow" "count" "I", .methodLink RX2 23 yX2_sizeOf, .instanceMethod yX2_sizeOf, .selects RX2 yX2_sizeOf yX2_sizeOf, .initialized RX2, .code yX2_sizeOf cX2_sizeOf 2 (some .int), .fieldLink RX2 9 "PageBail$PageRow" "sizes" "[I", .methodLink RX2 19 yX2_has, .instanceMethod yX2_has, .selects RX2 yX2_has yX2_has, .code yX2_has cX2_has 2 (some .boolean)] ++ wsX20)
def wsX2_addTo : List Cond := .code yX2_addTo cX2_addTo 2 none :: ([.fieldLink RX2 15 "PageBail$PageRow" "count" "I", .fieldLink RX2 9 "PageBail$PageRow" "sizes" "[I", .methodLink RX2 19 yX2_has, .instanceMethod yX2_has, .selects RX2 yX2_has yX2_has, .initialized RX2, .code yX2_has cX2_has 2 (some .boolean)] ++ wsX20)
def wsX2_split : List Cond := .code yX2_split cX2_split 3 none :: ([.fieldLink RX2 15 "PageBail$PageRow" "count" "I", .fieldLink RX2 9 "PageBail$PageRow" "sizes" "[I", .methodLink RX2 19 yX2_has, .instanceMethod yX2_has, .selects RX2 yX2_has yX2_has, .initialized RX2, .code yX2_has cX2_has 2 (some .boolean)] ++ wsX20)
def wsX2_remove : List Cond := .code yX2_remove cX2_remove 3 none :: ([.fieldLink RX2 15 "PageBail$PageRow" "count" "I", .fieldLink RX2 9 "PageBail$PageRow" "sizes" "[I", .methodLink RX2 19 yX2_has, .instanceMethod yX2_has, .selects RX2 yX2_has yX2_has, .initialized RX2, .code yX2_has cX2_has 2 (some .boolean)] ++ wsX20)
def wsX2_move : List Cond := .code yX2_move cX2_move 3 none :: ([.fieldLink RX2 9 "PageBail$PageRow" "sizes" "[I", .methodLink RX2 19 yX2_has, .instanceMethod yX2_has, .selects RX2 yX2_has yX2_has, .initialized RX2, .code yX2_has cX2_has 2 (some .boolean), .fieldLink RX2 15 "PageBail$PageRow" "count" "I", .methodLink RX2 27 yX2_remove, .instanceMethod yX2_remove, .selects RX2 yX2_remove yX2_remove, .code yX2_remove cX2_remove 3 none] ++ wsX20)
def wsX2_borrowOrJoin : List Cond := .code yX2_borrowOrJoin cX2_borrowOrJoin 2 none :: ([.methodLink RX2 23 yX2_sizeOf, .instanceMethod yX2_sizeOf, .selects RX2 yX2_sizeOf yX2_sizeOf, .initialized RX2, .code yX2_sizeOf cX2_sizeOf 2 (some .int), .fieldLink RX2 9 "PageBail$PageRow" "sizes" "[I", .methodLink RX2 19 yX2_has, .instanceMethod yX2_has, .selects RX2 yX2_has yX2_has, .code yX2_has cX2_has 2 (some .boolean), .fieldLink RX2 15 "PageBail$PageRow" "count" "I", .methodLink RX2 34 yX2_move, .instanceMethod yX2_move, .selects RX2 yX2_move yX2_move, .code yX2_move cX2_move 3 none, .methodLink RX2 27 yX2_remove, .instanceMethod yX2_remove, .selects RX2 yX2_remove yX2_remove, .code yX2_remove cX2_remove 3 none] ++ wsX20)
def wsX2_takeFrom : List Cond := .code yX2_takeFrom cX2_takeFrom 2 none :: ([.fieldLink RX2 9 "PageBail$PageRow" "sizes" "[I", .fieldLink RX2 15 "PageBail$PageRow" "count" "I", .methodLink RX2 19 yX2_has, .instanceMethod yX2_has, .selects RX2 yX2_has yX2_has, .initialized RX2, .code yX2_has cX2_has 2 (some .boolean), .methodLink RX2 27 yX2_remove, .instanceMethod yX2_remove, .selects RX2 yX2_remove yX2_remove, .code yX2_remove cX2_remove 3 none, .methodLink RX2 31 yX2_borrowOrJoin, .instanceMethod yX2_borrowOrJoin, .selects RX2 yX2_borrowOrJoin yX2_borrowOrJoin, .code yX2_borrowOrJoin cX2_borrowOrJoin 2 none, .methodLink RX2 23 yX2_sizeOf, .instanceMethod yX2_sizeOf, .selects RX2 yX2_sizeOf yX2_sizeOf, .code yX2_sizeOf cX2_sizeOf 2 (some .int), .methodLink RX2 34 yX2_move, .instanceMethod yX2_move, .selects RX2 yX2_move yX2_move, .code yX2_move cX2_move 3 none] ++ wsX20)
def wsX3_init : List Cond := .code yX3_init cX3_init 1 none :: ([.methodLink RX3 1 objectInit, .instanceMethod objectInit, .code objectInit ⟨#[0xb1]⟩ 1 none, .classLink RX3 7 RX1, .instantiable RX1 2, .initialized RX1, .fieldLink RX3 10 "PageBail" "bailRow" "LPageBail$BailRow;", .classLink RX3 16 RX2, .instantiable RX2 2, .initialized RX2, .fieldLink RX3 19 "PageBail" "pageRow" "LPageBail$PageRow;", .arrayClass .int, .fieldLink RX3 23 "PageBail" "lastRead" "[I", .fieldLink RX3 27 "PageBail" "sweptPage" "I", .instanceMethod yX1_init, .code yX1_init cX1_init 1 none, .methodLink RX1 3 objectInit, .classLink RX1 9 RX0, .fieldLink RX1 11 "PageBail$BailRow" "bails" "[LPageBail$Bail;", .instanceMethod yX2_init, .code yX2_init cX2_init 1 none, .methodLink RX2 3 objectInit, .fieldLink RX2 9 "PageBail$PageRow" "sizes" "[I"] ++ wsX10 ++ wsX30 ++ wsX20)
def wsX3_isIn : List Cond := .code yX3_isIn cX3_isIn 3 (some .boolean) :: ([])
def wsX3_requireCase : List Cond := .code yX3_requireCase cX3_requireCase 1 none :: ([.classLink RX3 39 "java/lang/IllegalArgumentException", .initialized "java/lang/IllegalArgumentException", .methodLink RX3 35 yX3_isIn, .static yX3_isIn, .initialized RX3, .code yX3_isIn cX3_isIn 3 (some .boolean)] ++ (vx_atS RX3 43 "java/lang/IllegalArgumentException" ["java/lang/RuntimeException", "java/lang/Exception"]).filter goodWord)
def wsX3_pageToPutOn : List Cond := .code yX3_pageToPutOn cX3_pageToPutOn 2 (some .int) :: ([.fieldLink RX3 19 "PageBail" "pageRow" "LPageBail$PageRow;", .methodLink RX3 168 Lib.Math.max.name, .static Lib.Math.max.name, .initialized "java/lang/Math", .code Lib.Math.max.name Lib.Math.max.code 2 (some .int), .methodLink RX3 152 yX2_pageWith, .instanceMethod yX2_pageWith, .selects RX2 yX2_pageWith yX2_pageWith, .initialized RX2, .code yX2_pageWith cX2_pageWith 4 (some .int), .fieldLink RX2 15 "PageBail$PageRow" "count" "I", .methodLink RX2 23 yX2_sizeOf, .instanceMethod yX2_sizeOf, .selects RX2 yX2_sizeOf yX2_sizeOf, .code yX2_sizeOf cX2_sizeOf 2 (some .int), .fieldLink RX2 9 "PageBail$PageRow" "sizes" "[I", .methodLink RX2 19 yX2_has, .instanceMethod yX2_has, .selects RX2 yX2_has yX2_has, .code yX2_has cX2_has 2 (some .boolean)] ++ wsX30 ++ wsX20)
def wsX3_put_r1 : List Cond := [Cond.classLink RX3 39 "java/lang/IllegalArgumentException", Cond.initialized "java/lang/IllegalArgumentException", Cond.classLink RX3 54 "java/lang/IllegalStateException", Cond.initialized "java/lang/IllegalStateException", Cond.fieldLink RX3 10 "PageBail" "bailRow" "LPageBail$BailRow;", Cond.fieldLink RX3 19 "PageBail" "pageRow" "LPageBail$PageRow;", Cond.classLink RX3 75 RX0, Cond.instantiable RX0 5, Cond.initialized RX0, Cond.fieldLink RX3 77 "PageBail" "now" "I", Cond.methodLink RX3 31 yX3_requireCase, Cond.static yX3_requireCase, Cond.initialized RX3, Cond.code yX3_requireCase cX3_requireCase 1 none, Cond.methodLink RX3 35 yX3_isIn, Cond.static yX3_isIn, Cond.code yX3_isIn cX3_isIn 3 (some .boolean), Cond.methodLink RX3 46 yX1_find, Cond.instanceMethod yX1_find, Cond.selects RX1 yX1_find yX1_find, Cond.initialized RX1, Cond.code yX1_find cX1_find 2 (some (.object "PageBail$Bail")), Cond.methodLink RX1 35 yX1_placeOf, Cond.instanceMethod yX1_placeOf]
def wsX3_put_r2 : List Cond := [Cond.selects RX1 yX1_placeOf yX1_placeOf, Cond.code yX1_placeOf cX1_placeOf 3 (some .int), Cond.methodLink RX1 32 yX1_countUpTo, Cond.instanceMethod yX1_countUpTo, Cond.selects RX1 yX1_countUpTo yX1_countUpTo, Cond.code yX1_countUpTo cX1_countUpTo 3 (some .int), Cond.fieldLink RX1 17 "PageBail$BailRow" "count" "I", Cond.methodLink RX1 28 yX1_numberAt, Cond.instanceMethod yX1_numberAt, Cond.selects RX1 yX1_numberAt yX1_numberAt, Cond.code yX1_numberAt cX1_numberAt 3 (some .int), Cond.fieldLink RX1 25 "PageBail$Bail" "number" "I", Cond.methodLink RX1 21 yX1_bailAt, Cond.instanceMethod yX1_bailAt, Cond.selects RX1 yX1_bailAt yX1_bailAt, Cond.code yX1_bailAt cX1_bailAt 2 (some (.object "PageBail$Bail")), Cond.fieldLink RX1 11 "PageBail$BailRow" "bails" "[LPageBail$Bail;", Cond.methodLink RX3 50 yX1_count, Cond.instanceMethod yX1_count, Cond.selects RX1 yX1_count yX1_count, Cond.code yX1_count cX1_count 1 (some .int), Cond.methodLink RX3 59 yX1_countUpTo, Cond.methodLink RX3 63 yX3_pageToPutOn, Cond.instanceMethod yX3_pageToPutOn]
def wsX3_put_r3 : List Cond := [Cond.selects RX3 yX3_pageToPutOn yX3_pageToPutOn, Cond.code yX3_pageToPutOn cX3_pageToPutOn 2 (some .int), Cond.methodLink RX3 168 Lib.Math.max.name, Cond.static Lib.Math.max.name, Cond.initialized "java/lang/Math", Cond.code Lib.Math.max.name Lib.Math.max.code 2 (some .int), Cond.methodLink RX3 152 yX2_pageWith, Cond.instanceMethod yX2_pageWith, Cond.selects RX2 yX2_pageWith yX2_pageWith, Cond.initialized RX2, Cond.code yX2_pageWith cX2_pageWith 4 (some .int), Cond.fieldLink RX2 15 "PageBail$PageRow" "count" "I", Cond.methodLink RX2 23 yX2_sizeOf, Cond.instanceMethod yX2_sizeOf, Cond.selects RX2 yX2_sizeOf yX2_sizeOf, Cond.code yX2_sizeOf cX2_sizeOf 2 (some .int), Cond.fieldLink RX2 9 "PageBail$PageRow" "sizes" "[I", Cond.methodLink RX2 19 yX2_has, Cond.instanceMethod yX2_has, Cond.selects RX2 yX2_has yX2_has, Cond.code yX2_has cX2_has 2 (some .boolean), Cond.methodLink RX3 66 yX2_sizeOf, Cond.methodLink RX3 69 yX2_split, Cond.instanceMethod yX2_split]
def wsX3_put_r4 : List Cond := [Cond.selects RX2 yX2_split yX2_split, Cond.code yX2_split cX2_split 3 none, Cond.methodLink RX3 72 yX2_addTo, Cond.instanceMethod yX2_addTo, Cond.selects RX2 yX2_addTo yX2_addTo, Cond.code yX2_addTo cX2_addTo 2 none, Cond.methodLink RX3 80 yX0_init, Cond.instanceMethod yX0_init, Cond.code yX0_init cX0_init 5 none, Cond.methodLink RX0 3 objectInit, Cond.instanceMethod objectInit, Cond.code objectInit ⟨#[0xb1]⟩ 1 none, Cond.fieldLink RX0 9 "PageBail$Bail" "number" "I", Cond.fieldLink RX0 15 "PageBail$Bail" "sum" "I", Cond.fieldLink RX0 18 "PageBail$Bail" "surety" "I", Cond.fieldLink RX0 21 "PageBail$Bail" "putDay" "I", Cond.fieldLink RX0 24 "PageBail$Bail" "forfeitDay" "I", Cond.methodLink RX3 83 yX1_insert, Cond.instanceMethod yX1_insert, Cond.selects RX1 yX1_insert yX1_insert, Cond.code yX1_insert cX1_insert 4 none, Cond.methodLink RX3 87 yX2_count, Cond.instanceMethod yX2_count, Cond.selects RX2 yX2_count yX2_count]
def wsX3_put_r5 : List Cond := [Cond.code yX2_count cX2_count 1 (some .int)]
def wsX3_put : List Cond := .code yX3_put cX3_put 5 (some .int) :: ((wsX3_put_r1 ++ (wsX3_put_r2 ++ (wsX3_put_r3 ++ (wsX3_put_r4 ++ wsX3_put_r5)))) ++ wsX30 ++ wsX00 ++ wsX10 ++ wsX20 ++ (vx_atS RX3 43 "java/lang/IllegalArgumentException" ["java/lang/RuntimeException", "java/lang/Exception"]).filter goodWord ++ (vx_atS RX3 58 "java/lang/IllegalStateException" ["java/lang/RuntimeException", "java/lang/Exception"]).filter goodWord)
def wsX3_takeOut_r1 : List Cond := [Cond.fieldLink RX3 19 "PageBail" "pageRow" "LPageBail$PageRow;", Cond.fieldLink RX3 10 "PageBail" "bailRow" "LPageBail$BailRow;", Cond.fieldLink RX3 27 "PageBail" "sweptPage" "I", Cond.methodLink RX3 152 yX2_pageWith, Cond.instanceMethod yX2_pageWith, Cond.selects RX2 yX2_pageWith yX2_pageWith, Cond.initialized RX2, Cond.code yX2_pageWith cX2_pageWith 4 (some .int), Cond.fieldLink RX2 15 "PageBail$PageRow" "count" "I", Cond.methodLink RX2 23 yX2_sizeOf, Cond.instanceMethod yX2_sizeOf, Cond.selects RX2 yX2_sizeOf yX2_sizeOf, Cond.code yX2_sizeOf cX2_sizeOf 2 (some .int), Cond.fieldLink RX2 9 "PageBail$PageRow" "sizes" "[I", Cond.methodLink RX2 19 yX2_has, Cond.instanceMethod yX2_has, Cond.selects RX2 yX2_has yX2_has, Cond.code yX2_has cX2_has 2 (some .boolean), Cond.methodLink RX3 174 yX2_takeFrom, Cond.instanceMethod yX2_takeFrom, Cond.selects RX2 yX2_takeFrom yX2_takeFrom, Cond.code yX2_takeFrom cX2_takeFrom 2 none, Cond.methodLink RX2 27 yX2_remove, Cond.instanceMethod yX2_remove]
def wsX3_takeOut_r2 : List Cond := [Cond.selects RX2 yX2_remove yX2_remove, Cond.code yX2_remove cX2_remove 3 none, Cond.methodLink RX2 31 yX2_borrowOrJoin, Cond.instanceMethod yX2_borrowOrJoin, Cond.selects RX2 yX2_borrowOrJoin yX2_borrowOrJoin, Cond.code yX2_borrowOrJoin cX2_borrowOrJoin 2 none, Cond.methodLink RX2 34 yX2_move, Cond.instanceMethod yX2_move, Cond.selects RX2 yX2_move yX2_move, Cond.code yX2_move cX2_move 3 none, Cond.methodLink RX3 177 yX1_remove, Cond.instanceMethod yX1_remove, Cond.selects RX1 yX1_remove yX1_remove, Cond.initialized RX1, Cond.code yX1_remove cX1_remove 3 none, Cond.fieldLink RX1 17 "PageBail$BailRow" "count" "I", Cond.fieldLink RX1 11 "PageBail$BailRow" "bails" "[LPageBail$Bail;", Cond.methodLink RX1 21 yX1_bailAt, Cond.instanceMethod yX1_bailAt, Cond.selects RX1 yX1_bailAt yX1_bailAt, Cond.code yX1_bailAt cX1_bailAt 2 (some (.object "PageBail$Bail")), Cond.methodLink RX3 87 yX2_count, Cond.instanceMethod yX2_count, Cond.selects RX2 yX2_count yX2_count]
def wsX3_takeOut_r3 : List Cond := [Cond.code yX2_count cX2_count 1 (some .int)]
def wsX3_takeOut : List Cond := .code yX3_takeOut cX3_takeOut 2 none :: ((wsX3_takeOut_r1 ++ (wsX3_takeOut_r2 ++ wsX3_takeOut_r3)) ++ wsX30 ++ wsX20 ++ wsX10)
def wsX3_payBack_r1 : List Cond := [Cond.classLink RX3 54 "java/lang/IllegalStateException", Cond.initialized "java/lang/IllegalStateException", Cond.fieldLink RX3 10 "PageBail" "bailRow" "LPageBail$BailRow;", Cond.fieldLink RX3 94 "PageBail" "paidInAll" "I", Cond.fieldLink RX3 97 "PageBail$Bail" "sum" "I", Cond.methodLink RX3 31 yX3_requireCase, Cond.static yX3_requireCase, Cond.initialized RX3, Cond.code yX3_requireCase cX3_requireCase 1 none, Cond.classLink RX3 39 "java/lang/IllegalArgumentException", Cond.initialized "java/lang/IllegalArgumentException", Cond.methodLink RX3 35 yX3_isIn, Cond.static yX3_isIn, Cond.code yX3_isIn cX3_isIn 3 (some .boolean), Cond.methodLink RX3 46 yX1_find, Cond.instanceMethod yX1_find, Cond.selects RX1 yX1_find yX1_find, Cond.initialized RX1, Cond.code yX1_find cX1_find 2 (some (.object "PageBail$Bail")), Cond.methodLink RX1 35 yX1_placeOf, Cond.instanceMethod yX1_placeOf, Cond.selects RX1 yX1_placeOf yX1_placeOf, Cond.code yX1_placeOf cX1_placeOf 3 (some .int), Cond.methodLink RX1 32 yX1_countUpTo]
def wsX3_payBack_r2 : List Cond := [Cond.instanceMethod yX1_countUpTo, Cond.selects RX1 yX1_countUpTo yX1_countUpTo, Cond.code yX1_countUpTo cX1_countUpTo 3 (some .int), Cond.fieldLink RX1 17 "PageBail$BailRow" "count" "I", Cond.methodLink RX1 28 yX1_numberAt, Cond.instanceMethod yX1_numberAt, Cond.selects RX1 yX1_numberAt yX1_numberAt, Cond.code yX1_numberAt cX1_numberAt 3 (some .int), Cond.fieldLink RX1 25 "PageBail$Bail" "number" "I", Cond.methodLink RX1 21 yX1_bailAt, Cond.instanceMethod yX1_bailAt, Cond.selects RX1 yX1_bailAt yX1_bailAt, Cond.code yX1_bailAt cX1_bailAt 2 (some (.object "PageBail$Bail")), Cond.fieldLink RX1 11 "PageBail$BailRow" "bails" "[LPageBail$Bail;", Cond.methodLink RX3 88 yX0_hasForfeitDay, Cond.instanceMethod yX0_hasForfeitDay, Cond.selects RX0 yX0_hasForfeitDay yX0_hasForfeitDay, Cond.initialized RX0, Cond.code yX0_hasForfeitDay cX0_hasForfeitDay 1 (some .boolean), Cond.fieldLink RX0 24 "PageBail$Bail" "forfeitDay" "I", Cond.methodLink RX3 100 yX1_placeOf, Cond.methodLink RX3 103 yX3_takeOut, Cond.instanceMethod yX3_takeOut, Cond.selects RX3 yX3_takeOut yX3_takeOut]
def wsX3_payBack_r3 : List Cond := [Cond.code yX3_takeOut cX3_takeOut 2 none, Cond.fieldLink RX3 19 "PageBail" "pageRow" "LPageBail$PageRow;", Cond.fieldLink RX3 27 "PageBail" "sweptPage" "I", Cond.methodLink RX3 152 yX2_pageWith, Cond.instanceMethod yX2_pageWith, Cond.selects RX2 yX2_pageWith yX2_pageWith, Cond.initialized RX2, Cond.code yX2_pageWith cX2_pageWith 4 (some .int), Cond.fieldLink RX2 15 "PageBail$PageRow" "count" "I", Cond.methodLink RX2 23 yX2_sizeOf, Cond.instanceMethod yX2_sizeOf, Cond.selects RX2 yX2_sizeOf yX2_sizeOf, Cond.code yX2_sizeOf cX2_sizeOf 2 (some .int), Cond.fieldLink RX2 9 "PageBail$PageRow" "sizes" "[I", Cond.methodLink RX2 19 yX2_has, Cond.instanceMethod yX2_has, Cond.selects RX2 yX2_has yX2_has, Cond.code yX2_has cX2_has 2 (some .boolean), Cond.methodLink RX3 174 yX2_takeFrom, Cond.instanceMethod yX2_takeFrom, Cond.selects RX2 yX2_takeFrom yX2_takeFrom, Cond.code yX2_takeFrom cX2_takeFrom 2 none, Cond.methodLink RX2 27 yX2_remove, Cond.instanceMethod yX2_remove]
def wsX3_payBack_r4 : List Cond := [Cond.selects RX2 yX2_remove yX2_remove, Cond.code yX2_remove cX2_remove 3 none, Cond.methodLink RX2 31 yX2_borrowOrJoin, Cond.instanceMethod yX2_borrowOrJoin, Cond.selects RX2 yX2_borrowOrJoin yX2_borrowOrJoin, Cond.code yX2_borrowOrJoin cX2_borrowOrJoin 2 none, Cond.methodLink RX2 34 yX2_move, Cond.instanceMethod yX2_move, Cond.selects RX2 yX2_move yX2_move, Cond.code yX2_move cX2_move 3 none, Cond.methodLink RX3 177 yX1_remove, Cond.instanceMethod yX1_remove, Cond.selects RX1 yX1_remove yX1_remove, Cond.code yX1_remove cX1_remove 3 none, Cond.methodLink RX3 87 yX2_count, Cond.instanceMethod yX2_count, Cond.selects RX2 yX2_count yX2_count, Cond.code yX2_count cX2_count 1 (some .int)]
def wsX3_payBack : List Cond := .code yX3_payBack cX3_payBack 3 (some .int) :: ((wsX3_payBack_r1 ++ (wsX3_payBack_r2 ++ (wsX3_payBack_r3 ++ wsX3_payBack_r4))) ++ wsX30 ++ wsX00 ++ wsX10 ++ wsX20 ++ (vx_atS RX3 58 "java/lang/IllegalStateException" ["java/lang/RuntimeException", "java/lang/Exception"]).filter goodWord ++ (vx_atS RX3 43 "java/lang/IllegalArgumentException" ["java/lang/RuntimeException", "java/lang/Exception"]).filter goodWord)
def wsX3_forfeit_r1 : List Cond := [Cond.classLink RX3 54 "java/lang/IllegalStateException", Cond.initialized "java/lang/IllegalStateException", Cond.fieldLink RX3 10 "PageBail" "bailRow" "LPageBail$BailRow;", Cond.fieldLink RX3 77 "PageBail" "now" "I", Cond.fieldLink RX3 106 "PageBail$Bail" "forfeitDay" "I", Cond.methodLink RX3 31 yX3_requireCase, Cond.static yX3_requireCase, Cond.initialized RX3, Cond.code yX3_requireCase cX3_requireCase 1 none, Cond.classLink RX3 39 "java/lang/IllegalArgumentException", Cond.initialized "java/lang/IllegalArgumentException", Cond.methodLink RX3 35 yX3_isIn, Cond.static yX3_isIn, Cond.code yX3_isIn cX3_isIn 3 (some .boolean), Cond.methodLink RX3 46 yX1_find, Cond.instanceMethod yX1_find, Cond.selects RX1 yX1_find yX1_find, Cond.initialized RX1, Cond.code yX1_find cX1_find 2 (some (.object "PageBail$Bail")), Cond.methodLink RX1 35 yX1_placeOf, Cond.instanceMethod yX1_placeOf, Cond.selects RX1 yX1_placeOf yX1_placeOf, Cond.code yX1_placeOf cX1_placeOf 3 (some .int), Cond.methodLink RX1 32 yX1_countUpTo]
def wsX3_forfeit_r2 : List Cond := [Cond.instanceMethod yX1_countUpTo, Cond.selects RX1 yX1_countUpTo yX1_countUpTo, Cond.code yX1_countUpTo cX1_countUpTo 3 (some .int), Cond.fieldLink RX1 17 "PageBail$BailRow" "count" "I", Cond.methodLink RX1 28 yX1_numberAt, Cond.instanceMethod yX1_numberAt, Cond.selects RX1 yX1_numberAt yX1_numberAt, Cond.code yX1_numberAt cX1_numberAt 3 (some .int), Cond.fieldLink RX1 25 "PageBail$Bail" "number" "I", Cond.methodLink RX1 21 yX1_bailAt, Cond.instanceMethod yX1_bailAt, Cond.selects RX1 yX1_bailAt yX1_bailAt, Cond.code yX1_bailAt cX1_bailAt 2 (some (.object "PageBail$Bail")), Cond.fieldLink RX1 11 "PageBail$BailRow" "bails" "[LPageBail$Bail;", Cond.methodLink RX3 88 yX0_hasForfeitDay, Cond.instanceMethod yX0_hasForfeitDay, Cond.selects RX0 yX0_hasForfeitDay yX0_hasForfeitDay, Cond.initialized RX0, Cond.code yX0_hasForfeitDay cX0_hasForfeitDay 1 (some .boolean), Cond.fieldLink RX0 24 "PageBail$Bail" "forfeitDay" "I"]
def wsX3_forfeit : List Cond := .code yX3_forfeit cX3_forfeit 3 none :: ((wsX3_forfeit_r1 ++ wsX3_forfeit_r2) ++ wsX30 ++ wsX00 ++ wsX10 ++ (vx_atS RX3 58 "java/lang/IllegalStateException" ["java/lang/RuntimeException", "java/lang/Exception"]).filter goodWord ++ (vx_atS RX3 43 "java/lang/IllegalArgumentException" ["java/lang/RuntimeException", "java/lang/Exception"]).filter goodWord)
def wsX3_undo_r1 : List Cond := [Cond.classLink RX3 54 "java/lang/IllegalStateException", Cond.initialized "java/lang/IllegalStateException", Cond.fieldLink RX3 10 "PageBail" "bailRow" "LPageBail$BailRow;", Cond.fieldLink RX3 77 "PageBail" "now" "I", Cond.fieldLink RX3 106 "PageBail$Bail" "forfeitDay" "I", Cond.methodLink RX3 31 yX3_requireCase, Cond.static yX3_requireCase, Cond.initialized RX3, Cond.code yX3_requireCase cX3_requireCase 1 none, Cond.classLink RX3 39 "java/lang/IllegalArgumentException", Cond.initialized "java/lang/IllegalArgumentException", Cond.methodLink RX3 35 yX3_isIn, Cond.static yX3_isIn, Cond.code yX3_isIn cX3_isIn 3 (some .boolean), Cond.methodLink RX3 46 yX1_find, Cond.instanceMethod yX1_find, Cond.selects RX1 yX1_find yX1_find, Cond.initialized RX1, Cond.code yX1_find cX1_find 2 (some (.object "PageBail$Bail")), Cond.methodLink RX1 35 yX1_placeOf, Cond.instanceMethod yX1_placeOf, Cond.selects RX1 yX1_placeOf yX1_placeOf, Cond.code yX1_placeOf cX1_placeOf 3 (some .int), Cond.methodLink RX1 32 yX1_countUpTo]
def wsX3_undo_r2 : List Cond := [Cond.instanceMethod yX1_countUpTo, Cond.selects RX1 yX1_countUpTo yX1_countUpTo, Cond.code yX1_countUpTo cX1_countUpTo 3 (some .int), Cond.fieldLink RX1 17 "PageBail$BailRow" "count" "I", Cond.methodLink RX1 28 yX1_numberAt, Cond.instanceMethod yX1_numberAt, Cond.selects RX1 yX1_numberAt yX1_numberAt, Cond.code yX1_numberAt cX1_numberAt 3 (some .int), Cond.fieldLink RX1 25 "PageBail$Bail" "number" "I", Cond.methodLink RX1 21 yX1_bailAt, Cond.instanceMethod yX1_bailAt, Cond.selects RX1 yX1_bailAt yX1_bailAt, Cond.code yX1_bailAt cX1_bailAt 2 (some (.object "PageBail$Bail")), Cond.fieldLink RX1 11 "PageBail$BailRow" "bails" "[LPageBail$Bail;", Cond.methodLink RX3 88 yX0_hasForfeitDay, Cond.instanceMethod yX0_hasForfeitDay, Cond.selects RX0 yX0_hasForfeitDay yX0_hasForfeitDay, Cond.initialized RX0, Cond.code yX0_hasForfeitDay cX0_hasForfeitDay 1 (some .boolean), Cond.fieldLink RX0 24 "PageBail$Bail" "forfeitDay" "I"]
def wsX3_undo : List Cond := .code yX3_undo cX3_undo 4 (some .int) :: ((wsX3_undo_r1 ++ wsX3_undo_r2) ++ wsX30 ++ wsX00 ++ wsX10 ++ (vx_atS RX3 58 "java/lang/IllegalStateException" ["java/lang/RuntimeException", "java/lang/Exception"]).filter goodWord ++ (vx_atS RX3 43 "java/lang/IllegalArgumentException" ["java/lang/RuntimeException", "java/lang/Exception"]).filter goodWord)
def wsX3_amnesty_r1 : List Cond := [Cond.classLink RX3 39 "java/lang/IllegalArgumentException", Cond.initialized "java/lang/IllegalArgumentException", Cond.fieldLink RX3 77 "PageBail" "now" "I", Cond.fieldLink RX3 10 "PageBail" "bailRow" "LPageBail$BailRow;", Cond.fieldLink RX3 94 "PageBail" "paidInAll" "I", Cond.fieldLink RX3 97 "PageBail$Bail" "sum" "I", Cond.methodLink RX3 35 yX3_isIn, Cond.static yX3_isIn, Cond.initialized RX3, Cond.code yX3_isIn cX3_isIn 3 (some .boolean), Cond.methodLink RX3 50 yX1_count, Cond.instanceMethod yX1_count, Cond.selects RX1 yX1_count yX1_count, Cond.initialized RX1, Cond.code yX1_count cX1_count 1 (some .int), Cond.fieldLink RX1 17 "PageBail$BailRow" "count" "I", Cond.methodLink RX3 113 yX1_bailAt, Cond.instanceMethod yX1_bailAt, Cond.selects RX1 yX1_bailAt yX1_bailAt, Cond.code yX1_bailAt cX1_bailAt 2 (some (.object "PageBail$Bail")), Cond.fieldLink RX1 11 "PageBail$BailRow" "bails" "[LPageBail$Bail;", Cond.methodLink RX3 116 yX0_isUnder, Cond.instanceMethod yX0_isUnder, Cond.selects RX0 yX0_isUnder yX0_isUnder]
def wsX3_amnesty_r2 : List Cond := [Cond.initialized RX0, Cond.code yX0_isUnder cX0_isUnder 3 (some .boolean), Cond.fieldLink RX0 15 "PageBail$Bail" "sum" "I", Cond.fieldLink RX0 21 "PageBail$Bail" "putDay" "I", Cond.methodLink RX0 27 yX0_hasForfeitDay, Cond.instanceMethod yX0_hasForfeitDay, Cond.selects RX0 yX0_hasForfeitDay yX0_hasForfeitDay, Cond.code yX0_hasForfeitDay cX0_hasForfeitDay 1 (some .boolean), Cond.fieldLink RX0 24 "PageBail$Bail" "forfeitDay" "I", Cond.methodLink RX3 103 yX3_takeOut, Cond.instanceMethod yX3_takeOut, Cond.selects RX3 yX3_takeOut yX3_takeOut, Cond.code yX3_takeOut cX3_takeOut 2 none, Cond.fieldLink RX3 19 "PageBail" "pageRow" "LPageBail$PageRow;", Cond.fieldLink RX3 27 "PageBail" "sweptPage" "I", Cond.methodLink RX3 152 yX2_pageWith, Cond.instanceMethod yX2_pageWith, Cond.selects RX2 yX2_pageWith yX2_pageWith, Cond.initialized RX2, Cond.code yX2_pageWith cX2_pageWith 4 (some .int), Cond.fieldLink RX2 15 "PageBail$PageRow" "count" "I", Cond.methodLink RX2 23 yX2_sizeOf, Cond.instanceMethod yX2_sizeOf, Cond.selects RX2 yX2_sizeOf yX2_sizeOf]
def wsX3_amnesty_r3 : List Cond := [Cond.code yX2_sizeOf cX2_sizeOf 2 (some .int), Cond.fieldLink RX2 9 "PageBail$PageRow" "sizes" "[I", Cond.methodLink RX2 19 yX2_has, Cond.instanceMethod yX2_has, Cond.selects RX2 yX2_has yX2_has, Cond.code yX2_has cX2_has 2 (some .boolean), Cond.methodLink RX3 174 yX2_takeFrom, Cond.instanceMethod yX2_takeFrom, Cond.selects RX2 yX2_takeFrom yX2_takeFrom, Cond.code yX2_takeFrom cX2_takeFrom 2 none, Cond.methodLink RX2 27 yX2_remove, Cond.instanceMethod yX2_remove, Cond.selects RX2 yX2_remove yX2_remove, Cond.code yX2_remove cX2_remove 3 none, Cond.methodLink RX2 31 yX2_borrowOrJoin, Cond.instanceMethod yX2_borrowOrJoin, Cond.selects RX2 yX2_borrowOrJoin yX2_borrowOrJoin, Cond.code yX2_borrowOrJoin cX2_borrowOrJoin 2 none, Cond.methodLink RX2 34 yX2_move, Cond.instanceMethod yX2_move, Cond.selects RX2 yX2_move yX2_move, Cond.code yX2_move cX2_move 3 none, Cond.methodLink RX3 177 yX1_remove, Cond.instanceMethod yX1_remove]
def wsX3_amnesty_r4 : List Cond := [Cond.selects RX1 yX1_remove yX1_remove, Cond.code yX1_remove cX1_remove 3 none, Cond.methodLink RX1 21 yX1_bailAt, Cond.methodLink RX3 87 yX2_count, Cond.instanceMethod yX2_count, Cond.selects RX2 yX2_count yX2_count, Cond.code yX2_count cX2_count 1 (some .int)]
def wsX3_amnesty : List Cond := .code yX3_amnesty cX3_amnesty 7 (some .int) :: ((wsX3_amnesty_r1 ++ (wsX3_amnesty_r2 ++ (wsX3_amnesty_r3 ++ wsX3_amnesty_r4))) ++ wsX30 ++ wsX00 ++ wsX10 ++ wsX20 ++ (vx_atS RX3 43 "java/lang/IllegalArgumentException" ["java/lang/RuntimeException", "java/lang/Exception"]).filter goodWord)
def wsX3_records : List Cond := .code yX3_records cX3_records 1 (some .int) :: ([.fieldLink RX3 10 "PageBail" "bailRow" "LPageBail$BailRow;", .methodLink RX3 50 yX1_count, .instanceMethod yX1_count, .selects RX1 yX1_count yX1_count, .initialized RX1, .code yX1_count cX1_count 1 (some .int), .fieldLink RX1 17 "PageBail$BailRow" "count" "I"] ++ wsX30 ++ wsX10)
def wsX3_sum_r1 : List Cond := [Cond.fieldLink RX3 10 "PageBail" "bailRow" "LPageBail$BailRow;", Cond.fieldLink RX3 97 "PageBail$Bail" "sum" "I", Cond.methodLink RX3 31 yX3_requireCase, Cond.static yX3_requireCase, Cond.initialized RX3, Cond.code yX3_requireCase cX3_requireCase 1 none, Cond.classLink RX3 39 "java/lang/IllegalArgumentException", Cond.initialized "java/lang/IllegalArgumentException", Cond.methodLink RX3 35 yX3_isIn, Cond.static yX3_isIn, Cond.code yX3_isIn cX3_isIn 3 (some .boolean), Cond.methodLink RX3 46 yX1_find, Cond.instanceMethod yX1_find, Cond.selects RX1 yX1_find yX1_find, Cond.initialized RX1, Cond.code yX1_find cX1_find 2 (some (.object "PageBail$Bail")), Cond.methodLink RX1 35 yX1_placeOf, Cond.instanceMethod yX1_placeOf, Cond.selects RX1 yX1_placeOf yX1_placeOf, Cond.code yX1_placeOf cX1_placeOf 3 (some .int), Cond.methodLink RX1 32 yX1_countUpTo, Cond.instanceMethod yX1_countUpTo, Cond.selects RX1 yX1_countUpTo yX1_countUpTo, Cond.code yX1_countUpTo cX1_countUpTo 3 (some .int)]
def wsX3_sum_r2 : List Cond := [Cond.fieldLink RX1 17 "PageBail$BailRow" "count" "I", Cond.methodLink RX1 28 yX1_numberAt, Cond.instanceMethod yX1_numberAt, Cond.selects RX1 yX1_numberAt yX1_numberAt, Cond.code yX1_numberAt cX1_numberAt 3 (some .int), Cond.fieldLink RX1 25 "PageBail$Bail" "number" "I", Cond.methodLink RX1 21 yX1_bailAt, Cond.instanceMethod yX1_bailAt, Cond.selects RX1 yX1_bailAt yX1_bailAt, Cond.code yX1_bailAt cX1_bailAt 2 (some (.object "PageBail$Bail")), Cond.fieldLink RX1 11 "PageBail$BailRow" "bails" "[LPageBail$Bail;"]
def wsX3_sum : List Cond := .code yX3_sum cX3_sum 3 (some .int) :: ((wsX3_sum_r1 ++ wsX3_sum_r2) ++ wsX30 ++ wsX00 ++ wsX10 ++ (vx_atS RX3 43 "java/lang/IllegalArgumentException" ["java/lang/RuntimeException", "java/lang/Exception"]).filter goodWord)
def wsX3_isForfeited_r1 : List Cond := [Cond.fieldLink RX3 10 "PageBail" "bailRow" "LPageBail$BailRow;", Cond.methodLink RX3 31 yX3_requireCase, Cond.static yX3_requireCase, Cond.initialized RX3, Cond.code yX3_requireCase cX3_requireCase 1 none, Cond.classLink RX3 39 "java/lang/IllegalArgumentException", Cond.initialized "java/lang/IllegalArgumentException", Cond.methodLink RX3 35 yX3_isIn, Cond.static yX3_isIn, Cond.code yX3_isIn cX3_isIn 3 (some .boolean), Cond.methodLink RX3 46 yX1_find, Cond.instanceMethod yX1_find, Cond.selects RX1 yX1_find yX1_find, Cond.initialized RX1, Cond.code yX1_find cX1_find 2 (some (.object "PageBail$Bail")), Cond.methodLink RX1 35 yX1_placeOf, Cond.instanceMethod yX1_placeOf, Cond.selects RX1 yX1_placeOf yX1_placeOf, Cond.code yX1_placeOf cX1_placeOf 3 (some .int), Cond.methodLink RX1 32 yX1_countUpTo, Cond.instanceMethod yX1_countUpTo, Cond.selects RX1 yX1_countUpTo yX1_countUpTo, Cond.code yX1_countUpTo cX1_countUpTo 3 (some .int), Cond.fieldLink RX1 17 "PageBail$BailRow" "count" "I"]
def wsX3_isForfeited_r2 : List Cond := [Cond.methodLink RX1 28 yX1_numberAt, Cond.instanceMethod yX1_numberAt, Cond.selects RX1 yX1_numberAt yX1_numberAt, Cond.code yX1_numberAt cX1_numberAt 3 (some .int), Cond.fieldLink RX1 25 "PageBail$Bail" "number" "I", Cond.methodLink RX1 21 yX1_bailAt, Cond.instanceMethod yX1_bailAt, Cond.selects RX1 yX1_bailAt yX1_bailAt, Cond.code yX1_bailAt cX1_bailAt 2 (some (.object "PageBail$Bail")), Cond.fieldLink RX1 11 "PageBail$BailRow" "bails" "[LPageBail$Bail;", Cond.methodLink RX3 88 yX0_hasForfeitDay, Cond.instanceMethod yX0_hasForfeitDay, Cond.selects RX0 yX0_hasForfeitDay yX0_hasForfeitDay, Cond.initialized RX0, Cond.code yX0_hasForfeitDay cX0_hasForfeitDay 1 (some .boolean), Cond.fieldLink RX0 24 "PageBail$Bail" "forfeitDay" "I"]
def wsX3_isForfeited : List Cond := .code yX3_isForfeited cX3_isForfeited 3 (some .boolean) :: ((wsX3_isForfeited_r1 ++ wsX3_isForfeited_r2) ++ wsX30 ++ wsX10 ++ wsX00 ++ (vx_atS RX3 43 "java/lang/IllegalArgumentException" ["java/lang/RuntimeException", "java/lang/Exception"]).filter goodWord)
def wsX3_heldBy : List Cond := .code yX3_heldBy cX3_heldBy 2 (some .int) :: ([.classLink RX3 39 "java/lang/IllegalArgumentException", .initialized "java/lang/IllegalArgumentException", .fieldLink RX3 10 "PageBail" "bailRow" "LPageBail$BailRow;", .methodLink RX3 35 yX3_isIn, .static yX3_isIn, .initialized RX3, .code yX3_isIn cX3_isIn 3 (some .boolean), .methodLink RX3 122 yX1_sumOfSurety, .instanceMethod yX1_sumOfSurety, .selects RX1 yX1_sumOfSurety yX1_sumOfSurety, .initialized RX1, .code yX1_sumOfSurety cX1_sumOfSurety 5 (some .int), .fieldLink RX1 17 "PageBail$BailRow" "count" "I", .fieldLink RX1 38 "PageBail$Bail" "surety" "I", .fieldLink RX1 41 "PageBail$Bail" "sum" "I", .methodLink RX1 21 yX1_bailAt, .instanceMethod yX1_bailAt, .selects RX1 yX1_bailAt yX1_bailAt, .code yX1_bailAt cX1_bailAt 2 (some (.object "PageBail$Bail")), .fieldLink RX1 11 "PageBail$BailRow" "bails" "[LPageBail$Bail;"] ++ wsX30 ++ wsX10 ++ wsX00 ++ (vx_atS RX3 43 "java/lang/IllegalArgumentException" ["java/lang/RuntimeException", "java/lang/Exception"]).filter goodWord)
def wsX3_kept : List Cond := .code yX3_kept cX3_kept 1 (some .int) :: ([.fieldLink RX3 125 "PageBail" "keptInAll" "I"] ++ wsX30)
def wsX3_paidBack : List Cond := .code yX3_paidBack cX3_paidBack 1 (some .int) :: ([.fieldLink RX3 94 "PageBail" "paidInAll" "I"] ++ wsX30)
def wsX3_keepOverdue_r1 : List Cond := [Cond.fieldLink RX3 10 "PageBail" "bailRow" "LPageBail$BailRow;", Cond.fieldLink RX3 77 "PageBail" "now" "I", Cond.fieldLink RX3 125 "PageBail" "keptInAll" "I", Cond.fieldLink RX3 97 "PageBail$Bail" "sum" "I", Cond.methodLink RX3 50 yX1_count, Cond.instanceMethod yX1_count, Cond.selects RX1 yX1_count yX1_count, Cond.initialized RX1, Cond.code yX1_count cX1_count 1 (some .int), Cond.fieldLink RX1 17 "PageBail$BailRow" "count" "I", Cond.methodLink RX3 113 yX1_bailAt, Cond.instanceMethod yX1_bailAt, Cond.selects RX1 yX1_bailAt yX1_bailAt, Cond.code yX1_bailAt cX1_bailAt 2 (some (.object "PageBail$Bail")), Cond.fieldLink RX1 11 "PageBail$BailRow" "bails" "[LPageBail$Bail;", Cond.methodLink RX3 180 yX0_isOverdue, Cond.instanceMethod yX0_isOverdue, Cond.selects RX0 yX0_isOverdue yX0_isOverdue, Cond.initialized RX0, Cond.code yX0_isOverdue cX0_isOverdue 2 (some .boolean), Cond.fieldLink RX0 24 "PageBail$Bail" "forfeitDay" "I", Cond.methodLink RX0 27 yX0_hasForfeitDay, Cond.instanceMethod yX0_hasForfeitDay, Cond.selects RX0 yX0_hasForfeitDay yX0_hasForfeitDay]
def wsX3_keepOverdue_r2 : List Cond := [Cond.code yX0_hasForfeitDay cX0_hasForfeitDay 1 (some .boolean), Cond.methodLink RX3 103 yX3_takeOut, Cond.instanceMethod yX3_takeOut, Cond.selects RX3 yX3_takeOut yX3_takeOut, Cond.initialized RX3, Cond.code yX3_takeOut cX3_takeOut 2 none, Cond.fieldLink RX3 19 "PageBail" "pageRow" "LPageBail$PageRow;", Cond.fieldLink RX3 27 "PageBail" "sweptPage" "I", Cond.methodLink RX3 152 yX2_pageWith, Cond.instanceMethod yX2_pageWith, Cond.selects RX2 yX2_pageWith yX2_pageWith, Cond.initialized RX2, Cond.code yX2_pageWith cX2_pageWith 4 (some .int), Cond.fieldLink RX2 15 "PageBail$PageRow" "count" "I", Cond.methodLink RX2 23 yX2_sizeOf, Cond.instanceMethod yX2_sizeOf, Cond.selects RX2 yX2_sizeOf yX2_sizeOf, Cond.code yX2_sizeOf cX2_sizeOf 2 (some .int), Cond.fieldLink RX2 9 "PageBail$PageRow" "sizes" "[I", Cond.methodLink RX2 19 yX2_has, Cond.instanceMethod yX2_has, Cond.selects RX2 yX2_has yX2_has, Cond.code yX2_has cX2_has 2 (some .boolean), Cond.methodLink RX3 174 yX2_takeFrom]
def wsX3_keepOverdue_r3 : List Cond := [Cond.instanceMethod yX2_takeFrom, Cond.selects RX2 yX2_takeFrom yX2_takeFrom, Cond.code yX2_takeFrom cX2_takeFrom 2 none, Cond.methodLink RX2 27 yX2_remove, Cond.instanceMethod yX2_remove, Cond.selects RX2 yX2_remove yX2_remove, Cond.code yX2_remove cX2_remove 3 none, Cond.methodLink RX2 31 yX2_borrowOrJoin, Cond.instanceMethod yX2_borrowOrJoin, Cond.selects RX2 yX2_borrowOrJoin yX2_borrowOrJoin, Cond.code yX2_borrowOrJoin cX2_borrowOrJoin 2 none, Cond.methodLink RX2 34 yX2_move, Cond.instanceMethod yX2_move, Cond.selects RX2 yX2_move yX2_move, Cond.code yX2_move cX2_move 3 none, Cond.methodLink RX3 177 yX1_remove, Cond.instanceMethod yX1_remove, Cond.selects RX1 yX1_remove yX1_remove, Cond.code yX1_remove cX1_remove 3 none, Cond.methodLink RX1 21 yX1_bailAt, Cond.methodLink RX3 87 yX2_count, Cond.instanceMethod yX2_count, Cond.selects RX2 yX2_count yX2_count, Cond.code yX2_count cX2_count 1 (some .int)]
def wsX3_keepOverdue : List Cond := .code yX3_keepOverdue cX3_keepOverdue 5 (some .int) :: ((wsX3_keepOverdue_r1 ++ (wsX3_keepOverdue_r2 ++ wsX3_keepOverdue_r3)) ++ wsX30 ++ wsX00 ++ wsX10 ++ wsX20)
def wsX3_pass_r1 : List Cond := [Cond.classLink RX3 39 "java/lang/IllegalArgumentException", Cond.initialized "java/lang/IllegalArgumentException", Cond.classLink RX3 54 "java/lang/IllegalStateException", Cond.initialized "java/lang/IllegalStateException", Cond.fieldLink RX3 77 "PageBail" "now" "I", Cond.methodLink RX3 35 yX3_isIn, Cond.static yX3_isIn, Cond.initialized RX3, Cond.code yX3_isIn cX3_isIn 3 (some .boolean), Cond.methodLink RX3 132 yX3_keepOverdue, Cond.instanceMethod yX3_keepOverdue, Cond.selects RX3 yX3_keepOverdue yX3_keepOverdue, Cond.code yX3_keepOverdue cX3_keepOverdue 5 (some .int), Cond.fieldLink RX3 10 "PageBail" "bailRow" "LPageBail$BailRow;", Cond.fieldLink RX3 125 "PageBail" "keptInAll" "I", Cond.fieldLink RX3 97 "PageBail$Bail" "sum" "I", Cond.methodLink RX3 50 yX1_count, Cond.instanceMethod yX1_count, Cond.selects RX1 yX1_count yX1_count, Cond.initialized RX1, Cond.code yX1_count cX1_count 1 (some .int), Cond.fieldLink RX1 17 "PageBail$BailRow" "count" "I", Cond.methodLink RX3 113 yX1_bailAt, Cond.instanceMethod yX1_bailAt]
def wsX3_pass_r2 : List Cond := [Cond.selects RX1 yX1_bailAt yX1_bailAt, Cond.code yX1_bailAt cX1_bailAt 2 (some (.object "PageBail$Bail")), Cond.fieldLink RX1 11 "PageBail$BailRow" "bails" "[LPageBail$Bail;", Cond.methodLink RX3 180 yX0_isOverdue, Cond.instanceMethod yX0_isOverdue, Cond.selects RX0 yX0_isOverdue yX0_isOverdue, Cond.initialized RX0, Cond.code yX0_isOverdue cX0_isOverdue 2 (some .boolean), Cond.fieldLink RX0 24 "PageBail$Bail" "forfeitDay" "I", Cond.methodLink RX0 27 yX0_hasForfeitDay, Cond.instanceMethod yX0_hasForfeitDay, Cond.selects RX0 yX0_hasForfeitDay yX0_hasForfeitDay, Cond.code yX0_hasForfeitDay cX0_hasForfeitDay 1 (some .boolean), Cond.methodLink RX3 103 yX3_takeOut, Cond.instanceMethod yX3_takeOut, Cond.selects RX3 yX3_takeOut yX3_takeOut, Cond.code yX3_takeOut cX3_takeOut 2 none, Cond.fieldLink RX3 19 "PageBail" "pageRow" "LPageBail$PageRow;", Cond.fieldLink RX3 27 "PageBail" "sweptPage" "I", Cond.methodLink RX3 152 yX2_pageWith, Cond.instanceMethod yX2_pageWith, Cond.selects RX2 yX2_pageWith yX2_pageWith, Cond.initialized RX2, Cond.code yX2_pageWith cX2_pageWith 4 (some .int)]
def wsX3_pass_r3 : List Cond := [Cond.fieldLink RX2 15 "PageBail$PageRow" "count" "I", Cond.methodLink RX2 23 yX2_sizeOf, Cond.instanceMethod yX2_sizeOf, Cond.selects RX2 yX2_sizeOf yX2_sizeOf, Cond.code yX2_sizeOf cX2_sizeOf 2 (some .int), Cond.fieldLink RX2 9 "PageBail$PageRow" "sizes" "[I", Cond.methodLink RX2 19 yX2_has, Cond.instanceMethod yX2_has, Cond.selects RX2 yX2_has yX2_has, Cond.code yX2_has cX2_has 2 (some .boolean), Cond.methodLink RX3 174 yX2_takeFrom, Cond.instanceMethod yX2_takeFrom, Cond.selects RX2 yX2_takeFrom yX2_takeFrom, Cond.code yX2_takeFrom cX2_takeFrom 2 none, Cond.methodLink RX2 27 yX2_remove, Cond.instanceMethod yX2_remove, Cond.selects RX2 yX2_remove yX2_remove, Cond.code yX2_remove cX2_remove 3 none, Cond.methodLink RX2 31 yX2_borrowOrJoin, Cond.instanceMethod yX2_borrowOrJoin, Cond.selects RX2 yX2_borrowOrJoin yX2_borrowOrJoin, Cond.code yX2_borrowOrJoin cX2_borrowOrJoin 2 none, Cond.methodLink RX2 34 yX2_move, Cond.instanceMethod yX2_move]
def wsX3_pass_r4 : List Cond := [Cond.selects RX2 yX2_move yX2_move, Cond.code yX2_move cX2_move 3 none, Cond.methodLink RX3 177 yX1_remove, Cond.instanceMethod yX1_remove, Cond.selects RX1 yX1_remove yX1_remove, Cond.code yX1_remove cX1_remove 3 none, Cond.methodLink RX1 21 yX1_bailAt, Cond.methodLink RX3 87 yX2_count, Cond.instanceMethod yX2_count, Cond.selects RX2 yX2_count yX2_count, Cond.code yX2_count cX2_count 1 (some .int)]
def wsX3_pass : List Cond := .code yX3_pass cX3_pass 4 (some .int) :: ((wsX3_pass_r1 ++ (wsX3_pass_r2 ++ (wsX3_pass_r3 ++ wsX3_pass_r4))) ++ wsX30 ++ wsX00 ++ wsX10 ++ wsX20 ++ (vx_atS RX3 43 "java/lang/IllegalArgumentException" ["java/lang/RuntimeException", "java/lang/Exception"]).filter goodWord ++ (vx_atS RX3 58 "java/lang/IllegalStateException" ["java/lang/RuntimeException", "java/lang/Exception"]).filter goodWord)
def wsX3_today : List Cond := .code yX3_today cX3_today 1 (some .int) :: ([.fieldLink RX3 77 "PageBail" "now" "I"] ++ wsX30)
def wsX3_pages : List Cond := .code yX3_pages cX3_pages 1 (some .int) :: ([.fieldLink RX3 19 "PageBail" "pageRow" "LPageBail$PageRow;", .methodLink RX3 87 yX2_count, .instanceMethod yX2_count, .selects RX2 yX2_count yX2_count, .initialized RX2, .code yX2_count cX2_count 1 (some .int), .fieldLink RX2 15 "PageBail$PageRow" "count" "I"] ++ wsX30 ++ wsX20)
def wsX3_size : List Cond := .code yX3_size cX3_size 2 (some .int) :: ([.classLink RX3 139 "java/lang/IndexOutOfBoundsException", .initialized "java/lang/IndexOutOfBoundsException", .fieldLink RX3 19 "PageBail" "pageRow" "LPageBail$PageRow;", .methodLink RX3 135 yX2_has, .instanceMethod yX2_has, .selects RX2 yX2_has yX2_has, .initialized RX2, .code yX2_has cX2_has 2 (some .boolean), .fieldLink RX2 15 "PageBail$PageRow" "count" "I", .fieldLink RX2 9 "PageBail$PageRow" "sizes" "[I", .methodLink RX3 66 yX2_sizeOf, .instanceMethod yX2_sizeOf, .selects RX2 yX2_sizeOf yX2_sizeOf, .code yX2_sizeOf cX2_sizeOf 2 (some .int), .methodLink RX2 19 yX2_has] ++ wsX30 ++ wsX20 ++ (vx_atS RX3 143 "java/lang/IndexOutOfBoundsException" ["java/lang/RuntimeException", "java/lang/Exception"]).filter goodWord)
def wsX3_at_r1 : List Cond := [Cond.classLink RX3 139 "java/lang/IndexOutOfBoundsException", Cond.initialized "java/lang/IndexOutOfBoundsException", Cond.fieldLink RX3 19 "PageBail" "pageRow" "LPageBail$PageRow;", Cond.fieldLink RX3 10 "PageBail" "bailRow" "LPageBail$BailRow;", Cond.methodLink RX3 135 yX2_has, Cond.instanceMethod yX2_has, Cond.selects RX2 yX2_has yX2_has, Cond.initialized RX2, Cond.code yX2_has cX2_has 2 (some .boolean), Cond.fieldLink RX2 15 "PageBail$PageRow" "count" "I", Cond.fieldLink RX2 9 "PageBail$PageRow" "sizes" "[I", Cond.methodLink RX3 66 yX2_sizeOf, Cond.instanceMethod yX2_sizeOf, Cond.selects RX2 yX2_sizeOf yX2_sizeOf, Cond.code yX2_sizeOf cX2_sizeOf 2 (some .int), Cond.methodLink RX2 19 yX2_has, Cond.methodLink RX3 35 yX3_isIn, Cond.static yX3_isIn, Cond.initialized RX3, Cond.code yX3_isIn cX3_isIn 3 (some .boolean), Cond.methodLink RX3 146 yX2_beginOf, Cond.instanceMethod yX2_beginOf, Cond.selects RX2 yX2_beginOf yX2_beginOf, Cond.code yX2_beginOf cX2_beginOf 4 (some .int)]
def wsX3_at_r2 : List Cond := [Cond.methodLink RX2 23 yX2_sizeOf, Cond.methodLink RX3 149 yX1_numberAt, Cond.instanceMethod yX1_numberAt, Cond.selects RX1 yX1_numberAt yX1_numberAt, Cond.initialized RX1, Cond.code yX1_numberAt cX1_numberAt 3 (some .int), Cond.fieldLink RX1 25 "PageBail$Bail" "number" "I", Cond.methodLink RX1 21 yX1_bailAt, Cond.instanceMethod yX1_bailAt, Cond.selects RX1 yX1_bailAt yX1_bailAt, Cond.code yX1_bailAt cX1_bailAt 2 (some (.object "PageBail$Bail")), Cond.fieldLink RX1 17 "PageBail$BailRow" "count" "I", Cond.fieldLink RX1 11 "PageBail$BailRow" "bails" "[LPageBail$Bail;"]
def wsX3_at : List Cond := .code yX3_at cX3_at 3 (some .int) :: ((wsX3_at_r1 ++ wsX3_at_r2) ++ wsX30 ++ wsX20 ++ wsX00 ++ wsX10 ++ (vx_atS RX3 143 "java/lang/IndexOutOfBoundsException" ["java/lang/RuntimeException", "java/lang/Exception"]).filter goodWord)
def wsX3_pageOf_r1 : List Cond := [Cond.fieldLink RX3 19 "PageBail" "pageRow" "LPageBail$PageRow;", Cond.fieldLink RX3 10 "PageBail" "bailRow" "LPageBail$BailRow;", Cond.methodLink RX3 31 yX3_requireCase, Cond.static yX3_requireCase, Cond.initialized RX3, Cond.code yX3_requireCase cX3_requireCase 1 none, Cond.classLink RX3 39 "java/lang/IllegalArgumentException", Cond.initialized "java/lang/IllegalArgumentException", Cond.methodLink RX3 35 yX3_isIn, Cond.static yX3_isIn, Cond.code yX3_isIn cX3_isIn 3 (some .boolean), Cond.methodLink RX3 100 yX1_placeOf, Cond.instanceMethod yX1_placeOf, Cond.selects RX1 yX1_placeOf yX1_placeOf, Cond.initialized RX1, Cond.code yX1_placeOf cX1_placeOf 3 (some .int), Cond.methodLink RX1 32 yX1_countUpTo, Cond.instanceMethod yX1_countUpTo, Cond.selects RX1 yX1_countUpTo yX1_countUpTo, Cond.code yX1_countUpTo cX1_countUpTo 3 (some .int), Cond.fieldLink RX1 17 "PageBail$BailRow" "count" "I", Cond.methodLink RX1 28 yX1_numberAt, Cond.instanceMethod yX1_numberAt, Cond.selects RX1 yX1_numberAt yX1_numberAt]
def wsX3_pageOf_r2 : List Cond := [Cond.code yX1_numberAt cX1_numberAt 3 (some .int), Cond.fieldLink RX1 25 "PageBail$Bail" "number" "I", Cond.methodLink RX1 21 yX1_bailAt, Cond.instanceMethod yX1_bailAt, Cond.selects RX1 yX1_bailAt yX1_bailAt, Cond.code yX1_bailAt cX1_bailAt 2 (some (.object "PageBail$Bail")), Cond.fieldLink RX1 11 "PageBail$BailRow" "bails" "[LPageBail$Bail;", Cond.methodLink RX3 152 yX2_pageWith, Cond.instanceMethod yX2_pageWith, Cond.selects RX2 yX2_pageWith yX2_pageWith, Cond.initialized RX2, Cond.code yX2_pageWith cX2_pageWith 4 (some .int), Cond.fieldLink RX2 15 "PageBail$PageRow" "count" "I", Cond.methodLink RX2 23 yX2_sizeOf, Cond.instanceMethod yX2_sizeOf, Cond.selects RX2 yX2_sizeOf yX2_sizeOf, Cond.code yX2_sizeOf cX2_sizeOf 2 (some .int), Cond.fieldLink RX2 9 "PageBail$PageRow" "sizes" "[I", Cond.methodLink RX2 19 yX2_has, Cond.instanceMethod yX2_has, Cond.selects RX2 yX2_has yX2_has, Cond.code yX2_has cX2_has 2 (some .boolean)]
def wsX3_pageOf : List Cond := .code yX3_pageOf cX3_pageOf 2 (some .int) :: ((wsX3_pageOf_r1 ++ wsX3_pageOf_r2) ++ wsX30 ++ wsX10 ++ wsX00 ++ wsX20 ++ (vx_atS RX3 43 "java/lang/IllegalArgumentException" ["java/lang/RuntimeException", "java/lang/Exception"]).filter goodWord)
def wsX3_sweep : List Cond := .code yX3_sweep cX3_sweep 1 none :: ([.classLink RX3 54 "java/lang/IllegalStateException", .initialized "java/lang/IllegalStateException", .fieldLink RX3 27 "PageBail" "sweptPage" "I"] ++ wsX30 ++ (vx_atS RX3 58 "java/lang/IllegalStateException" ["java/lang/RuntimeException", "java/lang/Exception"]).filter goodWord)
def wsX3_sweepOn : List Cond := .code yX3_sweepOn cX3_sweepOn 1 (some .int) :: ([.fieldLink RX3 19 "PageBail" "pageRow" "LPageBail$PageRow;", .fieldLink RX3 27 "PageBail" "sweptPage" "I", .methodLink RX3 135 yX2_has, .instanceMethod yX2_has, .selects RX2 yX2_has yX2_has, .initialized RX2, .code yX2_has cX2_has 2 (some .boolean), .fieldLink RX2 15 "PageBail$PageRow" "count" "I", .fieldLink RX2 9 "PageBail$PageRow" "sizes" "[I", .methodLink RX3 66 yX2_sizeOf, .instanceMethod yX2_sizeOf, .selects RX2 yX2_sizeOf yX2_sizeOf, .code yX2_sizeOf cX2_sizeOf 2 (some .int), .methodLink RX2 19 yX2_has, .methodLink RX3 183 yX2_move, .instanceMethod yX2_move, .selects RX2 yX2_move yX2_move, .code yX2_move cX2_move 3 none, .methodLink RX2 27 yX2_remove, .instanceMethod yX2_remove, .selects RX2 yX2_remove yX2_remove, .code yX2_remove cX2_remove 3 none] ++ wsX30 ++ wsX20)
def wsX3_step_r1 : List Cond := [Cond.classLink RX3 39 "java/lang/IllegalArgumentException", Cond.initialized "java/lang/IllegalArgumentException", Cond.classLink RX3 54 "java/lang/IllegalStateException", Cond.initialized "java/lang/IllegalStateException", Cond.fieldLink RX3 27 "PageBail" "sweptPage" "I", Cond.methodLink RX3 35 yX3_isIn, Cond.static yX3_isIn, Cond.initialized RX3, Cond.code yX3_isIn cX3_isIn 3 (some .boolean), Cond.methodLink RX3 161 yX3_sweepOn, Cond.instanceMethod yX3_sweepOn, Cond.selects RX3 yX3_sweepOn yX3_sweepOn, Cond.code yX3_sweepOn cX3_sweepOn 1 (some .int), Cond.fieldLink RX3 19 "PageBail" "pageRow" "LPageBail$PageRow;", Cond.methodLink RX3 135 yX2_has, Cond.instanceMethod yX2_has, Cond.selects RX2 yX2_has yX2_has, Cond.initialized RX2, Cond.code yX2_has cX2_has 2 (some .boolean), Cond.fieldLink RX2 15 "PageBail$PageRow" "count" "I", Cond.fieldLink RX2 9 "PageBail$PageRow" "sizes" "[I", Cond.methodLink RX3 66 yX2_sizeOf, Cond.instanceMethod yX2_sizeOf, Cond.selects RX2 yX2_sizeOf yX2_sizeOf]
def wsX3_step_r2 : List Cond := [Cond.code yX2_sizeOf cX2_sizeOf 2 (some .int), Cond.methodLink RX2 19 yX2_has, Cond.methodLink RX3 183 yX2_move, Cond.instanceMethod yX2_move, Cond.selects RX2 yX2_move yX2_move, Cond.code yX2_move cX2_move 3 none, Cond.methodLink RX2 27 yX2_remove, Cond.instanceMethod yX2_remove, Cond.selects RX2 yX2_remove yX2_remove, Cond.code yX2_remove cX2_remove 3 none]
def wsX3_step : List Cond := .code yX3_step cX3_step 4 (some .int) :: ((wsX3_step_r1 ++ wsX3_step_r2) ++ wsX30 ++ wsX20 ++ (vx_atS RX3 43 "java/lang/IllegalArgumentException" ["java/lang/RuntimeException", "java/lang/Exception"]).filter goodWord ++ (vx_atS RX3 58 "java/lang/IllegalStateException" ["java/lang/RuntimeException", "java/lang/Exception"]).filter goodWord)
def wsX3_sweeping : List Cond := .code yX3_sweeping cX3_sweeping 1 (some .int) :: ([.fieldLink RX3 27 "PageBail" "sweptPage" "I"] ++ wsX30)
def wsX3_walk_r1 : List Cond := [Cond.classLink RX3 39 "java/lang/IllegalArgumentException", Cond.initialized "java/lang/IllegalArgumentException", Cond.fieldLink RX3 23 "PageBail" "lastRead" "[I", Cond.fieldLink RX3 10 "PageBail" "bailRow" "LPageBail$BailRow;", Cond.methodLink RX3 35 yX3_isIn, Cond.static yX3_isIn, Cond.initialized RX3, Cond.code yX3_isIn cX3_isIn 3 (some .boolean), Cond.methodLink RX3 59 yX1_countUpTo, Cond.instanceMethod yX1_countUpTo, Cond.selects RX1 yX1_countUpTo yX1_countUpTo, Cond.initialized RX1, Cond.code yX1_countUpTo cX1_countUpTo 3 (some .int), Cond.fieldLink RX1 17 "PageBail$BailRow" "count" "I", Cond.methodLink RX1 28 yX1_numberAt, Cond.instanceMethod yX1_numberAt, Cond.selects RX1 yX1_numberAt yX1_numberAt, Cond.code yX1_numberAt cX1_numberAt 3 (some .int), Cond.fieldLink RX1 25 "PageBail$Bail" "number" "I", Cond.methodLink RX1 21 yX1_bailAt, Cond.instanceMethod yX1_bailAt, Cond.selects RX1 yX1_bailAt yX1_bailAt, Cond.code yX1_bailAt cX1_bailAt 2 (some (.object "PageBail$Bail")), Cond.fieldLink RX1 11 "PageBail$BailRow" "bails" "[LPageBail$Bail;"]
def wsX3_walk_r2 : List Cond := [Cond.methodLink RX3 149 yX1_numberAt]
def wsX3_walk : List Cond := .code yX3_walk cX3_walk 2 (some .int) :: ((wsX3_walk_r1 ++ wsX3_walk_r2) ++ wsX30 ++ wsX10 ++ wsX00 ++ (vx_atS RX3 43 "java/lang/IllegalArgumentException" ["java/lang/RuntimeException", "java/lang/Exception"]).filter goodWord)
def wsX4_init : List Cond := .code yX4_init cX4_init 1 none :: ([.methodLink RX4 1 objectInit, .instanceMethod objectInit, .code objectInit ⟨#[0xb1]⟩ 1 none, .arrayClass .int, .fieldLink RX4 7 "PageBailModel" "cases" "[I", .fieldLink RX4 13 "PageBailModel" "sums" "[I", .fieldLink RX4 16 "PageBailModel" "sureties" "[I", .fieldLink RX4 19 "PageBailModel" "putAt" "[I", .fieldLink RX4 22 "PageBailModel" "forfeitedAt" "[I", .fieldLink RX4 25 "PageBailModel" "sizes" "[I", .fieldLink RX4 28 "PageBailModel" "sweeping" "I", .fieldLink RX4 32 "PageBailModel" "walks" "[I"] ++ wsX40)
def wsX4_thrown : List Cond := .code yX4_thrown cX4_thrown 1 (some .int) :: ([.fieldLink RX4 35 "PageBailModel" "thrown" "I"] ++ wsX40)
def wsX4_goesWell : List Cond := .code yX4_goesWell cX4_goesWell 2 (some .boolean) :: ([.fieldLink RX4 35 "PageBailModel" "thrown" "I"] ++ wsX40)
def wsX4_in : List Cond := .code yX4_in cX4_in 3 (some .boolean) :: ([])
def wsX4_isCase : List Cond := .code yX4_isCase cX4_isCase 1 (some .boolean) :: ([.methodLink RX4 38 yX4_in, .static yX4_in, .initialized RX4, .code yX4_in cX4_in 3 (some .boolean)])
def wsX4_find : List Cond := .code yX4_find cX4_find 3 (some .int) :: ([.fieldLink RX4 42 "PageBailModel" "records" "I", .fieldLink RX4 7 "PageBailModel" "cases" "[I"] ++ wsX40)
def wsX4_beginOf : List Cond := .code yX4_beginOf cX4_beginOf 4 (some .int) :: ([.fieldLink RX4 25 "PageBailModel" "sizes" "[I"] ++ wsX40)
def wsX4_pageAt : List Cond := .code yX4_pageAt cX4_pageAt 4 (some .int) :: ([.fieldLink RX4 25 "PageBailModel" "sizes" "[I"] ++ wsX40)
def wsX4_dropPage : List Cond := .code yX4_dropPage cX4_dropPage 3 none :: ([.fieldLink RX4 45 "PageBailModel" "pages" "I", .fieldLink RX4 25 "PageBailModel" "sizes" "[I"] ++ wsX40)
def wsX4_pageFor : List Cond := .code yX4_pageFor cX4_pageFor 4 (some .int) :: ([.fieldLink RX4 45 "PageBailModel" "pages" "I", .fieldLink RX4 7 "PageBailModel" "cases" "[I", .methodLink RX4 48 yX4_beginOf, .instanceMethod yX4_beginOf, .selects RX4 yX4_beginOf yX4_beginOf, .initialized RX4, .code yX4_beginOf cX4_beginOf 4 (some .int), .fieldLink RX4 25 "PageBailModel" "sizes" "[I"] ++ wsX40)
def wsX4_split : List Cond := .code yX4_split cX4_split 3 none :: ([.fieldLink RX4 45 "PageBailModel" "pages" "I", .fieldLink RX4 25 "PageBailModel" "sizes" "[I"] ++ wsX40)
def wsX4_copy : List Cond := .code yX4_copy cX4_copy 3 none :: ([.fieldLink RX4 7 "PageBailModel" "cases" "[I", .fieldLink RX4 13 "PageBailModel" "sums" "[I", .fieldLink RX4 16 "PageBailModel" "sureties" "[I", .fieldLink RX4 19 "PageBailModel" "putAt" "[I", .fieldLink RX4 22 "PageBailModel" "forfeitedAt" "[I"] ++ wsX40)
def wsX4_moveUp : List Cond := .code yX4_moveUp cX4_moveUp 3 none :: ([.fieldLink RX4 42 "PageBailModel" "records" "I", .methodLink RX4 52 yX4_copy, .instanceMethod yX4_copy, .selects RX4 yX4_copy yX4_copy, .initialized RX4, .code yX4_copy cX4_copy 3 none, .fieldLink RX4 7 "PageBailModel" "cases" "[I", .fieldLink RX4 13 "PageBailModel" "sums" "[I", .fieldLink RX4 16 "PageBailModel" "sureties" "[I", .fieldLink RX4 19 "PageBailModel" "putAt" "[I", .fieldLink RX4 22 "PageBailModel" "forfeitedAt" "[I"] ++ wsX40)
def wsX4_put_r1 : List Cond := [Cond.fieldLink RX4 42 "PageBailModel" "records" "I", Cond.fieldLink RX4 45 "PageBailModel" "pages" "I", Cond.fieldLink RX4 25 "PageBailModel" "sizes" "[I", Cond.fieldLink RX4 7 "PageBailModel" "cases" "[I", Cond.fieldLink RX4 13 "PageBailModel" "sums" "[I", Cond.fieldLink RX4 16 "PageBailModel" "sureties" "[I", Cond.fieldLink RX4 19 "PageBailModel" "putAt" "[I", Cond.fieldLink RX4 76 "PageBailModel" "today" "I", Cond.fieldLink RX4 22 "PageBailModel" "forfeitedAt" "[I", Cond.methodLink RX4 56 yX4_isCase, Cond.static yX4_isCase, Cond.initialized RX4, Cond.code yX4_isCase cX4_isCase 1 (some .boolean), Cond.methodLink RX4 38 yX4_in, Cond.static yX4_in, Cond.code yX4_in cX4_in 3 (some .boolean), Cond.methodLink RX4 60 yX4_find, Cond.instanceMethod yX4_find, Cond.selects RX4 yX4_find yX4_find, Cond.code yX4_find cX4_find 3 (some .int), Cond.methodLink RX4 63 yX4_goesWell, Cond.instanceMethod yX4_goesWell, Cond.selects RX4 yX4_goesWell yX4_goesWell, Cond.code yX4_goesWell cX4_goesWell 2 (some .boolean)]
def wsX4_put_r2 : List Cond := [Cond.fieldLink RX4 35 "PageBailModel" "thrown" "I", Cond.methodLink RX4 66 yX4_pageFor, Cond.instanceMethod yX4_pageFor, Cond.selects RX4 yX4_pageFor yX4_pageFor, Cond.code yX4_pageFor cX4_pageFor 4 (some .int), Cond.methodLink RX4 48 yX4_beginOf, Cond.instanceMethod yX4_beginOf, Cond.selects RX4 yX4_beginOf yX4_beginOf, Cond.code yX4_beginOf cX4_beginOf 4 (some .int), Cond.methodLink RX4 69 yX4_split, Cond.instanceMethod yX4_split, Cond.selects RX4 yX4_split yX4_split, Cond.code yX4_split cX4_split 3 none, Cond.methodLink RX4 73 yX4_moveUp, Cond.instanceMethod yX4_moveUp, Cond.selects RX4 yX4_moveUp yX4_moveUp, Cond.code yX4_moveUp cX4_moveUp 3 none, Cond.methodLink RX4 52 yX4_copy, Cond.instanceMethod yX4_copy, Cond.selects RX4 yX4_copy yX4_copy, Cond.code yX4_copy cX4_copy 3 none]
def wsX4_put : List Cond := .code yX4_put cX4_put 7 (some .int) :: ((wsX4_put_r1 ++ wsX4_put_r2) ++ wsX40)
def wsX4_settle : List Cond := .code yX4_settle cX4_settle 3 none :: ([.fieldLink RX4 45 "PageBailModel" "pages" "I", .fieldLink RX4 25 "PageBailModel" "sizes" "[I", .methodLink RX4 79 yX4_dropPage, .instanceMethod yX4_dropPage, .selects RX4 yX4_dropPage yX4_dropPage, .initialized RX4, .code yX4_dropPage cX4_dropPage 3 none] ++ wsX40)
def wsX4_takeOut_r1 : List Cond := [Cond.fieldLink RX4 42 "PageBailModel" "records" "I", Cond.fieldLink RX4 25 "PageBailModel" "sizes" "[I", Cond.fieldLink RX4 45 "PageBailModel" "pages" "I", Cond.fieldLink RX4 28 "PageBailModel" "sweeping" "I", Cond.methodLink RX4 82 yX4_pageAt, Cond.instanceMethod yX4_pageAt, Cond.selects RX4 yX4_pageAt yX4_pageAt, Cond.initialized RX4, Cond.code yX4_pageAt cX4_pageAt 4 (some .int), Cond.methodLink RX4 52 yX4_copy, Cond.instanceMethod yX4_copy, Cond.selects RX4 yX4_copy yX4_copy, Cond.code yX4_copy cX4_copy 3 none, Cond.fieldLink RX4 7 "PageBailModel" "cases" "[I", Cond.fieldLink RX4 13 "PageBailModel" "sums" "[I", Cond.fieldLink RX4 16 "PageBailModel" "sureties" "[I", Cond.fieldLink RX4 19 "PageBailModel" "putAt" "[I", Cond.fieldLink RX4 22 "PageBailModel" "forfeitedAt" "[I", Cond.methodLink RX4 79 yX4_dropPage, Cond.instanceMethod yX4_dropPage, Cond.selects RX4 yX4_dropPage yX4_dropPage, Cond.code yX4_dropPage cX4_dropPage 3 none, Cond.methodLink RX4 85 yX4_settle, Cond.instanceMethod yX4_settle]
def wsX4_takeOut_r2 : List Cond := [Cond.selects RX4 yX4_settle yX4_settle, Cond.code yX4_settle cX4_settle 3 none]
def wsX4_takeOut : List Cond := .code yX4_takeOut cX4_takeOut 4 none :: ((wsX4_takeOut_r1 ++ wsX4_takeOut_r2) ++ wsX40)
def wsX4_payBack_r1 : List Cond := [Cond.fieldLink RX4 22 "PageBailModel" "forfeitedAt" "[I", Cond.fieldLink RX4 13 "PageBailModel" "sums" "[I", Cond.fieldLink RX4 88 "PageBailModel" "paidBack" "I", Cond.methodLink RX4 56 yX4_isCase, Cond.static yX4_isCase, Cond.initialized RX4, Cond.code yX4_isCase cX4_isCase 1 (some .boolean), Cond.methodLink RX4 38 yX4_in, Cond.static yX4_in, Cond.code yX4_in cX4_in 3 (some .boolean), Cond.methodLink RX4 60 yX4_find, Cond.instanceMethod yX4_find, Cond.selects RX4 yX4_find yX4_find, Cond.code yX4_find cX4_find 3 (some .int), Cond.fieldLink RX4 42 "PageBailModel" "records" "I", Cond.fieldLink RX4 7 "PageBailModel" "cases" "[I", Cond.methodLink RX4 63 yX4_goesWell, Cond.instanceMethod yX4_goesWell, Cond.selects RX4 yX4_goesWell yX4_goesWell, Cond.code yX4_goesWell cX4_goesWell 2 (some .boolean), Cond.fieldLink RX4 35 "PageBailModel" "thrown" "I", Cond.methodLink RX4 91 yX4_takeOut, Cond.instanceMethod yX4_takeOut, Cond.selects RX4 yX4_takeOut yX4_takeOut]
def wsX4_payBack_r2 : List Cond := [Cond.code yX4_takeOut cX4_takeOut 4 none, Cond.fieldLink RX4 25 "PageBailModel" "sizes" "[I", Cond.fieldLink RX4 45 "PageBailModel" "pages" "I", Cond.fieldLink RX4 28 "PageBailModel" "sweeping" "I", Cond.methodLink RX4 82 yX4_pageAt, Cond.instanceMethod yX4_pageAt, Cond.selects RX4 yX4_pageAt yX4_pageAt, Cond.code yX4_pageAt cX4_pageAt 4 (some .int), Cond.methodLink RX4 52 yX4_copy, Cond.instanceMethod yX4_copy, Cond.selects RX4 yX4_copy yX4_copy, Cond.code yX4_copy cX4_copy 3 none, Cond.fieldLink RX4 16 "PageBailModel" "sureties" "[I", Cond.fieldLink RX4 19 "PageBailModel" "putAt" "[I", Cond.methodLink RX4 79 yX4_dropPage, Cond.instanceMethod yX4_dropPage, Cond.selects RX4 yX4_dropPage yX4_dropPage, Cond.code yX4_dropPage cX4_dropPage 3 none, Cond.methodLink RX4 85 yX4_settle, Cond.instanceMethod yX4_settle, Cond.selects RX4 yX4_settle yX4_settle, Cond.code yX4_settle cX4_settle 3 none]
def wsX4_payBack : List Cond := .code yX4_payBack cX4_payBack 4 (some .int) :: ((wsX4_payBack_r1 ++ wsX4_payBack_r2) ++ wsX40)
def wsX4_forfeit : List Cond := .code yX4_forfeit cX4_forfeit 3 none :: ([.fieldLink RX4 22 "PageBailModel" "forfeitedAt" "[I", .fieldLink RX4 76 "PageBailModel" "today" "I", .methodLink RX4 56 yX4_isCase, .static yX4_isCase, .initialized RX4, .code yX4_isCase cX4_isCase 1 (some .boolean), .methodLink RX4 38 yX4_in, .static yX4_in, .code yX4_in cX4_in 3 (some .boolean), .methodLink RX4 60 yX4_find, .instanceMethod yX4_find, .selects RX4 yX4_find yX4_find, .code yX4_find cX4_find 3 (some .int), .fieldLink RX4 42 "PageBailModel" "records" "I", .fieldLink RX4 7 "PageBailModel" "cases" "[I", .methodLink RX4 63 yX4_goesWell, .instanceMethod yX4_goesWell, .selects RX4 yX4_goesWell yX4_goesWell, .code yX4_goesWell cX4_goesWell 2 (some .boolean), .fieldLink RX4 35 "PageBailModel" "thrown" "I"] ++ wsX40)
def wsX4_undo : List Cond := .code yX4_undo cX4_undo 4 (some .int) :: ([.fieldLink RX4 22 "PageBailModel" "forfeitedAt" "[I", .fieldLink RX4 76 "PageBailModel" "today" "I", .methodLink RX4 56 yX4_isCase, .static yX4_isCase, .initialized RX4, .code yX4_isCase cX4_isCase 1 (some .boolean), .methodLink RX4 38 yX4_in, .static yX4_in, .code yX4_in cX4_in 3 (some .boolean), .methodLink RX4 60 yX4_find, .instanceMethod yX4_find, .selects RX4 yX4_find yX4_find, .code yX4_find cX4_find 3 (some .int), .fieldLink RX4 42 "PageBailModel" "records" "I", .fieldLink RX4 7 "PageBailModel" "cases" "[I", .methodLink RX4 63 yX4_goesWell, .instanceMethod yX4_goesWell, .selects RX4 yX4_goesWell yX4_goesWell, .code yX4_goesWell cX4_goesWell 2 (some .boolean), .fieldLink RX4 35 "PageBailModel" "thrown" "I"] ++ wsX40)
def wsX4_amnesty_r1 : List Cond := [Cond.fieldLink RX4 76 "PageBailModel" "today" "I", Cond.fieldLink RX4 42 "PageBailModel" "records" "I", Cond.fieldLink RX4 22 "PageBailModel" "forfeitedAt" "[I", Cond.fieldLink RX4 13 "PageBailModel" "sums" "[I", Cond.fieldLink RX4 19 "PageBailModel" "putAt" "[I", Cond.fieldLink RX4 88 "PageBailModel" "paidBack" "I", Cond.methodLink RX4 38 yX4_in, Cond.static yX4_in, Cond.initialized RX4, Cond.code yX4_in cX4_in 3 (some .boolean), Cond.methodLink RX4 63 yX4_goesWell, Cond.instanceMethod yX4_goesWell, Cond.selects RX4 yX4_goesWell yX4_goesWell, Cond.code yX4_goesWell cX4_goesWell 2 (some .boolean), Cond.fieldLink RX4 35 "PageBailModel" "thrown" "I", Cond.methodLink RX4 91 yX4_takeOut, Cond.instanceMethod yX4_takeOut, Cond.selects RX4 yX4_takeOut yX4_takeOut, Cond.code yX4_takeOut cX4_takeOut 4 none, Cond.fieldLink RX4 25 "PageBailModel" "sizes" "[I", Cond.fieldLink RX4 45 "PageBailModel" "pages" "I", Cond.fieldLink RX4 28 "PageBailModel" "sweeping" "I", Cond.methodLink RX4 82 yX4_pageAt, Cond.instanceMethod yX4_pageAt]
def wsX4_amnesty_r2 : List Cond := [Cond.selects RX4 yX4_pageAt yX4_pageAt, Cond.code yX4_pageAt cX4_pageAt 4 (some .int), Cond.methodLink RX4 52 yX4_copy, Cond.instanceMethod yX4_copy, Cond.selects RX4 yX4_copy yX4_copy, Cond.code yX4_copy cX4_copy 3 none, Cond.fieldLink RX4 7 "PageBailModel" "cases" "[I", Cond.fieldLink RX4 16 "PageBailModel" "sureties" "[I", Cond.methodLink RX4 79 yX4_dropPage, Cond.instanceMethod yX4_dropPage, Cond.selects RX4 yX4_dropPage yX4_dropPage, Cond.code yX4_dropPage cX4_dropPage 3 none, Cond.methodLink RX4 85 yX4_settle, Cond.instanceMethod yX4_settle, Cond.selects RX4 yX4_settle yX4_settle, Cond.code yX4_settle cX4_settle 3 none]
def wsX4_amnesty : List Cond := .code yX4_amnesty cX4_amnesty 5 (some .int) :: ((wsX4_amnesty_r1 ++ wsX4_amnesty_r2) ++ wsX40)
def wsX4_records : List Cond := .code yX4_records cX4_records 1 (some .int) :: ([.fieldLink RX4 35 "PageBailModel" "thrown" "I", .fieldLink RX4 42 "PageBailModel" "records" "I"] ++ wsX40)
def wsX4_sum : List Cond := .code yX4_sum cX4_sum 3 (some .int) :: ([.fieldLink RX4 13 "PageBailModel" "sums" "[I", .methodLink RX4 56 yX4_isCase, .static yX4_isCase, .initialized RX4, .code yX4_isCase cX4_isCase 1 (some .boolean), .methodLink RX4 38 yX4_in, .static yX4_in, .code yX4_in cX4_in 3 (some .boolean), .methodLink RX4 60 yX4_find, .instanceMethod yX4_find, .selects RX4 yX4_find yX4_find, .code yX4_find cX4_find 3 (some .int), .fieldLink RX4 42 "PageBailModel" "records" "I", .fieldLink RX4 7 "PageBailModel" "cases" "[I", .methodLink RX4 63 yX4_goesWell, .instanceMethod yX4_goesWell, .selects RX4 yX4_goesWell yX4_goesWell, .code yX4_goesWell cX4_goesWell 2 (some .boolean), .fieldLink RX4 35 "PageBailModel" "thrown" "I"] ++ wsX40)
def wsX4_isForfeited : List Cond := .code yX4_isForfeited cX4_isForfeited 3 (some .boolean) :: ([.fieldLink RX4 22 "PageBailModel" "forfeitedAt" "[I", .methodLink RX4 56 yX4_isCase, .static yX4_isCase, .initialized RX4, .code yX4_isCase cX4_isCase 1 (some .boolean), .methodLink RX4 38 yX4_in, .static yX4_in, .code yX4_in cX4_in 3 (some .boolean), .methodLink RX4 60 yX4_find, .instanceMethod yX4_find, .selects RX4 yX4_find yX4_find, .code yX4_find cX4_find 3 (some .int), .fieldLink RX4 42 "PageBailModel" "records" "I", .fieldLink RX4 7 "PageBailModel" "cases" "[I", .methodLink RX4 63 yX4_goesWell, .instanceMethod yX4_goesWell, .selects RX4 yX4_goesWell yX4_goesWell, .code yX4_goesWell cX4_goesWell 2 (some .boolean), .fieldLink RX4 35 "PageBailModel" "thrown" "I"] ++ wsX40)
def wsX4_heldBy : List Cond := .code yX4_heldBy cX4_heldBy 4 (some .int) :: ([.fieldLink RX4 42 "PageBailModel" "records" "I", .fieldLink RX4 16 "PageBailModel" "sureties" "[I", .fieldLink RX4 13 "PageBailModel" "sums" "[I", .methodLink RX4 38 yX4_in, .static yX4_in, .initialized RX4, .code yX4_in cX4_in 3 (some .boolean), .methodLink RX4 63 yX4_goesWell, .instanceMethod yX4_goesWell, .selects RX4 yX4_goesWell yX4_goesWell, .code yX4_goesWell cX4_goesWell 2 (some .boolean), .fieldLink RX4 35 "PageBailModel" "thrown" "I"] ++ wsX40)
def wsX4_kept : List Cond := .code yX4_kept cX4_kept 1 (some .int) :: ([.fieldLink RX4 35 "PageBailModel" "thrown" "I", .fieldLink RX4 94 "PageBailModel" "kept" "I"] ++ wsX40)
def wsX4_paidBack : List Cond := .code yX4_paidBack cX4_paidBack 1 (some .int) :: ([.fieldLink RX4 35 "PageBailModel" "thrown" "I", .fieldLink RX4 88 "PageBailModel" "paidBack" "I"] ++ wsX40)
def wsX4_pass_r1 : List Cond := [Cond.fieldLink RX4 76 "PageBailModel" "today" "I", Cond.fieldLink RX4 42 "PageBailModel" "records" "I", Cond.fieldLink RX4 22 "PageBailModel" "forfeitedAt" "[I", Cond.fieldLink RX4 94 "PageBailModel" "kept" "I", Cond.fieldLink RX4 13 "PageBailModel" "sums" "[I", Cond.methodLink RX4 38 yX4_in, Cond.static yX4_in, Cond.initialized RX4, Cond.code yX4_in cX4_in 3 (some .boolean), Cond.methodLink RX4 63 yX4_goesWell, Cond.instanceMethod yX4_goesWell, Cond.selects RX4 yX4_goesWell yX4_goesWell, Cond.code yX4_goesWell cX4_goesWell 2 (some .boolean), Cond.fieldLink RX4 35 "PageBailModel" "thrown" "I", Cond.methodLink RX4 91 yX4_takeOut, Cond.instanceMethod yX4_takeOut, Cond.selects RX4 yX4_takeOut yX4_takeOut, Cond.code yX4_takeOut cX4_takeOut 4 none, Cond.fieldLink RX4 25 "PageBailModel" "sizes" "[I", Cond.fieldLink RX4 45 "PageBailModel" "pages" "I", Cond.fieldLink RX4 28 "PageBailModel" "sweeping" "I", Cond.methodLink RX4 82 yX4_pageAt, Cond.instanceMethod yX4_pageAt, Cond.selects RX4 yX4_pageAt yX4_pageAt]
def wsX4_pass_r2 : List Cond := [Cond.code yX4_pageAt cX4_pageAt 4 (some .int), Cond.methodLink RX4 52 yX4_copy, Cond.instanceMethod yX4_copy, Cond.selects RX4 yX4_copy yX4_copy, Cond.code yX4_copy cX4_copy 3 none, Cond.fieldLink RX4 7 "PageBailModel" "cases" "[I", Cond.fieldLink RX4 16 "PageBailModel" "sureties" "[I", Cond.fieldLink RX4 19 "PageBailModel" "putAt" "[I", Cond.methodLink RX4 79 yX4_dropPage, Cond.instanceMethod yX4_dropPage, Cond.selects RX4 yX4_dropPage yX4_dropPage, Cond.code yX4_dropPage cX4_dropPage 3 none, Cond.methodLink RX4 85 yX4_settle, Cond.instanceMethod yX4_settle, Cond.selects RX4 yX4_settle yX4_settle, Cond.code yX4_settle cX4_settle 3 none]
def wsX4_pass : List Cond := .code yX4_pass cX4_pass 6 (some .int) :: ((wsX4_pass_r1 ++ wsX4_pass_r2) ++ wsX40)
def wsX4_today : List Cond := .code yX4_today cX4_today 1 (some .int) :: ([.fieldLink RX4 35 "PageBailModel" "thrown" "I", .fieldLink RX4 76 "PageBailModel" "today" "I"] ++ wsX40)
def wsX4_pages : List Cond := .code yX4_pages cX4_pages 1 (some .int) :: ([.fieldLink RX4 35 "PageBailModel" "thrown" "I", .fieldLink RX4 45 "PageBailModel" "pages" "I"] ++ wsX40)
def wsX4_isPage : List Cond := .code yX4_isPage cX4_isPage 2 (some .boolean) :: ([.fieldLink RX4 45 "PageBailModel" "pages" "I", .methodLink RX4 38 yX4_in, .static yX4_in, .initialized RX4, .code yX4_in cX4_in 3 (some .boolean)] ++ wsX40)
def wsX4_size : List Cond := .code yX4_size cX4_size 2 (some .int) :: ([.fieldLink RX4 25 "PageBailModel" "sizes" "[I", .methodLink RX4 97 yX4_isPage, .instanceMethod yX4_isPage, .selects RX4 yX4_isPage yX4_isPage, .initialized RX4, .code yX4_isPage cX4_isPage 2 (some .boolean), .fieldLink RX4 45 "PageBailModel" "pages" "I", .methodLink RX4 38 yX4_in, .static yX4_in, .code yX4_in cX4_in 3 (some .boolean), .methodLink RX4 63 yX4_goesWell, .instanceMethod yX4_goesWell, .selects RX4 yX4_goesWell yX4_goesWell, .code yX4_goesWell cX4_goesWell 2 (some .boolean), .fieldLink RX4 35 "PageBailModel" "thrown" "I"] ++ wsX40)
def wsX4_at : List Cond := .code yX4_at cX4_at 4 (some .int) :: ([.fieldLink RX4 25 "PageBailModel" "sizes" "[I", .fieldLink RX4 7 "PageBailModel" "cases" "[I", .methodLink RX4 97 yX4_isPage, .instanceMethod yX4_isPage, .selects RX4 yX4_isPage yX4_isPage, .initialized RX4, .code yX4_isPage cX4_isPage 2 (some .boolean), .fieldLink RX4 45 "PageBailModel" "pages" "I", .methodLink RX4 38 yX4_in, .static yX4_in, .code yX4_in cX4_in 3 (some .boolean), .methodLink RX4 63 yX4_goesWell, .instanceMethod yX4_goesWell, .selects RX4 yX4_goesWell yX4_goesWell, .code yX4_goesWell cX4_goesWell 2 (some .boolean), .fieldLink RX4 35 "PageBailModel" "thrown" "I", .methodLink RX4 48 yX4_beginOf, .instanceMethod yX4_beginOf, .selects RX4 yX4_beginOf yX4_beginOf, .code yX4_beginOf cX4_beginOf 4 (some .int)] ++ wsX40)
def wsX4_pageOf : List Cond := .code yX4_pageOf cX4_pageOf 3 (some .int) :: ([.methodLink RX4 56 yX4_isCase, .static yX4_isCase, .initialized RX4, .code yX4_isCase cX4_isCase 1 (some .boolean), .methodLink RX4 38 yX4_in, .static yX4_in, .code yX4_in cX4_in 3 (some .boolean), .methodLink RX4 63 yX4_goesWell, .instanceMethod yX4_goesWell, .selects RX4 yX4_goesWell yX4_goesWell, .code yX4_goesWell cX4_goesWell 2 (some .boolean), .fieldLink RX4 35 "PageBailModel" "thrown" "I", .methodLink RX4 60 yX4_find, .instanceMethod yX4_find, .selects RX4 yX4_find yX4_find, .code yX4_find cX4_find 3 (some .int), .fieldLink RX4 42 "PageBailModel" "records" "I", .fieldLink RX4 7 "PageBailModel" "cases" "[I", .methodLink RX4 82 yX4_pageAt, .instanceMethod yX4_pageAt, .selects RX4 yX4_pageAt yX4_pageAt, .code yX4_pageAt cX4_pageAt 4 (some .int), .fieldLink RX4 25 "PageBailModel" "sizes" "[I"] ++ wsX40)
def wsX4_sweep : List Cond := .code yX4_sweep cX4_sweep 1 none :: ([.fieldLink RX4 28 "PageBailModel" "sweeping" "I", .methodLink RX4 63 yX4_goesWell, .instanceMethod yX4_goesWell, .selects RX4 yX4_goesWell yX4_goesWell, .initialized RX4, .code yX4_goesWell cX4_goesWell 2 (some .boolean), .fieldLink RX4 35 "PageBailModel" "thrown" "I"] ++ wsX40)
def wsX4_step : List Cond := .code yX4_step cX4_step 4 (some .int) :: ([.fieldLink RX4 28 "PageBailModel" "sweeping" "I", .fieldLink RX4 45 "PageBailModel" "pages" "I", .fieldLink RX4 25 "PageBailModel" "sizes" "[I", .methodLink RX4 38 yX4_in, .static yX4_in, .initialized RX4, .code yX4_in cX4_in 3 (some .boolean), .methodLink RX4 63 yX4_goesWell, .instanceMethod yX4_goesWell, .selects RX4 yX4_goesWell yX4_goesWell, .code yX4_goesWell cX4_goesWell 2 (some .boolean), .fieldLink RX4 35 "PageBailModel" "thrown" "I", .methodLink RX4 79 yX4_dropPage, .instanceMethod yX4_dropPage, .selects RX4 yX4_dropPage yX4_dropPage, .code yX4_dropPage cX4_dropPage 3 none] ++ wsX40)
def wsX4_sweeping : List Cond := .code yX4_sweeping cX4_sweeping 1 (some .int) :: ([.fieldLink RX4 35 "PageBailModel" "thrown" "I", .fieldLink RX4 28 "PageBailModel" "sweeping" "I"] ++ wsX40)
def wsX4_walk : List Cond := .code yX4_walk cX4_walk 3 (some .int) :: ([.fieldLink RX4 42 "PageBailModel" "records" "I", .fieldLink RX4 7 "PageBailModel" "cases" "[I", .fieldLink RX4 32 "PageBailModel" "walks" "[I", .methodLink RX4 38 yX4_in, .static yX4_in, .initialized RX4, .code yX4_in cX4_in 3 (some .boolean), .methodLink RX4 63 yX4_goesWell, .instanceMethod yX4_goesWell, .selects RX4 yX4_goesWell yX4_goesWell, .code yX4_goesWell cX4_goesWell 2 (some .boolean), .fieldLink RX4 35 "PageBailModel" "thrown" "I"] ++ wsX40)
def wsJ9_max_7cf53 : List Cond := .code yJ9_max_7cf53 cJ9_max_7cf53 2 (some .int) :: ([])
def wsL_put_r1 : List Cond := [Cond.classLink RL 13 "java/lang/IllegalArgumentException", Cond.classLink RL 15 "java/lang/IllegalStateException", Cond.methodLink RL 7 yX3_put, Cond.instanceMethod yX3_put, Cond.selects RX3 yX3_put yX3_put, Cond.initialized RX3, Cond.code yX3_put cX3_put 5 (some .int), Cond.classLink RX3 39 "java/lang/IllegalArgumentException", Cond.initialized "java/lang/IllegalArgumentException", Cond.classLink RX3 54 "java/lang/IllegalStateException", Cond.initialized "java/lang/IllegalStateException", Cond.fieldLink RX3 10 "PageBail" "bailRow" "LPageBail$BailRow;", Cond.fieldLink RX3 19 "PageBail" "pageRow" "LPageBail$PageRow;", Cond.classLink RX3 75 RX0, Cond.instantiable RX0 5, Cond.initialized RX0, Cond.fieldLink RX3 77 "PageBail" "now" "I", Cond.methodLink RX3 31 yX3_requireCase, Cond.static yX3_requireCase, Cond.code yX3_requireCase cX3_requireCase 1 none, Cond.methodLink RX3 35 yX3_isIn, Cond.static yX3_isIn, Cond.code yX3_isIn cX3_isIn 3 (some .boolean), Cond.methodLink RX3 46 yX1_find]
def wsL_put_r2 : List Cond := [Cond.instanceMethod yX1_find, Cond.selects RX1 yX1_find yX1_find, Cond.initialized RX1, Cond.code yX1_find cX1_find 2 (some (.object "PageBail$Bail")), Cond.methodLink RX1 35 yX1_placeOf, Cond.instanceMethod yX1_placeOf, Cond.selects RX1 yX1_placeOf yX1_placeOf, Cond.code yX1_placeOf cX1_placeOf 3 (some .int), Cond.methodLink RX1 32 yX1_countUpTo, Cond.instanceMethod yX1_countUpTo, Cond.selects RX1 yX1_countUpTo yX1_countUpTo, Cond.code yX1_countUpTo cX1_countUpTo 3 (some .int), Cond.fieldLink RX1 17 "PageBail$BailRow" "count" "I", Cond.methodLink RX1 28 yX1_numberAt, Cond.instanceMethod yX1_numberAt, Cond.selects RX1 yX1_numberAt yX1_numberAt, Cond.code yX1_numberAt cX1_numberAt 3 (some .int), Cond.fieldLink RX1 25 "PageBail$Bail" "number" "I", Cond.methodLink RX1 21 yX1_bailAt, Cond.instanceMethod yX1_bailAt, Cond.selects RX1 yX1_bailAt yX1_bailAt, Cond.code yX1_bailAt cX1_bailAt 2 (some (.object "PageBail$Bail")), Cond.fieldLink RX1 11 "PageBail$BailRow" "bails" "[LPageBail$Bail;", Cond.methodLink RX3 50 yX1_count]
def wsL_put_r3 : List Cond := [Cond.instanceMethod yX1_count, Cond.selects RX1 yX1_count yX1_count, Cond.code yX1_count cX1_count 1 (some .int), Cond.methodLink RX3 59 yX1_countUpTo, Cond.methodLink RX3 63 yX3_pageToPutOn, Cond.instanceMethod yX3_pageToPutOn, Cond.selects RX3 yX3_pageToPutOn yX3_pageToPutOn, Cond.code yX3_pageToPutOn cX3_pageToPutOn 2 (some .int), Cond.methodLink RX3 168 Lib.Math.max.name, Cond.static Lib.Math.max.name, Cond.initialized "java/lang/Math", Cond.code Lib.Math.max.name Lib.Math.max.code 2 (some .int), Cond.methodLink RX3 152 yX2_pageWith, Cond.instanceMethod yX2_pageWith, Cond.selects RX2 yX2_pageWith yX2_pageWith, Cond.initialized RX2, Cond.code yX2_pageWith cX2_pageWith 4 (some .int), Cond.fieldLink RX2 15 "PageBail$PageRow" "count" "I", Cond.methodLink RX2 23 yX2_sizeOf, Cond.instanceMethod yX2_sizeOf, Cond.selects RX2 yX2_sizeOf yX2_sizeOf, Cond.code yX2_sizeOf cX2_sizeOf 2 (some .int), Cond.fieldLink RX2 9 "PageBail$PageRow" "sizes" "[I", Cond.methodLink RX2 19 yX2_has]
def wsL_put_r4 : List Cond := [Cond.instanceMethod yX2_has, Cond.selects RX2 yX2_has yX2_has, Cond.code yX2_has cX2_has 2 (some .boolean), Cond.methodLink RX3 66 yX2_sizeOf, Cond.methodLink RX3 69 yX2_split, Cond.instanceMethod yX2_split, Cond.selects RX2 yX2_split yX2_split, Cond.code yX2_split cX2_split 3 none, Cond.methodLink RX3 72 yX2_addTo, Cond.instanceMethod yX2_addTo, Cond.selects RX2 yX2_addTo yX2_addTo, Cond.code yX2_addTo cX2_addTo 2 none, Cond.methodLink RX3 80 yX0_init, Cond.instanceMethod yX0_init, Cond.code yX0_init cX0_init 5 none, Cond.methodLink RX0 3 objectInit, Cond.instanceMethod objectInit, Cond.code objectInit ⟨#[0xb1]⟩ 1 none, Cond.fieldLink RX0 9 "PageBail$Bail" "number" "I", Cond.fieldLink RX0 15 "PageBail$Bail" "sum" "I", Cond.fieldLink RX0 18 "PageBail$Bail" "surety" "I", Cond.fieldLink RX0 21 "PageBail$Bail" "putDay" "I", Cond.fieldLink RX0 24 "PageBail$Bail" "forfeitDay" "I", Cond.methodLink RX3 83 yX1_insert]
def wsL_put_r5 : List Cond := [Cond.instanceMethod yX1_insert, Cond.selects RX1 yX1_insert yX1_insert, Cond.code yX1_insert cX1_insert 4 none, Cond.methodLink RX3 87 yX2_count, Cond.instanceMethod yX2_count, Cond.selects RX2 yX2_count yX2_count, Cond.code yX2_count cX2_count 1 (some .int)]
def wsL_put : List Cond := .codeWith yL_put cL_put 6 (some .int) [(0, 12, 15, 13), (0, 12, 19, 15)] :: ((wsL_put_r1 ++ (wsL_put_r2 ++ (wsL_put_r3 ++ (wsL_put_r4 ++ wsL_put_r5)))) ++ wsX30 ++ wsX00 ++ wsX10 ++ wsX20 ++ (vx_atS RX3 43 "java/lang/IllegalArgumentException" ["java/lang/RuntimeException", "java/lang/Exception"]).filter goodWord ++ (vx_atS RX3 58 "java/lang/IllegalStateException" ["java/lang/RuntimeException", "java/lang/Exception"]).filter goodWord)
def wsL_payBack_r1 : List Cond := [Cond.classLink RL 13 "java/lang/IllegalArgumentException", Cond.classLink RL 15 "java/lang/IllegalStateException", Cond.methodLink RL 17 yX3_payBack, Cond.instanceMethod yX3_payBack, Cond.selects RX3 yX3_payBack yX3_payBack, Cond.initialized RX3, Cond.code yX3_payBack cX3_payBack 3 (some .int), Cond.classLink RX3 54 "java/lang/IllegalStateException", Cond.initialized "java/lang/IllegalStateException", Cond.fieldLink RX3 10 "PageBail" "bailRow" "LPageBail$BailRow;", Cond.fieldLink RX3 94 "PageBail" "paidInAll" "I", Cond.fieldLink RX3 97 "PageBail$Bail" "sum" "I", Cond.methodLink RX3 31 yX3_requireCase, Cond.static yX3_requireCase, Cond.code yX3_requireCase cX3_requireCase 1 none, Cond.classLink RX3 39 "java/lang/IllegalArgumentException", Cond.initialized "java/lang/IllegalArgumentException", Cond.methodLink RX3 35 yX3_isIn, Cond.static yX3_isIn, Cond.code yX3_isIn cX3_isIn 3 (some .boolean), Cond.methodLink RX3 46 yX1_find, Cond.instanceMethod yX1_find, Cond.selects RX1 yX1_find yX1_find, Cond.initialized RX1]
def wsL_payBack_r2 : List Cond := [Cond.code yX1_find cX1_find 2 (some (.object "PageBail$Bail")), Cond.methodLink RX1 35 yX1_placeOf, Cond.instanceMethod yX1_placeOf, Cond.selects RX1 yX1_placeOf yX1_placeOf, Cond.code yX1_placeOf cX1_placeOf 3 (some .int), Cond.methodLink RX1 32 yX1_countUpTo, Cond.instanceMethod yX1_countUpTo, Cond.selects RX1 yX1_countUpTo yX1_countUpTo, Cond.code yX1_countUpTo cX1_countUpTo 3 (some .int), Cond.fieldLink RX1 17 "PageBail$BailRow" "count" "I", Cond.methodLink RX1 28 yX1_numberAt, Cond.instanceMethod yX1_numberAt, Cond.selects RX1 yX1_numberAt yX1_numberAt, Cond.code yX1_numberAt cX1_numberAt 3 (some .int), Cond.fieldLink RX1 25 "PageBail$Bail" "number" "I", Cond.methodLink RX1 21 yX1_bailAt, Cond.instanceMethod yX1_bailAt, Cond.selects RX1 yX1_bailAt yX1_bailAt, Cond.code yX1_bailAt cX1_bailAt 2 (some (.object "PageBail$Bail")), Cond.fieldLink RX1 11 "PageBail$BailRow" "bails" "[LPageBail$Bail;", Cond.methodLink RX3 88 yX0_hasForfeitDay, Cond.instanceMethod yX0_hasForfeitDay, Cond.selects RX0 yX0_hasForfeitDay yX0_hasForfeitDay, Cond.initialized RX0]
def wsL_payBack_r3 : List Cond := [Cond.code yX0_hasForfeitDay cX0_hasForfeitDay 1 (some .boolean), Cond.fieldLink RX0 24 "PageBail$Bail" "forfeitDay" "I", Cond.methodLink RX3 100 yX1_placeOf, Cond.methodLink RX3 103 yX3_takeOut, Cond.instanceMethod yX3_takeOut, Cond.selects RX3 yX3_takeOut yX3_takeOut, Cond.code yX3_takeOut cX3_takeOut 2 none, Cond.fieldLink RX3 19 "PageBail" "pageRow" "LPageBail$PageRow;", Cond.fieldLink RX3 27 "PageBail" "sweptPage" "I", Cond.methodLink RX3 152 yX2_pageWith, Cond.instanceMethod yX2_pageWith, Cond.selects RX2 yX2_pageWith yX2_pageWith, Cond.initialized RX2, Cond.code yX2_pageWith cX2_pageWith 4 (some .int), Cond.fieldLink RX2 15 "PageBail$PageRow" "count" "I", Cond.methodLink RX2 23 yX2_sizeOf, Cond.instanceMethod yX2_sizeOf, Cond.selects RX2 yX2_sizeOf yX2_sizeOf, Cond.code yX2_sizeOf cX2_sizeOf 2 (some .int), Cond.fieldLink RX2 9 "PageBail$PageRow" "sizes" "[I", Cond.methodLink RX2 19 yX2_has, Cond.instanceMethod yX2_has, Cond.selects RX2 yX2_has yX2_has, Cond.code yX2_has cX2_has 2 (some .boolean)]
def wsL_payBack_r4 : List Cond := [Cond.methodLink RX3 174 yX2_takeFrom, Cond.instanceMethod yX2_takeFrom, Cond.selects RX2 yX2_takeFrom yX2_takeFrom, Cond.code yX2_takeFrom cX2_takeFrom 2 none, Cond.methodLink RX2 27 yX2_remove, Cond.instanceMethod yX2_remove, Cond.selects RX2 yX2_remove yX2_remove, Cond.code yX2_remove cX2_remove 3 none, Cond.methodLink RX2 31 yX2_borrowOrJoin, Cond.instanceMethod yX2_borrowOrJoin, Cond.selects RX2 yX2_borrowOrJoin yX2_borrowOrJoin, Cond.code yX2_borrowOrJoin cX2_borrowOrJoin 2 none, Cond.methodLink RX2 34 yX2_move, Cond.instanceMethod yX2_move, Cond.selects RX2 yX2_move yX2_move, Cond.code yX2_move cX2_move 3 none, Cond.methodLink RX3 177 yX1_remove, Cond.instanceMethod yX1_remove, Cond.selects RX1 yX1_remove yX1_remove, Cond.code yX1_remove cX1_remove 3 none, Cond.methodLink RX3 87 yX2_count, Cond.instanceMethod yX2_count, Cond.selects RX2 yX2_count yX2_count, Cond.code yX2_count cX2_count 1 (some .int)]
def wsL_payBack : List Cond := .codeWith yL_payBack cL_payBack 4 (some .int) [(0, 9, 12, 13), (0, 9, 15, 15)] :: ((wsL_payBack_r1 ++ (wsL_payBack_r2 ++ (wsL_payBack_r3 ++ wsL_payBack_r4))) ++ wsX30 ++ wsX00 ++ wsX10 ++ wsX20 ++ (vx_atS RX3 58 "java/lang/IllegalStateException" ["java/lang/RuntimeException", "java/lang/Exception"]).filter goodWord ++ (vx_atS RX3 43 "java/lang/IllegalArgumentException" ["java/lang/RuntimeException", "java/lang/Exception"]).filter goodWord)
def wsL_forfeit_r1 : List Cond := [Cond.classLink RL 13 "java/lang/IllegalArgumentException", Cond.classLink RL 15 "java/lang/IllegalStateException", Cond.methodLink RL 21 yX3_forfeit, Cond.instanceMethod yX3_forfeit, Cond.selects RX3 yX3_forfeit yX3_forfeit, Cond.initialized RX3, Cond.code yX3_forfeit cX3_forfeit 3 none, Cond.classLink RX3 54 "java/lang/IllegalStateException", Cond.initialized "java/lang/IllegalStateException", Cond.fieldLink RX3 10 "PageBail" "bailRow" "LPageBail$BailRow;", Cond.fieldLink RX3 77 "PageBail" "now" "I", Cond.fieldLink RX3 106 "PageBail$Bail" "forfeitDay" "I", Cond.methodLink RX3 31 yX3_requireCase, Cond.static yX3_requireCase, Cond.code yX3_requireCase cX3_requireCase 1 none, Cond.classLink RX3 39 "java/lang/IllegalArgumentException", Cond.initialized "java/lang/IllegalArgumentException", Cond.methodLink RX3 35 yX3_isIn, Cond.static yX3_isIn, Cond.code yX3_isIn cX3_isIn 3 (some .boolean), Cond.methodLink RX3 46 yX1_find, Cond.instanceMethod yX1_find, Cond.selects RX1 yX1_find yX1_find, Cond.initialized RX1]
def wsL_forfeit_r2 : List Cond := [Cond.code yX1_find cX1_find 2 (some (.object "PageBail$Bail")), Cond.methodLink RX1 35 yX1_placeOf, Cond.instanceMethod yX1_placeOf, Cond.selects RX1 yX1_placeOf yX1_placeOf, Cond.code yX1_placeOf cX1_placeOf 3 (some .int), Cond.methodLink RX1 32 yX1_countUpTo, Cond.instanceMethod yX1_countUpTo, Cond.selects RX1 yX1_countUpTo yX1_countUpTo, Cond.code yX1_countUpTo cX1_countUpTo 3 (some .int), Cond.fieldLink RX1 17 "PageBail$BailRow" "count" "I", Cond.methodLink RX1 28 yX1_numberAt, Cond.instanceMethod yX1_numberAt, Cond.selects RX1 yX1_numberAt yX1_numberAt, Cond.code yX1_numberAt cX1_numberAt 3 (some .int), Cond.fieldLink RX1 25 "PageBail$Bail" "number" "I", Cond.methodLink RX1 21 yX1_bailAt, Cond.instanceMethod yX1_bailAt, Cond.selects RX1 yX1_bailAt yX1_bailAt, Cond.code yX1_bailAt cX1_bailAt 2 (some (.object "PageBail$Bail")), Cond.fieldLink RX1 11 "PageBail$BailRow" "bails" "[LPageBail$Bail;", Cond.methodLink RX3 88 yX0_hasForfeitDay, Cond.instanceMethod yX0_hasForfeitDay, Cond.selects RX0 yX0_hasForfeitDay yX0_hasForfeitDay, Cond.initialized RX0]
def wsL_forfeit_r3 : List Cond := [Cond.code yX0_hasForfeitDay cX0_hasForfeitDay 1 (some .boolean), Cond.fieldLink RX0 24 "PageBail$Bail" "forfeitDay" "I"]
def wsL_forfeit : List Cond := .codeWith yL_forfeit cL_forfeit 3 (some .int) [(0, 5, 8, 13), (0, 5, 11, 15)] :: ((wsL_forfeit_r1 ++ (wsL_forfeit_r2 ++ wsL_forfeit_r3)) ++ wsX30 ++ wsX00 ++ wsX10 ++ (vx_atS RX3 58 "java/lang/IllegalStateException" ["java/lang/RuntimeException", "java/lang/Exception"]).filter goodWord ++ (vx_atS RX3 43 "java/lang/IllegalArgumentException" ["java/lang/RuntimeException", "java/lang/Exception"]).filter goodWord)
def wsL_undo_r1 : List Cond := [Cond.classLink RL 13 "java/lang/IllegalArgumentException", Cond.classLink RL 15 "java/lang/IllegalStateException", Cond.methodLink RL 25 yX3_undo, Cond.instanceMethod yX3_undo, Cond.selects RX3 yX3_undo yX3_undo, Cond.initialized RX3, Cond.code yX3_undo cX3_undo 4 (some .int), Cond.classLink RX3 54 "java/lang/IllegalStateException", Cond.initialized "java/lang/IllegalStateException", Cond.fieldLink RX3 10 "PageBail" "bailRow" "LPageBail$BailRow;", Cond.fieldLink RX3 77 "PageBail" "now" "I", Cond.fieldLink RX3 106 "PageBail$Bail" "forfeitDay" "I", Cond.methodLink RX3 31 yX3_requireCase, Cond.static yX3_requireCase, Cond.code yX3_requireCase cX3_requireCase 1 none, Cond.classLink RX3 39 "java/lang/IllegalArgumentException", Cond.initialized "java/lang/IllegalArgumentException", Cond.methodLink RX3 35 yX3_isIn, Cond.static yX3_isIn, Cond.code yX3_isIn cX3_isIn 3 (some .boolean), Cond.methodLink RX3 46 yX1_find, Cond.instanceMethod yX1_find, Cond.selects RX1 yX1_find yX1_find, Cond.initialized RX1]
def wsL_undo_r2 : List Cond := [Cond.code yX1_find cX1_find 2 (some (.object "PageBail$Bail")), Cond.methodLink RX1 35 yX1_placeOf, Cond.instanceMethod yX1_placeOf, Cond.selects RX1 yX1_placeOf yX1_placeOf, Cond.code yX1_placeOf cX1_placeOf 3 (some .int), Cond.methodLink RX1 32 yX1_countUpTo, Cond.instanceMethod yX1_countUpTo, Cond.selects RX1 yX1_countUpTo yX1_countUpTo, Cond.code yX1_countUpTo cX1_countUpTo 3 (some .int), Cond.fieldLink RX1 17 "PageBail$BailRow" "count" "I", Cond.methodLink RX1 28 yX1_numberAt, Cond.instanceMethod yX1_numberAt, Cond.selects RX1 yX1_numberAt yX1_numberAt, Cond.code yX1_numberAt cX1_numberAt 3 (some .int), Cond.fieldLink RX1 25 "PageBail$Bail" "number" "I", Cond.methodLink RX1 21 yX1_bailAt, Cond.instanceMethod yX1_bailAt, Cond.selects RX1 yX1_bailAt yX1_bailAt, Cond.code yX1_bailAt cX1_bailAt 2 (some (.object "PageBail$Bail")), Cond.fieldLink RX1 11 "PageBail$BailRow" "bails" "[LPageBail$Bail;", Cond.methodLink RX3 88 yX0_hasForfeitDay, Cond.instanceMethod yX0_hasForfeitDay, Cond.selects RX0 yX0_hasForfeitDay yX0_hasForfeitDay, Cond.initialized RX0]
def wsL_undo_r3 : List Cond := [Cond.code yX0_hasForfeitDay cX0_hasForfeitDay 1 (some .boolean), Cond.fieldLink RX0 24 "PageBail$Bail" "forfeitDay" "I"]
def wsL_undo : List Cond := .codeWith yL_undo cL_undo 4 (some .int) [(0, 9, 12, 13), (0, 9, 15, 15)] :: ((wsL_undo_r1 ++ (wsL_undo_r2 ++ wsL_undo_r3)) ++ wsX30 ++ wsX00 ++ wsX10 ++ (vx_atS RX3 58 "java/lang/IllegalStateException" ["java/lang/RuntimeException", "java/lang/Exception"]).filter goodWord ++ (vx_atS RX3 43 "java/lang/IllegalArgumentException" ["java/lang/RuntimeException", "java/lang/Exception"]).filter goodWord)
def wsL_amnesty_r1 : List Cond := [Cond.classLink RL 13 "java/lang/IllegalArgumentException", Cond.methodLink RL 28 yX3_amnesty, Cond.instanceMethod yX3_amnesty, Cond.selects RX3 yX3_amnesty yX3_amnesty, Cond.initialized RX3, Cond.code yX3_amnesty cX3_amnesty 7 (some .int), Cond.classLink RX3 39 "java/lang/IllegalArgumentException", Cond.initialized "java/lang/IllegalArgumentException", Cond.fieldLink RX3 77 "PageBail" "now" "I", Cond.fieldLink RX3 10 "PageBail" "bailRow" "LPageBail$BailRow;", Cond.fieldLink RX3 94 "PageBail" "paidInAll" "I", Cond.fieldLink RX3 97 "PageBail$Bail" "sum" "I", Cond.methodLink RX3 35 yX3_isIn, Cond.static yX3_isIn, Cond.code yX3_isIn cX3_isIn 3 (some .boolean), Cond.methodLink RX3 50 yX1_count, Cond.instanceMethod yX1_count, Cond.selects RX1 yX1_count yX1_count, Cond.initialized RX1, Cond.code yX1_count cX1_count 1 (some .int), Cond.fieldLink RX1 17 "PageBail$BailRow" "count" "I", Cond.methodLink RX3 113 yX1_bailAt, Cond.instanceMethod yX1_bailAt, Cond.selects RX1 yX1_bailAt yX1_bailAt]
def wsL_amnesty_r2 : List Cond := [Cond.code yX1_bailAt cX1_bailAt 2 (some (.object "PageBail$Bail")), Cond.fieldLink RX1 11 "PageBail$BailRow" "bails" "[LPageBail$Bail;", Cond.methodLink RX3 116 yX0_isUnder, Cond.instanceMethod yX0_isUnder, Cond.selects RX0 yX0_isUnder yX0_isUnder, Cond.initialized RX0, Cond.code yX0_isUnder cX0_isUnder 3 (some .boolean), Cond.fieldLink RX0 15 "PageBail$Bail" "sum" "I", Cond.fieldLink RX0 21 "PageBail$Bail" "putDay" "I", Cond.methodLink RX0 27 yX0_hasForfeitDay, Cond.instanceMethod yX0_hasForfeitDay, Cond.selects RX0 yX0_hasForfeitDay yX0_hasForfeitDay, Cond.code yX0_hasForfeitDay cX0_hasForfeitDay 1 (some .boolean), Cond.fieldLink RX0 24 "PageBail$Bail" "forfeitDay" "I", Cond.methodLink RX3 103 yX3_takeOut, Cond.instanceMethod yX3_takeOut, Cond.selects RX3 yX3_takeOut yX3_takeOut, Cond.code yX3_takeOut cX3_takeOut 2 none, Cond.fieldLink RX3 19 "PageBail" "pageRow" "LPageBail$PageRow;", Cond.fieldLink RX3 27 "PageBail" "sweptPage" "I", Cond.methodLink RX3 152 yX2_pageWith, Cond.instanceMethod yX2_pageWith, Cond.selects RX2 yX2_pageWith yX2_pageWith, Cond.initialized RX2]
def wsL_amnesty_r3 : List Cond := [Cond.code yX2_pageWith cX2_pageWith 4 (some .int), Cond.fieldLink RX2 15 "PageBail$PageRow" "count" "I", Cond.methodLink RX2 23 yX2_sizeOf, Cond.instanceMethod yX2_sizeOf, Cond.selects RX2 yX2_sizeOf yX2_sizeOf, Cond.code yX2_sizeOf cX2_sizeOf 2 (some .int), Cond.fieldLink RX2 9 "PageBail$PageRow" "sizes" "[I", Cond.methodLink RX2 19 yX2_has, Cond.instanceMethod yX2_has, Cond.selects RX2 yX2_has yX2_has, Cond.code yX2_has cX2_has 2 (some .boolean), Cond.methodLink RX3 174 yX2_takeFrom, Cond.instanceMethod yX2_takeFrom, Cond.selects RX2 yX2_takeFrom yX2_takeFrom, Cond.code yX2_takeFrom cX2_takeFrom 2 none, Cond.methodLink RX2 27 yX2_remove, Cond.instanceMethod yX2_remove, Cond.selects RX2 yX2_remove yX2_remove, Cond.code yX2_remove cX2_remove 3 none, Cond.methodLink RX2 31 yX2_borrowOrJoin, Cond.instanceMethod yX2_borrowOrJoin, Cond.selects RX2 yX2_borrowOrJoin yX2_borrowOrJoin, Cond.code yX2_borrowOrJoin cX2_borrowOrJoin 2 none, Cond.methodLink RX2 34 yX2_move]
def wsL_amnesty_r4 : List Cond := [Cond.instanceMethod yX2_move, Cond.selects RX2 yX2_move yX2_move, Cond.code yX2_move cX2_move 3 none, Cond.methodLink RX3 177 yX1_remove, Cond.instanceMethod yX1_remove, Cond.selects RX1 yX1_remove yX1_remove, Cond.code yX1_remove cX1_remove 3 none, Cond.methodLink RX1 21 yX1_bailAt, Cond.methodLink RX3 87 yX2_count, Cond.instanceMethod yX2_count, Cond.selects RX2 yX2_count yX2_count, Cond.code yX2_count cX2_count 1 (some .int)]
def wsL_amnesty : List Cond := .codeWith yL_amnesty cL_amnesty 5 (some .int) [(0, 10, 13, 13)] :: ((wsL_amnesty_r1 ++ (wsL_amnesty_r2 ++ (wsL_amnesty_r3 ++ wsL_amnesty_r4))) ++ wsX30 ++ wsX00 ++ wsX10 ++ wsX20 ++ (vx_atS RX3 43 "java/lang/IllegalArgumentException" ["java/lang/RuntimeException", "java/lang/Exception"]).filter goodWord)
def wsL_sum_r1 : List Cond := [Cond.classLink RL 13 "java/lang/IllegalArgumentException", Cond.methodLink RL 32 yX3_sum, Cond.instanceMethod yX3_sum, Cond.selects RX3 yX3_sum yX3_sum, Cond.initialized RX3, Cond.code yX3_sum cX3_sum 3 (some .int), Cond.fieldLink RX3 10 "PageBail" "bailRow" "LPageBail$BailRow;", Cond.fieldLink RX3 97 "PageBail$Bail" "sum" "I", Cond.methodLink RX3 31 yX3_requireCase, Cond.static yX3_requireCase, Cond.code yX3_requireCase cX3_requireCase 1 none, Cond.classLink RX3 39 "java/lang/IllegalArgumentException", Cond.initialized "java/lang/IllegalArgumentException", Cond.methodLink RX3 35 yX3_isIn, Cond.static yX3_isIn, Cond.code yX3_isIn cX3_isIn 3 (some .boolean), Cond.methodLink RX3 46 yX1_find, Cond.instanceMethod yX1_find, Cond.selects RX1 yX1_find yX1_find, Cond.initialized RX1, Cond.code yX1_find cX1_find 2 (some (.object "PageBail$Bail")), Cond.methodLink RX1 35 yX1_placeOf, Cond.instanceMethod yX1_placeOf, Cond.selects RX1 yX1_placeOf yX1_placeOf]
def wsL_sum_r2 : List Cond := [Cond.code yX1_placeOf cX1_placeOf 3 (some .int), Cond.methodLink RX1 32 yX1_countUpTo, Cond.instanceMethod yX1_countUpTo, Cond.selects RX1 yX1_countUpTo yX1_countUpTo, Cond.code yX1_countUpTo cX1_countUpTo 3 (some .int), Cond.fieldLink RX1 17 "PageBail$BailRow" "count" "I", Cond.methodLink RX1 28 yX1_numberAt, Cond.instanceMethod yX1_numberAt, Cond.selects RX1 yX1_numberAt yX1_numberAt, Cond.code yX1_numberAt cX1_numberAt 3 (some .int), Cond.fieldLink RX1 25 "PageBail$Bail" "number" "I", Cond.methodLink RX1 21 yX1_bailAt, Cond.instanceMethod yX1_bailAt, Cond.selects RX1 yX1_bailAt yX1_bailAt, Cond.code yX1_bailAt cX1_bailAt 2 (some (.object "PageBail$Bail")), Cond.fieldLink RX1 11 "PageBail$BailRow" "bails" "[LPageBail$Bail;"]
def wsL_sum : List Cond := .codeWith yL_sum cL_sum 4 (some .int) [(0, 9, 12, 13)] :: ((wsL_sum_r1 ++ wsL_sum_r2) ++ wsX30 ++ wsX00 ++ wsX10 ++ (vx_atS RX3 43 "java/lang/IllegalArgumentException" ["java/lang/RuntimeException", "java/lang/Exception"]).filter goodWord)
def wsL_isForfeited_r1 : List Cond := [Cond.classLink RL 13 "java/lang/IllegalArgumentException", Cond.methodLink RL 35 yX3_isForfeited, Cond.instanceMethod yX3_isForfeited, Cond.selects RX3 yX3_isForfeited yX3_isForfeited, Cond.initialized RX3, Cond.code yX3_isForfeited cX3_isForfeited 3 (some .boolean), Cond.fieldLink RX3 10 "PageBail" "bailRow" "LPageBail$BailRow;", Cond.methodLink RX3 31 yX3_requireCase, Cond.static yX3_requireCase, Cond.code yX3_requireCase cX3_requireCase 1 none, Cond.classLink RX3 39 "java/lang/IllegalArgumentException", Cond.initialized "java/lang/IllegalArgumentException", Cond.methodLink RX3 35 yX3_isIn, Cond.static yX3_isIn, Cond.code yX3_isIn cX3_isIn 3 (some .boolean), Cond.methodLink RX3 46 yX1_find, Cond.instanceMethod yX1_find, Cond.selects RX1 yX1_find yX1_find, Cond.initialized RX1, Cond.code yX1_find cX1_find 2 (some (.object "PageBail$Bail")), Cond.methodLink RX1 35 yX1_placeOf, Cond.instanceMethod yX1_placeOf, Cond.selects RX1 yX1_placeOf yX1_placeOf, Cond.code yX1_placeOf cX1_placeOf 3 (some .int)]
def wsL_isForfeited_r2 : List Cond := [Cond.methodLink RX1 32 yX1_countUpTo, Cond.instanceMethod yX1_countUpTo, Cond.selects RX1 yX1_countUpTo yX1_countUpTo, Cond.code yX1_countUpTo cX1_countUpTo 3 (some .int), Cond.fieldLink RX1 17 "PageBail$BailRow" "count" "I", Cond.methodLink RX1 28 yX1_numberAt, Cond.instanceMethod yX1_numberAt, Cond.selects RX1 yX1_numberAt yX1_numberAt, Cond.code yX1_numberAt cX1_numberAt 3 (some .int), Cond.fieldLink RX1 25 "PageBail$Bail" "number" "I", Cond.methodLink RX1 21 yX1_bailAt, Cond.instanceMethod yX1_bailAt, Cond.selects RX1 yX1_bailAt yX1_bailAt, Cond.code yX1_bailAt cX1_bailAt 2 (some (.object "PageBail$Bail")), Cond.fieldLink RX1 11 "PageBail$BailRow" "bails" "[LPageBail$Bail;", Cond.methodLink RX3 88 yX0_hasForfeitDay, Cond.instanceMethod yX0_hasForfeitDay, Cond.selects RX0 yX0_hasForfeitDay yX0_hasForfeitDay, Cond.initialized RX0, Cond.code yX0_hasForfeitDay cX0_hasForfeitDay 1 (some .boolean), Cond.fieldLink RX0 24 "PageBail$Bail" "forfeitDay" "I"]
def wsL_isForfeited : List Cond := .codeWith yL_isForfeited cL_isForfeited 4 (some .int) [(0, 16, 19, 13)] :: ((wsL_isForfeited_r1 ++ wsL_isForfeited_r2) ++ wsX30 ++ wsX10 ++ wsX00 ++ (vx_atS RX3 43 "java/lang/IllegalArgumentException" ["java/lang/RuntimeException", "java/lang/Exception"]).filter goodWord)
def wsL_heldBy_r1 : List Cond := [Cond.classLink RL 13 "java/lang/IllegalArgumentException", Cond.methodLink RL 39 yX3_heldBy, Cond.instanceMethod yX3_heldBy, Cond.selects RX3 yX3_heldBy yX3_heldBy, Cond.initialized RX3, Cond.code yX3_heldBy cX3_heldBy 2 (some .int), Cond.classLink RX3 39 "java/lang/IllegalArgumentException", Cond.initialized "java/lang/IllegalArgumentException", Cond.fieldLink RX3 10 "PageBail" "bailRow" "LPageBail$BailRow;", Cond.methodLink RX3 35 yX3_isIn, Cond.static yX3_isIn, Cond.code yX3_isIn cX3_isIn 3 (some .boolean), Cond.methodLink RX3 122 yX1_sumOfSurety, Cond.instanceMethod yX1_sumOfSurety, Cond.selects RX1 yX1_sumOfSurety yX1_sumOfSurety, Cond.initialized RX1, Cond.code yX1_sumOfSurety cX1_sumOfSurety 5 (some .int), Cond.fieldLink RX1 17 "PageBail$BailRow" "count" "I", Cond.fieldLink RX1 38 "PageBail$Bail" "surety" "I", Cond.fieldLink RX1 41 "PageBail$Bail" "sum" "I", Cond.methodLink RX1 21 yX1_bailAt, Cond.instanceMethod yX1_bailAt, Cond.selects RX1 yX1_bailAt yX1_bailAt, Cond.code yX1_bailAt cX1_bailAt 2 (some (.object "PageBail$Bail"))]
def wsL_heldBy_r2 : List Cond := [Cond.fieldLink RX1 11 "PageBail$BailRow" "bails" "[LPageBail$Bail;"]
def wsL_heldBy : List Cond := .codeWith yL_heldBy cL_heldBy 4 (some .int) [(0, 9, 12, 13)] :: ((wsL_heldBy_r1 ++ wsL_heldBy_r2) ++ wsX30 ++ wsX10 ++ wsX00 ++ (vx_atS RX3 43 "java/lang/IllegalArgumentException" ["java/lang/RuntimeException", "java/lang/Exception"]).filter goodWord)
def wsL_pass_r1 : List Cond := [Cond.classLink RL 13 "java/lang/IllegalArgumentException", Cond.classLink RL 15 "java/lang/IllegalStateException", Cond.methodLink RL 42 yX3_pass, Cond.instanceMethod yX3_pass, Cond.selects RX3 yX3_pass yX3_pass, Cond.initialized RX3, Cond.code yX3_pass cX3_pass 4 (some .int), Cond.classLink RX3 39 "java/lang/IllegalArgumentException", Cond.initialized "java/lang/IllegalArgumentException", Cond.classLink RX3 54 "java/lang/IllegalStateException", Cond.initialized "java/lang/IllegalStateException", Cond.fieldLink RX3 77 "PageBail" "now" "I", Cond.methodLink RX3 35 yX3_isIn, Cond.static yX3_isIn, Cond.code yX3_isIn cX3_isIn 3 (some .boolean), Cond.methodLink RX3 132 yX3_keepOverdue, Cond.instanceMethod yX3_keepOverdue, Cond.selects RX3 yX3_keepOverdue yX3_keepOverdue, Cond.code yX3_keepOverdue cX3_keepOverdue 5 (some .int), Cond.fieldLink RX3 10 "PageBail" "bailRow" "LPageBail$BailRow;", Cond.fieldLink RX3 125 "PageBail" "keptInAll" "I", Cond.fieldLink RX3 97 "PageBail$Bail" "sum" "I", Cond.methodLink RX3 50 yX1_count, Cond.instanceMethod yX1_count]
def wsL_pass_r2 : List Cond := [Cond.selects RX1 yX1_count yX1_count, Cond.initialized RX1, Cond.code yX1_count cX1_count 1 (some .int), Cond.fieldLink RX1 17 "PageBail$BailRow" "count" "I", Cond.methodLink RX3 113 yX1_bailAt, Cond.instanceMethod yX1_bailAt, Cond.selects RX1 yX1_bailAt yX1_bailAt, Cond.code yX1_bailAt cX1_bailAt 2 (some (.object "PageBail$Bail")), Cond.fieldLink RX1 11 "PageBail$BailRow" "bails" "[LPageBail$Bail;", Cond.methodLink RX3 180 yX0_isOverdue, Cond.instanceMethod yX0_isOverdue, Cond.selects RX0 yX0_isOverdue yX0_isOverdue, Cond.initialized RX0, Cond.code yX0_isOverdue cX0_isOverdue 2 (some .boolean), Cond.fieldLink RX0 24 "PageBail$Bail" "forfeitDay" "I", Cond.methodLink RX0 27 yX0_hasForfeitDay, Cond.instanceMethod yX0_hasForfeitDay, Cond.selects RX0 yX0_hasForfeitDay yX0_hasForfeitDay, Cond.code yX0_hasForfeitDay cX0_hasForfeitDay 1 (some .boolean), Cond.methodLink RX3 103 yX3_takeOut, Cond.instanceMethod yX3_takeOut, Cond.selects RX3 yX3_takeOut yX3_takeOut, Cond.code yX3_takeOut cX3_takeOut 2 none, Cond.fieldLink RX3 19 "PageBail" "pageRow" "LPageBail$PageRow;"]
def wsL_pass_r3 : List Cond := [Cond.fieldLink RX3 27 "PageBail" "sweptPage" "I", Cond.methodLink RX3 152 yX2_pageWith, Cond.instanceMethod yX2_pageWith, Cond.selects RX2 yX2_pageWith yX2_pageWith, Cond.initialized RX2, Cond.code yX2_pageWith cX2_pageWith 4 (some .int), Cond.fieldLink RX2 15 "PageBail$PageRow" "count" "I", Cond.methodLink RX2 23 yX2_sizeOf, Cond.instanceMethod yX2_sizeOf, Cond.selects RX2 yX2_sizeOf yX2_sizeOf, Cond.code yX2_sizeOf cX2_sizeOf 2 (some .int), Cond.fieldLink RX2 9 "PageBail$PageRow" "sizes" "[I", Cond.methodLink RX2 19 yX2_has, Cond.instanceMethod yX2_has, Cond.selects RX2 yX2_has yX2_has, Cond.code yX2_has cX2_has 2 (some .boolean), Cond.methodLink RX3 174 yX2_takeFrom, Cond.instanceMethod yX2_takeFrom, Cond.selects RX2 yX2_takeFrom yX2_takeFrom, Cond.code yX2_takeFrom cX2_takeFrom 2 none, Cond.methodLink RX2 27 yX2_remove, Cond.instanceMethod yX2_remove, Cond.selects RX2 yX2_remove yX2_remove, Cond.code yX2_remove cX2_remove 3 none]
def wsL_pass_r4 : List Cond := [Cond.methodLink RX2 31 yX2_borrowOrJoin, Cond.instanceMethod yX2_borrowOrJoin, Cond.selects RX2 yX2_borrowOrJoin yX2_borrowOrJoin, Cond.code yX2_borrowOrJoin cX2_borrowOrJoin 2 none, Cond.methodLink RX2 34 yX2_move, Cond.instanceMethod yX2_move, Cond.selects RX2 yX2_move yX2_move, Cond.code yX2_move cX2_move 3 none, Cond.methodLink RX3 177 yX1_remove, Cond.instanceMethod yX1_remove, Cond.selects RX1 yX1_remove yX1_remove, Cond.code yX1_remove cX1_remove 3 none, Cond.methodLink RX1 21 yX1_bailAt, Cond.methodLink RX3 87 yX2_count, Cond.instanceMethod yX2_count, Cond.selects RX2 yX2_count yX2_count, Cond.code yX2_count cX2_count 1 (some .int)]
def wsL_pass : List Cond := .codeWith yL_pass cL_pass 4 (some .int) [(0, 9, 12, 13), (0, 9, 15, 15)] :: ((wsL_pass_r1 ++ (wsL_pass_r2 ++ (wsL_pass_r3 ++ wsL_pass_r4))) ++ wsX30 ++ wsX00 ++ wsX10 ++ wsX20 ++ (vx_atS RX3 43 "java/lang/IllegalArgumentException" ["java/lang/RuntimeException", "java/lang/Exception"]).filter goodWord ++ (vx_atS RX3 58 "java/lang/IllegalStateException" ["java/lang/RuntimeException", "java/lang/Exception"]).filter goodWord)
def wsL_size : List Cond := .codeWith yL_size cL_size 4 (some .int) [(0, 9, 12, 48)] :: ([.classLink RL 48 "java/lang/IndexOutOfBoundsException", .methodLink RL 45 yX3_size, .instanceMethod yX3_size, .selects RX3 yX3_size yX3_size, .initialized RX3, .code yX3_size cX3_size 2 (some .int), .classLink RX3 139 "java/lang/IndexOutOfBoundsException", .initialized "java/lang/IndexOutOfBoundsException", .fieldLink RX3 19 "PageBail" "pageRow" "LPageBail$PageRow;", .methodLink RX3 135 yX2_has, .instanceMethod yX2_has, .selects RX2 yX2_has yX2_has, .initialized RX2, .code yX2_has cX2_has 2 (some .boolean), .fieldLink RX2 15 "PageBail$PageRow" "count" "I", .fieldLink RX2 9 "PageBail$PageRow" "sizes" "[I", .methodLink RX3 66 yX2_sizeOf, .instanceMethod yX2_sizeOf, .selects RX2 yX2_sizeOf yX2_sizeOf, .code yX2_sizeOf cX2_sizeOf 2 (some .int), .methodLink RX2 19 yX2_has] ++ wsX30 ++ wsX20 ++ (vx_atS RX3 143 "java/lang/IndexOutOfBoundsException" ["java/lang/RuntimeException", "java/lang/Exception"]).filter goodWord)
def wsL_at_r1 : List Cond := [Cond.classLink RL 48 "java/lang/IndexOutOfBoundsException", Cond.methodLink RL 50 yX3_at, Cond.instanceMethod yX3_at, Cond.selects RX3 yX3_at yX3_at, Cond.initialized RX3, Cond.code yX3_at cX3_at 3 (some .int), Cond.classLink RX3 139 "java/lang/IndexOutOfBoundsException", Cond.initialized "java/lang/IndexOutOfBoundsException", Cond.fieldLink RX3 19 "PageBail" "pageRow" "LPageBail$PageRow;", Cond.fieldLink RX3 10 "PageBail" "bailRow" "LPageBail$BailRow;", Cond.methodLink RX3 135 yX2_has, Cond.instanceMethod yX2_has, Cond.selects RX2 yX2_has yX2_has, Cond.initialized RX2, Cond.code yX2_has cX2_has 2 (some .boolean), Cond.fieldLink RX2 15 "PageBail$PageRow" "count" "I", Cond.fieldLink RX2 9 "PageBail$PageRow" "sizes" "[I", Cond.methodLink RX3 66 yX2_sizeOf, Cond.instanceMethod yX2_sizeOf, Cond.selects RX2 yX2_sizeOf yX2_sizeOf, Cond.code yX2_sizeOf cX2_sizeOf 2 (some .int), Cond.methodLink RX2 19 yX2_has, Cond.methodLink RX3 35 yX3_isIn, Cond.static yX3_isIn]
def wsL_at_r2 : List Cond := [Cond.code yX3_isIn cX3_isIn 3 (some .boolean), Cond.methodLink RX3 146 yX2_beginOf, Cond.instanceMethod yX2_beginOf, Cond.selects RX2 yX2_beginOf yX2_beginOf, Cond.code yX2_beginOf cX2_beginOf 4 (some .int), Cond.methodLink RX2 23 yX2_sizeOf, Cond.methodLink RX3 149 yX1_numberAt, Cond.instanceMethod yX1_numberAt, Cond.selects RX1 yX1_numberAt yX1_numberAt, Cond.initialized RX1, Cond.code yX1_numberAt cX1_numberAt 3 (some .int), Cond.fieldLink RX1 25 "PageBail$Bail" "number" "I", Cond.methodLink RX1 21 yX1_bailAt, Cond.instanceMethod yX1_bailAt, Cond.selects RX1 yX1_bailAt yX1_bailAt, Cond.code yX1_bailAt cX1_bailAt 2 (some (.object "PageBail$Bail")), Cond.fieldLink RX1 17 "PageBail$BailRow" "count" "I", Cond.fieldLink RX1 11 "PageBail$BailRow" "bails" "[LPageBail$Bail;"]
def wsL_at : List Cond := .codeWith yL_at cL_at 5 (some .int) [(0, 10, 13, 48)] :: ((wsL_at_r1 ++ wsL_at_r2) ++ wsX30 ++ wsX20 ++ wsX00 ++ wsX10 ++ (vx_atS RX3 143 "java/lang/IndexOutOfBoundsException" ["java/lang/RuntimeException", "java/lang/Exception"]).filter goodWord)
def wsL_pageOf_r1 : List Cond := [Cond.classLink RL 13 "java/lang/IllegalArgumentException", Cond.methodLink RL 53 yX3_pageOf, Cond.instanceMethod yX3_pageOf, Cond.selects RX3 yX3_pageOf yX3_pageOf, Cond.initialized RX3, Cond.code yX3_pageOf cX3_pageOf 2 (some .int), Cond.fieldLink RX3 19 "PageBail" "pageRow" "LPageBail$PageRow;", Cond.fieldLink RX3 10 "PageBail" "bailRow" "LPageBail$BailRow;", Cond.methodLink RX3 31 yX3_requireCase, Cond.static yX3_requireCase, Cond.code yX3_requireCase cX3_requireCase 1 none, Cond.classLink RX3 39 "java/lang/IllegalArgumentException", Cond.initialized "java/lang/IllegalArgumentException", Cond.methodLink RX3 35 yX3_isIn, Cond.static yX3_isIn, Cond.code yX3_isIn cX3_isIn 3 (some .boolean), Cond.methodLink RX3 100 yX1_placeOf, Cond.instanceMethod yX1_placeOf, Cond.selects RX1 yX1_placeOf yX1_placeOf, Cond.initialized RX1, Cond.code yX1_placeOf cX1_placeOf 3 (some .int), Cond.methodLink RX1 32 yX1_countUpTo, Cond.instanceMethod yX1_countUpTo, Cond.selects RX1 yX1_countUpTo yX1_countUpTo]
def wsL_pageOf_r2 : List Cond := [Cond.code yX1_countUpTo cX1_countUpTo 3 (some .int), Cond.fieldLink RX1 17 "PageBail$BailRow" "count" "I", Cond.methodLink RX1 28 yX1_numberAt, Cond.instanceMethod yX1_numberAt, Cond.selects RX1 yX1_numberAt yX1_numberAt, Cond.code yX1_numberAt cX1_numberAt 3 (some .int), Cond.fieldLink RX1 25 "PageBail$Bail" "number" "I", Cond.methodLink RX1 21 yX1_bailAt, Cond.instanceMethod yX1_bailAt, Cond.selects RX1 yX1_bailAt yX1_bailAt, Cond.code yX1_bailAt cX1_bailAt 2 (some (.object "PageBail$Bail")), Cond.fieldLink RX1 11 "PageBail$BailRow" "bails" "[LPageBail$Bail;", Cond.methodLink RX3 152 yX2_pageWith, Cond.instanceMethod yX2_pageWith, Cond.selects RX2 yX2_pageWith yX2_pageWith, Cond.initialized RX2, Cond.code yX2_pageWith cX2_pageWith 4 (some .int), Cond.fieldLink RX2 15 "PageBail$PageRow" "count" "I", Cond.methodLink RX2 23 yX2_sizeOf, Cond.instanceMethod yX2_sizeOf, Cond.selects RX2 yX2_sizeOf yX2_sizeOf, Cond.code yX2_sizeOf cX2_sizeOf 2 (some .int), Cond.fieldLink RX2 9 "PageBail$PageRow" "sizes" "[I", Cond.methodLink RX2 19 yX2_has]
def wsL_pageOf_r3 : List Cond := [Cond.instanceMethod yX2_has, Cond.selects RX2 yX2_has yX2_has, Cond.code yX2_has cX2_has 2 (some .boolean)]
def wsL_pageOf : List Cond := .codeWith yL_pageOf cL_pageOf 4 (some .int) [(0, 9, 12, 13)] :: ((wsL_pageOf_r1 ++ (wsL_pageOf_r2 ++ wsL_pageOf_r3)) ++ wsX30 ++ wsX10 ++ wsX00 ++ wsX20 ++ (vx_atS RX3 43 "java/lang/IllegalArgumentException" ["java/lang/RuntimeException", "java/lang/Exception"]).filter goodWord)
def wsL_sweep : List Cond := .codeWith yL_sweep cL_sweep 2 (some .int) [(0, 4, 7, 15)] :: ([.classLink RL 15 "java/lang/IllegalStateException", .methodLink RL 56 yX3_sweep, .instanceMethod yX3_sweep, .selects RX3 yX3_sweep yX3_sweep, .initialized RX3, .code yX3_sweep cX3_sweep 1 none, .classLink RX3 54 "java/lang/IllegalStateException", .initialized "java/lang/IllegalStateException", .fieldLink RX3 27 "PageBail" "sweptPage" "I"] ++ wsX30 ++ (vx_atS RX3 58 "java/lang/IllegalStateException" ["java/lang/RuntimeException", "java/lang/Exception"]).filter goodWord)
def wsL_step_r1 : List Cond := [Cond.classLink RL 13 "java/lang/IllegalArgumentException", Cond.classLink RL 15 "java/lang/IllegalStateException", Cond.methodLink RL 59 yX3_step, Cond.instanceMethod yX3_step, Cond.selects RX3 yX3_step yX3_step, Cond.initialized RX3, Cond.code yX3_step cX3_step 4 (some .int), Cond.classLink RX3 39 "java/lang/IllegalArgumentException", Cond.initialized "java/lang/IllegalArgumentException", Cond.classLink RX3 54 "java/lang/IllegalStateException", Cond.initialized "java/lang/IllegalStateException", Cond.fieldLink RX3 27 "PageBail" "sweptPage" "I", Cond.methodLink RX3 35 yX3_isIn, Cond.static yX3_isIn, Cond.code yX3_isIn cX3_isIn 3 (some .boolean), Cond.methodLink RX3 161 yX3_sweepOn, Cond.instanceMethod yX3_sweepOn, Cond.selects RX3 yX3_sweepOn yX3_sweepOn, Cond.code yX3_sweepOn cX3_sweepOn 1 (some .int), Cond.fieldLink RX3 19 "PageBail" "pageRow" "LPageBail$PageRow;", Cond.methodLink RX3 135 yX2_has, Cond.instanceMethod yX2_has, Cond.selects RX2 yX2_has yX2_has, Cond.initialized RX2]
def wsL_step_r2 : List Cond := [Cond.code yX2_has cX2_has 2 (some .boolean), Cond.fieldLink RX2 15 "PageBail$PageRow" "count" "I", Cond.fieldLink RX2 9 "PageBail$PageRow" "sizes" "[I", Cond.methodLink RX3 66 yX2_sizeOf, Cond.instanceMethod yX2_sizeOf, Cond.selects RX2 yX2_sizeOf yX2_sizeOf, Cond.code yX2_sizeOf cX2_sizeOf 2 (some .int), Cond.methodLink RX2 19 yX2_has, Cond.methodLink RX3 183 yX2_move, Cond.instanceMethod yX2_move, Cond.selects RX2 yX2_move yX2_move, Cond.code yX2_move cX2_move 3 none, Cond.methodLink RX2 27 yX2_remove, Cond.instanceMethod yX2_remove, Cond.selects RX2 yX2_remove yX2_remove, Cond.code yX2_remove cX2_remove 3 none]
def wsL_step : List Cond := .codeWith yL_step cL_step 4 (some .int) [(0, 9, 12, 13), (0, 9, 15, 15)] :: ((wsL_step_r1 ++ wsL_step_r2) ++ wsX30 ++ wsX20 ++ (vx_atS RX3 43 "java/lang/IllegalArgumentException" ["java/lang/RuntimeException", "java/lang/Exception"]).filter goodWord ++ (vx_atS RX3 58 "java/lang/IllegalStateException" ["java/lang/RuntimeException", "java/lang/Exception"]).filter goodWord)
def wsL_walk_r1 : List Cond := [Cond.classLink RL 13 "java/lang/IllegalArgumentException", Cond.methodLink RL 62 yX3_walk, Cond.instanceMethod yX3_walk, Cond.selects RX3 yX3_walk yX3_walk, Cond.initialized RX3, Cond.code yX3_walk cX3_walk 2 (some .int), Cond.classLink RX3 39 "java/lang/IllegalArgumentException", Cond.initialized "java/lang/IllegalArgumentException", Cond.fieldLink RX3 23 "PageBail" "lastRead" "[I", Cond.fieldLink RX3 10 "PageBail" "bailRow" "LPageBail$BailRow;", Cond.methodLink RX3 35 yX3_isIn, Cond.static yX3_isIn, Cond.code yX3_isIn cX3_isIn 3 (some .boolean), Cond.methodLink RX3 59 yX1_countUpTo, Cond.instanceMethod yX1_countUpTo, Cond.selects RX1 yX1_countUpTo yX1_countUpTo, Cond.initialized RX1, Cond.code yX1_countUpTo cX1_countUpTo 3 (some .int), Cond.fieldLink RX1 17 "PageBail$BailRow" "count" "I", Cond.methodLink RX1 28 yX1_numberAt, Cond.instanceMethod yX1_numberAt, Cond.selects RX1 yX1_numberAt yX1_numberAt, Cond.code yX1_numberAt cX1_numberAt 3 (some .int), Cond.fieldLink RX1 25 "PageBail$Bail" "number" "I"]
def wsL_walk_r2 : List Cond := [Cond.methodLink RX1 21 yX1_bailAt, Cond.instanceMethod yX1_bailAt, Cond.selects RX1 yX1_bailAt yX1_bailAt, Cond.code yX1_bailAt cX1_bailAt 2 (some (.object "PageBail$Bail")), Cond.fieldLink RX1 11 "PageBail$BailRow" "bails" "[LPageBail$Bail;", Cond.methodLink RX3 149 yX1_numberAt]
def wsL_walk : List Cond := .codeWith yL_walk cL_walk 4 (some .int) [(0, 9, 12, 13)] :: ((wsL_walk_r1 ++ wsL_walk_r2) ++ wsX30 ++ wsX10 ++ wsX00 ++ (vx_atS RX3 43 "java/lang/IllegalArgumentException" ["java/lang/RuntimeException", "java/lang/Exception"]).filter goodWord)
def wsL_law0_r1 : List Cond := [Cond.classLink RL 8 RX3, Cond.instantiable RX3 7, Cond.initialized RX3, Cond.classLink RL 66 RX4, Cond.instantiable RX4 14, Cond.initialized RX4, Cond.arrayClass .long, Cond.methodLink RL 65 yX3_init, Cond.instanceMethod yX3_init, Cond.code yX3_init cX3_init 1 none, Cond.methodLink RX3 1 objectInit, Cond.instanceMethod objectInit, Cond.code objectInit ⟨#[0xb1]⟩ 1 none, Cond.classLink RX3 7 RX1, Cond.instantiable RX1 2, Cond.initialized RX1, Cond.fieldLink RX3 10 "PageBail" "bailRow" "LPageBail$BailRow;", Cond.classLink RX3 16 RX2, Cond.instantiable RX2 2, Cond.initialized RX2, Cond.fieldLink RX3 19 "PageBail" "pageRow" "LPageBail$PageRow;", Cond.arrayClass .int, Cond.fieldLink RX3 23 "PageBail" "lastRead" "[I", Cond.fieldLink RX3 27 "PageBail" "sweptPage" "I"]
def wsL_law0_r2 : List Cond := [Cond.instanceMethod yX1_init, Cond.code yX1_init cX1_init 1 none, Cond.methodLink RX1 3 objectInit, Cond.classLink RX1 9 RX0, Cond.fieldLink RX1 11 "PageBail$BailRow" "bails" "[LPageBail$Bail;", Cond.instanceMethod yX2_init, Cond.code yX2_init cX2_init 1 none, Cond.methodLink RX2 3 objectInit, Cond.fieldLink RX2 9 "PageBail$PageRow" "sizes" "[I", Cond.methodLink RL 68 yX4_init, Cond.instanceMethod yX4_init, Cond.code yX4_init cX4_init 1 none, Cond.methodLink RX4 1 objectInit, Cond.fieldLink RX4 7 "PageBailModel" "cases" "[I", Cond.fieldLink RX4 13 "PageBailModel" "sums" "[I", Cond.fieldLink RX4 16 "PageBailModel" "sureties" "[I", Cond.fieldLink RX4 19 "PageBailModel" "putAt" "[I", Cond.fieldLink RX4 22 "PageBailModel" "forfeitedAt" "[I", Cond.fieldLink RX4 25 "PageBailModel" "sizes" "[I", Cond.fieldLink RX4 28 "PageBailModel" "sweeping" "I", Cond.fieldLink RX4 32 "PageBailModel" "walks" "[I", Cond.methodLink RL 69 yL_put, Cond.static yL_put, Cond.initialized RL]
def wsL_law0_r3 : List Cond := [Cond.codeWith yL_put cL_put 6 (some .int) [(0, 12, 15, 13), (0, 12, 19, 15)], Cond.classLink RL 13 "java/lang/IllegalArgumentException", Cond.classLink RL 15 "java/lang/IllegalStateException", Cond.methodLink RL 7 yX3_put, Cond.instanceMethod yX3_put, Cond.selects RX3 yX3_put yX3_put, Cond.code yX3_put cX3_put 5 (some .int), Cond.classLink RX3 39 "java/lang/IllegalArgumentException", Cond.initialized "java/lang/IllegalArgumentException", Cond.classLink RX3 54 "java/lang/IllegalStateException", Cond.initialized "java/lang/IllegalStateException", Cond.classLink RX3 75 RX0, Cond.instantiable RX0 5, Cond.initialized RX0, Cond.fieldLink RX3 77 "PageBail" "now" "I", Cond.methodLink RX3 31 yX3_requireCase, Cond.static yX3_requireCase, Cond.code yX3_requireCase cX3_requireCase 1 none, Cond.methodLink RX3 35 yX3_isIn, Cond.static yX3_isIn, Cond.code yX3_isIn cX3_isIn 3 (some .boolean), Cond.methodLink RX3 46 yX1_find, Cond.instanceMethod yX1_find, Cond.selects RX1 yX1_find yX1_find]
def wsL_law0_r4 : List Cond := [Cond.code yX1_find cX1_find 2 (some (.object "PageBail$Bail")), Cond.methodLink RX1 35 yX1_placeOf, Cond.instanceMethod yX1_placeOf, Cond.selects RX1 yX1_placeOf yX1_placeOf, Cond.code yX1_placeOf cX1_placeOf 3 (some .int), Cond.methodLink RX1 32 yX1_countUpTo, Cond.instanceMethod yX1_countUpTo, Cond.selects RX1 yX1_countUpTo yX1_countUpTo, Cond.code yX1_countUpTo cX1_countUpTo 3 (some .int), Cond.fieldLink RX1 17 "PageBail$BailRow" "count" "I", Cond.methodLink RX1 28 yX1_numberAt, Cond.instanceMethod yX1_numberAt, Cond.selects RX1 yX1_numberAt yX1_numberAt, Cond.code yX1_numberAt cX1_numberAt 3 (some .int), Cond.fieldLink RX1 25 "PageBail$Bail" "number" "I", Cond.methodLink RX1 21 yX1_bailAt, Cond.instanceMethod yX1_bailAt, Cond.selects RX1 yX1_bailAt yX1_bailAt, Cond.code yX1_bailAt cX1_bailAt 2 (some (.object "PageBail$Bail")), Cond.methodLink RX3 50 yX1_count, Cond.instanceMethod yX1_count, Cond.selects RX1 yX1_count yX1_count, Cond.code yX1_count cX1_count 1 (some .int), Cond.methodLink RX3 59 yX1_countUpTo]
def wsL_law0_r5 : List Cond := [Cond.methodLink RX3 63 yX3_pageToPutOn, Cond.instanceMethod yX3_pageToPutOn, Cond.selects RX3 yX3_pageToPutOn yX3_pageToPutOn, Cond.code yX3_pageToPutOn cX3_pageToPutOn 2 (some .int), Cond.methodLink RX3 168 Lib.Math.max.name, Cond.static Lib.Math.max.name, Cond.initialized "java/lang/Math", Cond.code Lib.Math.max.name Lib.Math.max.code 2 (some .int), Cond.methodLink RX3 152 yX2_pageWith, Cond.instanceMethod yX2_pageWith, Cond.selects RX2 yX2_pageWith yX2_pageWith, Cond.code yX2_pageWith cX2_pageWith 4 (some .int), Cond.fieldLink RX2 15 "PageBail$PageRow" "count" "I", Cond.methodLink RX2 23 yX2_sizeOf, Cond.instanceMethod yX2_sizeOf, Cond.selects RX2 yX2_sizeOf yX2_sizeOf, Cond.code yX2_sizeOf cX2_sizeOf 2 (some .int), Cond.methodLink RX2 19 yX2_has, Cond.instanceMethod yX2_has, Cond.selects RX2 yX2_has yX2_has, Cond.code yX2_has cX2_has 2 (some .boolean), Cond.methodLink RX3 66 yX2_sizeOf, Cond.methodLink RX3 69 yX2_split, Cond.instanceMethod yX2_split]
def wsL_law0_r6 : List Cond := [Cond.selects RX2 yX2_split yX2_split, Cond.code yX2_split cX2_split 3 none, Cond.methodLink RX3 72 yX2_addTo, Cond.instanceMethod yX2_addTo, Cond.selects RX2 yX2_addTo yX2_addTo, Cond.code yX2_addTo cX2_addTo 2 none, Cond.methodLink RX3 80 yX0_init, Cond.instanceMethod yX0_init, Cond.code yX0_init cX0_init 5 none, Cond.methodLink RX0 3 objectInit, Cond.fieldLink RX0 9 "PageBail$Bail" "number" "I", Cond.fieldLink RX0 15 "PageBail$Bail" "sum" "I", Cond.fieldLink RX0 18 "PageBail$Bail" "surety" "I", Cond.fieldLink RX0 21 "PageBail$Bail" "putDay" "I", Cond.fieldLink RX0 24 "PageBail$Bail" "forfeitDay" "I", Cond.methodLink RX3 83 yX1_insert, Cond.instanceMethod yX1_insert, Cond.selects RX1 yX1_insert yX1_insert, Cond.code yX1_insert cX1_insert 4 none, Cond.methodLink RX3 87 yX2_count, Cond.instanceMethod yX2_count, Cond.selects RX2 yX2_count yX2_count, Cond.code yX2_count cX2_count 1 (some .int), Cond.methodLink RL 74 yX4_put]
def wsL_law0_r7 : List Cond := [Cond.instanceMethod yX4_put, Cond.selects RX4 yX4_put yX4_put, Cond.code yX4_put cX4_put 7 (some .int), Cond.fieldLink RX4 42 "PageBailModel" "records" "I", Cond.fieldLink RX4 45 "PageBailModel" "pages" "I", Cond.fieldLink RX4 76 "PageBailModel" "today" "I", Cond.methodLink RX4 56 yX4_isCase, Cond.static yX4_isCase, Cond.code yX4_isCase cX4_isCase 1 (some .boolean), Cond.methodLink RX4 38 yX4_in, Cond.static yX4_in, Cond.code yX4_in cX4_in 3 (some .boolean), Cond.methodLink RX4 60 yX4_find, Cond.instanceMethod yX4_find, Cond.selects RX4 yX4_find yX4_find, Cond.code yX4_find cX4_find 3 (some .int), Cond.methodLink RX4 63 yX4_goesWell, Cond.instanceMethod yX4_goesWell, Cond.selects RX4 yX4_goesWell yX4_goesWell, Cond.code yX4_goesWell cX4_goesWell 2 (some .boolean), Cond.fieldLink RX4 35 "PageBailModel" "thrown" "I", Cond.methodLink RX4 66 yX4_pageFor, Cond.instanceMethod yX4_pageFor, Cond.selects RX4 yX4_pageFor yX4_pageFor]
def wsL_law0_r8 : List Cond := [Cond.code yX4_pageFor cX4_pageFor 4 (some .int), Cond.methodLink RX4 48 yX4_beginOf, Cond.instanceMethod yX4_beginOf, Cond.selects RX4 yX4_beginOf yX4_beginOf, Cond.code yX4_beginOf cX4_beginOf 4 (some .int), Cond.methodLink RX4 69 yX4_split, Cond.instanceMethod yX4_split, Cond.selects RX4 yX4_split yX4_split, Cond.code yX4_split cX4_split 3 none, Cond.methodLink RX4 73 yX4_moveUp, Cond.instanceMethod yX4_moveUp, Cond.selects RX4 yX4_moveUp yX4_moveUp, Cond.code yX4_moveUp cX4_moveUp 3 none, Cond.methodLink RX4 52 yX4_copy, Cond.instanceMethod yX4_copy, Cond.selects RX4 yX4_copy yX4_copy, Cond.code yX4_copy cX4_copy 3 none, Cond.methodLink RL 75 yX4_thrown, Cond.instanceMethod yX4_thrown, Cond.selects RX4 yX4_thrown yX4_thrown, Cond.code yX4_thrown cX4_thrown 1 (some .int), Cond.methodLink RL 79 yL_payBack, Cond.static yL_payBack, Cond.codeWith yL_payBack cL_payBack 4 (some .int) [(0, 9, 12, 13), (0, 9, 15, 15)]]
def wsL_law0_r9 : List Cond := [Cond.methodLink RL 17 yX3_payBack, Cond.instanceMethod yX3_payBack, Cond.selects RX3 yX3_payBack yX3_payBack, Cond.code yX3_payBack cX3_payBack 3 (some .int), Cond.fieldLink RX3 94 "PageBail" "paidInAll" "I", Cond.fieldLink RX3 97 "PageBail$Bail" "sum" "I", Cond.methodLink RX3 88 yX0_hasForfeitDay, Cond.instanceMethod yX0_hasForfeitDay, Cond.selects RX0 yX0_hasForfeitDay yX0_hasForfeitDay, Cond.code yX0_hasForfeitDay cX0_hasForfeitDay 1 (some .boolean), Cond.methodLink RX3 100 yX1_placeOf, Cond.methodLink RX3 103 yX3_takeOut, Cond.instanceMethod yX3_takeOut, Cond.selects RX3 yX3_takeOut yX3_takeOut, Cond.code yX3_takeOut cX3_takeOut 2 none, Cond.methodLink RX3 174 yX2_takeFrom, Cond.instanceMethod yX2_takeFrom, Cond.selects RX2 yX2_takeFrom yX2_takeFrom, Cond.code yX2_takeFrom cX2_takeFrom 2 none, Cond.methodLink RX2 27 yX2_remove, Cond.instanceMethod yX2_remove, Cond.selects RX2 yX2_remove yX2_remove, Cond.code yX2_remove cX2_remove 3 none, Cond.methodLink RX2 31 yX2_borrowOrJoin]
def wsL_law0_r10 : List Cond := [Cond.instanceMethod yX2_borrowOrJoin, Cond.selects RX2 yX2_borrowOrJoin yX2_borrowOrJoin, Cond.code yX2_borrowOrJoin cX2_borrowOrJoin 2 none, Cond.methodLink RX2 34 yX2_move, Cond.instanceMethod yX2_move, Cond.selects RX2 yX2_move yX2_move, Cond.code yX2_move cX2_move 3 none, Cond.methodLink RX3 177 yX1_remove, Cond.instanceMethod yX1_remove, Cond.selects RX1 yX1_remove yX1_remove, Cond.code yX1_remove cX1_remove 3 none, Cond.methodLink RL 82 yX4_payBack, Cond.instanceMethod yX4_payBack, Cond.selects RX4 yX4_payBack yX4_payBack, Cond.code yX4_payBack cX4_payBack 4 (some .int), Cond.fieldLink RX4 88 "PageBailModel" "paidBack" "I", Cond.methodLink RX4 91 yX4_takeOut, Cond.instanceMethod yX4_takeOut, Cond.selects RX4 yX4_takeOut yX4_takeOut, Cond.code yX4_takeOut cX4_takeOut 4 none, Cond.methodLink RX4 82 yX4_pageAt, Cond.instanceMethod yX4_pageAt, Cond.selects RX4 yX4_pageAt yX4_pageAt, Cond.code yX4_pageAt cX4_pageAt 4 (some .int)]
def wsL_law0_r11 : List Cond := [Cond.methodLink RX4 79 yX4_dropPage, Cond.instanceMethod yX4_dropPage, Cond.selects RX4 yX4_dropPage yX4_dropPage, Cond.code yX4_dropPage cX4_dropPage 3 none, Cond.methodLink RX4 85 yX4_settle, Cond.instanceMethod yX4_settle, Cond.selects RX4 yX4_settle yX4_settle, Cond.code yX4_settle cX4_settle 3 none, Cond.methodLink RL 83 yL_forfeit, Cond.static yL_forfeit, Cond.codeWith yL_forfeit cL_forfeit 3 (some .int) [(0, 5, 8, 13), (0, 5, 11, 15)], Cond.methodLink RL 21 yX3_forfeit, Cond.instanceMethod yX3_forfeit, Cond.selects RX3 yX3_forfeit yX3_forfeit, Cond.code yX3_forfeit cX3_forfeit 3 none, Cond.fieldLink RX3 106 "PageBail$Bail" "forfeitDay" "I", Cond.methodLink RL 86 yX4_forfeit, Cond.instanceMethod yX4_forfeit, Cond.selects RX4 yX4_forfeit yX4_forfeit, Cond.code yX4_forfeit cX4_forfeit 3 none, Cond.methodLink RL 87 yL_undo, Cond.static yL_undo, Cond.codeWith yL_undo cL_undo 4 (some .int) [(0, 9, 12, 13), (0, 9, 15, 15)], Cond.methodLink RL 25 yX3_undo]
def wsL_law0_r12 : List Cond := [Cond.instanceMethod yX3_undo, Cond.selects RX3 yX3_undo yX3_undo, Cond.code yX3_undo cX3_undo 4 (some .int), Cond.methodLink RL 89 yX4_undo, Cond.instanceMethod yX4_undo, Cond.selects RX4 yX4_undo yX4_undo, Cond.code yX4_undo cX4_undo 4 (some .int), Cond.methodLink RL 90 yL_amnesty, Cond.static yL_amnesty, Cond.codeWith yL_amnesty cL_amnesty 5 (some .int) [(0, 10, 13, 13)], Cond.methodLink RL 28 yX3_amnesty, Cond.instanceMethod yX3_amnesty, Cond.selects RX3 yX3_amnesty yX3_amnesty, Cond.code yX3_amnesty cX3_amnesty 7 (some .int), Cond.methodLink RX3 113 yX1_bailAt, Cond.methodLink RX3 116 yX0_isUnder, Cond.instanceMethod yX0_isUnder, Cond.selects RX0 yX0_isUnder yX0_isUnder, Cond.code yX0_isUnder cX0_isUnder 3 (some .boolean), Cond.methodLink RX0 27 yX0_hasForfeitDay, Cond.methodLink RL 93 yX4_amnesty, Cond.instanceMethod yX4_amnesty, Cond.selects RX4 yX4_amnesty yX4_amnesty, Cond.code yX4_amnesty cX4_amnesty 5 (some .int)]
def wsL_law0_r13 : List Cond := [Cond.methodLink RL 94 yX3_records, Cond.instanceMethod yX3_records, Cond.selects RX3 yX3_records yX3_records, Cond.code yX3_records cX3_records 1 (some .int), Cond.methodLink RL 97 yX4_records, Cond.instanceMethod yX4_records, Cond.selects RX4 yX4_records yX4_records, Cond.code yX4_records cX4_records 1 (some .int), Cond.methodLink RL 98 yL_sum, Cond.static yL_sum, Cond.codeWith yL_sum cL_sum 4 (some .int) [(0, 9, 12, 13)], Cond.methodLink RL 32 yX3_sum, Cond.instanceMethod yX3_sum, Cond.selects RX3 yX3_sum yX3_sum, Cond.code yX3_sum cX3_sum 3 (some .int), Cond.methodLink RL 100 yX4_sum, Cond.instanceMethod yX4_sum, Cond.selects RX4 yX4_sum yX4_sum, Cond.code yX4_sum cX4_sum 3 (some .int), Cond.methodLink RL 101 yL_isForfeited, Cond.static yL_isForfeited, Cond.codeWith yL_isForfeited cL_isForfeited 4 (some .int) [(0, 16, 19, 13)], Cond.methodLink RL 35 yX3_isForfeited, Cond.instanceMethod yX3_isForfeited]
def wsL_law0_r14 : List Cond := [Cond.selects RX3 yX3_isForfeited yX3_isForfeited, Cond.code yX3_isForfeited cX3_isForfeited 3 (some .boolean), Cond.methodLink RL 103 yX4_isForfeited, Cond.instanceMethod yX4_isForfeited, Cond.selects RX4 yX4_isForfeited yX4_isForfeited, Cond.code yX4_isForfeited cX4_isForfeited 3 (some .boolean), Cond.methodLink RL 104 yL_heldBy, Cond.static yL_heldBy, Cond.codeWith yL_heldBy cL_heldBy 4 (some .int) [(0, 9, 12, 13)], Cond.methodLink RL 39 yX3_heldBy, Cond.instanceMethod yX3_heldBy, Cond.selects RX3 yX3_heldBy yX3_heldBy, Cond.code yX3_heldBy cX3_heldBy 2 (some .int), Cond.methodLink RX3 122 yX1_sumOfSurety, Cond.instanceMethod yX1_sumOfSurety, Cond.selects RX1 yX1_sumOfSurety yX1_sumOfSurety, Cond.code yX1_sumOfSurety cX1_sumOfSurety 5 (some .int), Cond.fieldLink RX1 38 "PageBail$Bail" "surety" "I", Cond.fieldLink RX1 41 "PageBail$Bail" "sum" "I", Cond.methodLink RL 106 yX4_heldBy, Cond.instanceMethod yX4_heldBy, Cond.selects RX4 yX4_heldBy yX4_heldBy, Cond.code yX4_heldBy cX4_heldBy 4 (some .int), Cond.methodLink RL 107 yX3_kept]
def wsL_law0_r15 : List Cond := [Cond.instanceMethod yX3_kept, Cond.selects RX3 yX3_kept yX3_kept, Cond.code yX3_kept cX3_kept 1 (some .int), Cond.fieldLink RX3 125 "PageBail" "keptInAll" "I", Cond.methodLink RL 110 yX4_kept, Cond.instanceMethod yX4_kept, Cond.selects RX4 yX4_kept yX4_kept, Cond.code yX4_kept cX4_kept 1 (some .int), Cond.fieldLink RX4 94 "PageBailModel" "kept" "I", Cond.methodLink RL 111 yX3_paidBack, Cond.instanceMethod yX3_paidBack, Cond.selects RX3 yX3_paidBack yX3_paidBack, Cond.code yX3_paidBack cX3_paidBack 1 (some .int), Cond.methodLink RL 114 yX4_paidBack, Cond.instanceMethod yX4_paidBack, Cond.selects RX4 yX4_paidBack yX4_paidBack, Cond.code yX4_paidBack cX4_paidBack 1 (some .int), Cond.methodLink RL 115 yL_pass, Cond.static yL_pass, Cond.codeWith yL_pass cL_pass 4 (some .int) [(0, 9, 12, 13), (0, 9, 15, 15)], Cond.methodLink RL 42 yX3_pass, Cond.instanceMethod yX3_pass, Cond.selects RX3 yX3_pass yX3_pass, Cond.code yX3_pass cX3_pass 4 (some .int)]
def wsL_law0_r16 : List Cond := [Cond.methodLink RX3 132 yX3_keepOverdue, Cond.instanceMethod yX3_keepOverdue, Cond.selects RX3 yX3_keepOverdue yX3_keepOverdue, Cond.code yX3_keepOverdue cX3_keepOverdue 5 (some .int), Cond.methodLink RX3 180 yX0_isOverdue, Cond.instanceMethod yX0_isOverdue, Cond.selects RX0 yX0_isOverdue yX0_isOverdue, Cond.code yX0_isOverdue cX0_isOverdue 2 (some .boolean), Cond.methodLink RL 117 yX4_pass, Cond.instanceMethod yX4_pass, Cond.selects RX4 yX4_pass yX4_pass, Cond.code yX4_pass cX4_pass 6 (some .int), Cond.methodLink RL 118 yX3_today, Cond.instanceMethod yX3_today, Cond.selects RX3 yX3_today yX3_today, Cond.code yX3_today cX3_today 1 (some .int), Cond.methodLink RL 121 yX4_today, Cond.instanceMethod yX4_today, Cond.selects RX4 yX4_today yX4_today, Cond.code yX4_today cX4_today 1 (some .int), Cond.methodLink RL 122 yX3_pages, Cond.instanceMethod yX3_pages, Cond.selects RX3 yX3_pages yX3_pages, Cond.code yX3_pages cX3_pages 1 (some .int)]
def wsL_law0_r17 : List Cond := [Cond.methodLink RL 125 yX4_pages, Cond.instanceMethod yX4_pages, Cond.selects RX4 yX4_pages yX4_pages, Cond.code yX4_pages cX4_pages 1 (some .int), Cond.methodLink RL 126 yL_size, Cond.static yL_size, Cond.codeWith yL_size cL_size 4 (some .int) [(0, 9, 12, 48)], Cond.classLink RL 48 "java/lang/IndexOutOfBoundsException", Cond.methodLink RL 45 yX3_size, Cond.instanceMethod yX3_size, Cond.selects RX3 yX3_size yX3_size, Cond.code yX3_size cX3_size 2 (some .int), Cond.classLink RX3 139 "java/lang/IndexOutOfBoundsException", Cond.initialized "java/lang/IndexOutOfBoundsException", Cond.methodLink RX3 135 yX2_has, Cond.methodLink RL 128 yX4_size, Cond.instanceMethod yX4_size, Cond.selects RX4 yX4_size yX4_size, Cond.code yX4_size cX4_size 2 (some .int), Cond.methodLink RX4 97 yX4_isPage, Cond.instanceMethod yX4_isPage, Cond.selects RX4 yX4_isPage yX4_isPage, Cond.code yX4_isPage cX4_isPage 2 (some .boolean), Cond.methodLink RL 129 yL_at]
def wsL_law0_r18 : List Cond := [Cond.static yL_at, Cond.codeWith yL_at cL_at 5 (some .int) [(0, 10, 13, 48)], Cond.methodLink RL 50 yX3_at, Cond.instanceMethod yX3_at, Cond.selects RX3 yX3_at yX3_at, Cond.code yX3_at cX3_at 3 (some .int), Cond.methodLink RX3 146 yX2_beginOf, Cond.instanceMethod yX2_beginOf, Cond.selects RX2 yX2_beginOf yX2_beginOf, Cond.code yX2_beginOf cX2_beginOf 4 (some .int), Cond.methodLink RX3 149 yX1_numberAt, Cond.methodLink RL 131 yX4_at, Cond.instanceMethod yX4_at, Cond.selects RX4 yX4_at yX4_at, Cond.code yX4_at cX4_at 4 (some .int), Cond.methodLink RL 132 yL_pageOf, Cond.static yL_pageOf, Cond.codeWith yL_pageOf cL_pageOf 4 (some .int) [(0, 9, 12, 13)], Cond.methodLink RL 53 yX3_pageOf, Cond.instanceMethod yX3_pageOf, Cond.selects RX3 yX3_pageOf yX3_pageOf, Cond.code yX3_pageOf cX3_pageOf 2 (some .int), Cond.methodLink RL 134 yX4_pageOf, Cond.instanceMethod yX4_pageOf]
def wsL_law0_r19 : List Cond := [Cond.selects RX4 yX4_pageOf yX4_pageOf, Cond.code yX4_pageOf cX4_pageOf 3 (some .int), Cond.methodLink RL 135 yL_sweep, Cond.static yL_sweep, Cond.codeWith yL_sweep cL_sweep 2 (some .int) [(0, 4, 7, 15)], Cond.methodLink RL 56 yX3_sweep, Cond.instanceMethod yX3_sweep, Cond.selects RX3 yX3_sweep yX3_sweep, Cond.code yX3_sweep cX3_sweep 1 none, Cond.methodLink RL 138 yX4_sweep, Cond.instanceMethod yX4_sweep, Cond.selects RX4 yX4_sweep yX4_sweep, Cond.code yX4_sweep cX4_sweep 1 none, Cond.methodLink RL 139 yL_step, Cond.static yL_step, Cond.codeWith yL_step cL_step 4 (some .int) [(0, 9, 12, 13), (0, 9, 15, 15)], Cond.methodLink RL 59 yX3_step, Cond.instanceMethod yX3_step, Cond.selects RX3 yX3_step yX3_step, Cond.code yX3_step cX3_step 4 (some .int), Cond.methodLink RX3 161 yX3_sweepOn, Cond.instanceMethod yX3_sweepOn, Cond.selects RX3 yX3_sweepOn yX3_sweepOn, Cond.code yX3_sweepOn cX3_sweepOn 1 (some .int)]
def wsL_law0_r20 : List Cond := [Cond.methodLink RX3 183 yX2_move, Cond.methodLink RL 141 yX4_step, Cond.instanceMethod yX4_step, Cond.selects RX4 yX4_step yX4_step, Cond.code yX4_step cX4_step 4 (some .int), Cond.methodLink RL 142 yX3_sweeping, Cond.instanceMethod yX3_sweeping, Cond.selects RX3 yX3_sweeping yX3_sweeping, Cond.code yX3_sweeping cX3_sweeping 1 (some .int), Cond.methodLink RL 145 yX4_sweeping, Cond.instanceMethod yX4_sweeping, Cond.selects RX4 yX4_sweeping yX4_sweeping, Cond.code yX4_sweeping cX4_sweeping 1 (some .int), Cond.methodLink RL 146 yL_walk, Cond.static yL_walk, Cond.codeWith yL_walk cL_walk 4 (some .int) [(0, 9, 12, 13)], Cond.methodLink RL 62 yX3_walk, Cond.instanceMethod yX3_walk, Cond.selects RX3 yX3_walk yX3_walk, Cond.code yX3_walk cX3_walk 2 (some .int), Cond.methodLink RL 148 yX4_walk, Cond.instanceMethod yX4_walk, Cond.selects RX4 yX4_walk yX4_walk, Cond.code yX4_walk cX4_walk 3 (some .int)]
def wsL_law0 : List Cond := (wsL_law0_r1 ++ (wsL_law0_r2 ++ (wsL_law0_r3 ++ (wsL_law0_r4 ++ (wsL_law0_r5 ++ (wsL_law0_r6 ++ (wsL_law0_r7 ++ (wsL_law0_r8 ++ (wsL_law0_r9 ++ (wsL_law0_r10 ++ (wsL_law0_r11 ++ (wsL_law0_r12 ++ (wsL_law0_r13 ++ (wsL_law0_r14 ++ (wsL_law0_r15 ++ (wsL_law0_r16 ++ (wsL_law0_r17 ++ (wsL_law0_r18 ++ (wsL_law0_r19 ++ wsL_law0_r20))))))))))))))))))) ++ wsX30 ++ wsX40 ++ wsX10 ++ wsX20 ++ wsX00 ++ ([] : List Cond)
def wsL_law : List Cond := wsL_law0 ++ (vx_atS RX3 43 "java/lang/IllegalArgumentException" ["java/lang/RuntimeException", "java/lang/Exception"]).filter goodWord ++ (vx_atS RX3 58 "java/lang/IllegalStateException" ["java/lang/RuntimeException", "java/lang/Exception"]).filter goodWord ++ (vx_atS RX3 143 "java/lang/IndexOutOfBoundsException" ["java/lang/RuntimeException", "java/lang/Exception"]).filter goodWord
abbrev vwCl : List vw_C := [(RX0, TX0, 5), (RX1, TX1, 2), (RX2, TX2, 2), (RX3, TX3, 7), (RX4, TX4, 14)]
end
section
/-! ints by their numbers; worlds that are pools; contracts of one shape -/
def iI (z : Int) : Int32 := Int32.ofInt z
theorem iI_toInt {z : Int} (h : -2147483648 ≤ z ∧ z < 2147483648) : (iI z).toInt = z := Int32.toInt_ofInt_of_le (by omega) (by omega)
theorem iI_self (x : Int32) : iI x.toInt = x := Int32.ofInt_toInt x
theorem iI_rg (x : Int32) : -2147483648 ≤ x.toInt ∧ x.toInt < 2147483648 := ⟨by have := Int32.le_toInt x; omega, by have := Int32.toInt_lt x; omega⟩
theorem iI_ex (x : Int32) : ∃ z : Int, x = iI z ∧ -2147483648 ≤ z ∧ z < 2147483648 := ⟨x.toInt, (iI_self x).symm, iI_rg x⟩
theorem iI_add (a b : Int) : iI a + iI b = iI (a + b) := (Int32.ofInt_add a b).symm
theorem iI_sub (a b : Int) : iI a - iI b = iI (a - b) := (Int32.ofInt_sub a b).symm
theorem iI_0 : (0 : Int32) = iI 0 := by decide
theorem iI_lt {a b : Int} (ha : -2147483648 ≤ a ∧ a < 2147483648) (hb : -2147483648 ≤ b ∧ b < 2147483648) : iI a < iI b ↔ a < b := by rw [Int32.lt_iff_toInt_lt, iI_toInt ha, iI_toInt hb]
theorem iI_le {a b : Int} (ha : -2147483648 ≤ a ∧ a < 2147483648) (hb : -2147483648 ≤ b ∧ b < 2147483648) : iI a ≤ iI b ↔ a ≤ b := by rw [Int32.le_iff_toInt_le, iI_toInt ha, iI_toInt hb]
theorem iI_eq {a b : Int} (ha : -2147483648 ≤ a ∧ a < 2147483648) (hb : -2147483648 ≤ b ∧ b < 2147483648) : iI a = iI b ↔ a = b := ⟨fun h => by rw [← iI_toInt ha, ← iI_toInt hb, h], fun h => by rw [h]⟩
theorem iI_in {i : Int} {n : Nat} (h : 0 ≤ i ∧ i < (n : Int)) (hn : n ≤ 1000000) : vp_in (iI i) n := by
  rw [vp_in_iff, iI_toInt (by omega)]; exact h
theorem iI_nat {i : Int} (h : 0 ≤ i ∧ i < 1000000) : ((iI i).toNatClampNeg : Int) = i := by
  show (((iI i).toInt.toNat : Nat) : Int) = i
  rw [iI_toInt (by omega)]; omega
def aI (g : Int → Int) : Nat → Int32 := fun j => iI (g (j : Int))
def aR (g : Int → Option Nat) : Nat → Option Nat := fun j => g (j : Int)
def uI {α : Type} (g : Int → α) (i : Int) (v : α) : Int → α := fun j => if j = i then v else g j
theorem uI_s {α : Type} (g : Int → α) (i : Int) (v : α) : uI g i v i = v := by simp [uI]
theorem uI_n {α : Type} (g : Int → α) {i j : Int} (v : α) (h : j ≠ i) : uI g i v j = g j := by simp [uI, h]
theorem aI_u {g : Int → Int} {i v : Int} (h : 0 ≤ i ∧ i < 1000000) : upd (aI g) (iI i).toNatClampNeg (iI v) = aI (uI g i v) := by
  have e := iI_nat h
  funext j
  by_cases hj : j = (iI i).toNatClampNeg
  · subst hj
    rw [pk_us]; show _ = iI (uI g i v _); rw [e, uI_s]
  · rw [pk_un hj]; show _ = iI (uI g i v _); rw [uI_n _ _ (by omega)]; rfl
theorem aR_u {g : Int → Option Nat} {i : Int} {v : Option Nat} (h : 0 ≤ i ∧ i < 1000000) : va_up (aR g) (iI i).toNatClampNeg v = aR (uI g i v) := by
  have e := iI_nat h
  funext j
  by_cases hj : j = (iI i).toNatClampNeg
  · subst hj
    rw [va_up_self]; show _ = uI g i v _; rw [e, uI_s]
  · rw [va_up_ne _ _ hj]; show _ = uI g i v _; rw [uI_n _ _ (by omega)]; rfl
abbrev ty3 (cs : ClassId × ClassId × ClassId) : List (ClassId × FieldType) := [(cs.1, .int), (cs.2.1, .object RX0), (cs.2.2, .long)]
def XW (D : va_G) (A : Nat → Prop) (H0 : Heap) (L : List Nat) (f : Nat → va_E) (H : Heap) (locs : List Loc) : Prop := va_P D vwCl (va_pl L f) H ∧ va_D A (va_pl L f) ∧ va_S A H0 H locs
def XX (p : Program) (m : MethodId) (c : Code) (cc : ByteArray) (nL : Nat) (s : State) (args : Array Value) (Ts : List Cond) (own : String) (D : va_G) (cs : ClassId × ClassId × ClassId) : Prop := CallFix p m c cc nL s args Ts own ∧ va_K D vwCl (ty3 cs) s
/-- a field that a method reads: its class's words are among the method's, its link too -/
def XF (Ts : List Cond) (own : String) (index ci k : Nat) : Prop := ∃ (C : String) (T : u_T) (N : Nat), (∀ w ∈ u_ws C T N, w ∈ Ts) ∧ vwCl[ci]? = some (C, T, N) ∧ k < N ∧ Cond.fieldLink own index (T k).1 (T k).2.1 (T k).2.2.1 ∈ Ts
/-- .. and may write -/
def XG (Ts : List Cond) (own : String) (index ci k : Nat) (fin : Bool) (ty : FieldType) : Prop := ∃ (C : String) (T : u_T) (N : Nat) (t0 : Nat → FieldType), (∀ w ∈ u_ws C T N, w ∈ Ts) ∧ vwCl[ci]? = some (C, T, N) ∧ k < N ∧ Cond.fieldLink own index (T k).1 (T k).2.1 (T k).2.2.1 ∈ Ts ∧
  (∀ k, k < N → parseFieldDescriptor (T k).2.2.1 = some (t0 k)) ∧ (∀ a, a < N → ∀ b, b < N → a ≠ b → (T a).2.1 ≠ (T b).2.1) ∧ (T k).2.2.2 = fin ∧ (T k).1 = own ∧ parseFieldDescriptor (T k).2.2.1 = some ty
def XGn (Ts : List Cond) (own : String) (index ci k : Nat) (ty : FieldType) : Prop := ∃ (C : String) (T : u_T) (N : Nat) (t0 : Nat → FieldType), (∀ w ∈ u_ws C T N, w ∈ Ts) ∧ vwCl[ci]? = some (C, T, N) ∧ k < N ∧ Cond.fieldLink own index (T k).1 (T k).2.1 (T k).2.2.1 ∈ Ts ∧
  (∀ k, k < N → parseFieldDescriptor (T k).2.2.1 = some (t0 k)) ∧ (∀ a, a < N → ∀ b, b < N → a ≠ b → (T a).2.1 ≠ (T b).2.1) ∧ (T k).2.2.2 = false ∧ parseFieldDescriptor (T k).2.2.1 = some ty
/-- a callee by name: what its caller has of it -/
def XV (Ts : List Cond) (own : String) (index : Nat) (C : String) (y : MethodName) (bytes : ByteArray) (maxL : Nat) (ret : Option FieldType) (ws : List Cond) (n : Nat) : Prop := GoodIn Ts (wsV own index C y ws) ∧ (∃ ws', ws = Cond.code y bytes maxL ret :: ws') ∧ (y.cls = C ∧ y.cls ≠ "java/lang/invoke/MethodHandle" ∧ y.cls ≠ "java/lang/invoke/VarHandle" ∧ (parseMethodDescriptor y.desc).map (fun d => d.parameters.length) = some n)
def XS (Ts : List Cond) (own : String) (index : Nat) (y : MethodName) (bytes : ByteArray) (maxL : Nat) (ret : Option FieldType) (ws : List Cond) (n : Nat) : Prop := GoodIn Ts (va_wsS own index y ws) ∧ (∃ ws', ws = Cond.code y bytes maxL ret :: ws') ∧ (y.cls ≠ "java/lang/invoke/MethodHandle" ∧ y.cls ≠ "java/lang/invoke/VarHandle" ∧ (parseMethodDescriptor y.desc).map (fun d => d.parameters.length) = some n)
/-! contracts -/
def va_QG {S : Type} (post : Option Value → S → Prop) (B : S → State → Prop) (A : Nat → Prop) : Array Value → State → Outcome → State → Prop := fun _ st oc t => (∃ (v : Option Value) (u : S), oc = .returned v ∧ post v u ∧ B u t) ∧ va_F A st t
def CB (D : va_G) (cs : ClassId × ClassId × ClassId) (A : Nat → Prop) (u : List Nat × (Nat → va_E)) (t : State) : Prop := va_P D vwCl (va_pl u.1 u.2) t.heap ∧ va_K D vwCl (ty3 cs) t ∧ va_D A (va_pl u.1 u.2)
def CQ (D : va_G) (cs : ClassId × ClassId × ClassId) (A : Nat → Prop) (post : Option Value → List Nat → (Nat → va_E) → Prop) : Array Value → State → Outcome → State → Prop := va_QG (fun v (u : List Nat × (Nat → va_E)) => post v u.1 u.2) (CB D cs A) A
def CP (D : va_G) (cs : ClassId × ClassId × ClassId) (args : List Value) (sz : Nat) (L : List Nat) (f : Nat → va_E) : Array Value → State → Prop := va_Pc args (fun U => U.heap.size = sz ∧ va_P D vwCl (va_pl L f) U.heap ∧ va_K D vwCl (ty3 cs) U ∧ va_D (fun _ => True) (va_pl L f))
/-- A CONTRACT: from the pool (L, f), with these arguments, the method answers v and leaves a pool (L', f') with 'post v L' f'' -/
def C0 (l : Launch) (y : MethodName) (ws : List Cond) (rm : Room) (D : va_G) (cs : ClassId × ClassId × ClassId) (args : List Value) (L : List Nat) (f : Nat → va_E) (post : Option Value → List Nat → (Nat → va_E) → Prop) : Prop :=
  ∀ sz : Nat, Met l y ws rm (CP D cs args sz L f) (CQ D cs (va_A (va_pl L f) sz) post) rm.cells rm.slots (va_A (va_pl L f) sz)

section XROWS
variable {p : Program} {l : Launch} {e : Env} {R : Room} {s : State} {m : MethodId} {args : Array Value} {below : List Frame} {meth : Method} {c : Code} {H : Heap} {locs : List Loc} {cells slots : Nat} {Q : State → Prop}
variable {cc : ByteArray} {nL pc : Nat} {ls : Array Slot} {rest : List Value} {Ts : List Cond} {own : String} {D : va_G} {cs : ClassId × ClassId × ClassId} {A : Nat → Prop} {H0 : Heap} {L : List Nat} {f : Nat → va_E} {lv lv' : List (Nat × Value)}

theorem x_iconst (X : XX p m c cc nL s args Ts own D cs) {n : Int} (hdg : decode cc pc = .ok (.iconst n, 1)) (k : W p l e R s m args below meth c H locs cells slots Q (F0 m (pc + 1) ls (.int (iI n) :: rest))) : W p l e R s m args below meth c H locs cells slots Q (F0 m (pc) ls (rest)) := lv_iconst X.1.1 X.1.2.1 hdg rfl k
theorem x_bipush (X : XX p m c cc nL s args Ts own D cs) {n : Int} (hn : (Int8.ofInt n).toInt32 = iI n) (hdg : decode cc pc = .ok (.bipush n, 2)) (k : W p l e R s m args below meth c H locs cells slots Q (F0 m (pc + 2) ls (.int (iI n) :: rest))) : W p l e R s m args below meth c H locs cells slots Q (F0 m (pc) ls (rest)) := lv_bipush X.1.1 X.1.2.1 hdg hn k
theorem x_sipush (X : XX p m c cc nL s args Ts own D cs) {n : Int} (hn : (Int16.ofInt n).toInt32 = iI n) (hdg : decode cc pc = .ok (.sipush n, 3)) (k : W p l e R s m args below meth c H locs cells slots Q (F0 m (pc + 3) ls (.int (iI n) :: rest))) : W p l e R s m args below meth c H locs cells slots Q (F0 m (pc) ls (rest)) := lv_sipush X.1.1 X.1.2.1 hdg hn k
theorem x_null (X : XX p m c cc nL s args Ts own D cs) (hdg : decode cc pc = .ok (.aconst_null, 1)) (k : W p l e R s m args below meth c H locs cells slots Q (F0 m (pc + 1) ls (.null :: rest))) : W p l e R s m args below meth c H locs cells slots Q (F0 m (pc) ls (rest)) := lv_null X.1.1 X.1.2.1 hdg k
theorem x_il_n (X : XX p m c cc nL s args Ts own D cs) {q : Fin 4} {i : Nat} {v : Int32} (hl : lv_has ls nL lv) (j : Nat) (hk : lv[j]? = some (i, .int v)) (hi : (q : Nat) = i) (hdg : decode cc pc = .ok (.iload_n q, 1)) (k : W p l e R s m args below meth c H locs cells slots Q (F0 m (pc + 1) ls (.int v :: rest))) : W p l e R s m args below meth c H locs cells slots Q (F0 m (pc) ls (rest)) := lv_iload_n X.1.1 X.1.2.1 hdg hi (lv_at hl j hk) k
theorem x_il (X : XX p m c cc nL s args Ts own D cs) {i : Nat} {v : Int32} (hl : lv_has ls nL lv) (j : Nat) (hk : lv[j]? = some (i, .int v)) (hdg : decode cc pc = .ok (.iload i, 2)) (k : W p l e R s m args below meth c H locs cells slots Q (F0 m (pc + 2) ls (.int v :: rest))) : W p l e R s m args below meth c H locs cells slots Q (F0 m (pc) ls (rest)) := lv_iload X.1.1 X.1.2.1 hdg (lv_at hl j hk) k
theorem x_al_n (X : XX p m c cc nL s args Ts own D cs) {q : Fin 4} {i : Nat} {v : Nat} (hl : lv_has ls nL lv) (j : Nat) (hk : lv[j]? = some (i, .ref v)) (hi : (q : Nat) = i) (hdg : decode cc pc = .ok (.aload_n q, 1)) (k : W p l e R s m args below meth c H locs cells slots Q (F0 m (pc + 1) ls (.ref v :: rest))) : W p l e R s m args below meth c H locs cells slots Q (F0 m (pc) ls (rest)) := lv_aload_n X.1.1 X.1.2.1 hdg hi (lv_at hl j hk) k
theorem x_al (X : XX p m c cc nL s args Ts own D cs) {i : Nat} {v : Nat} (hl : lv_has ls nL lv) (j : Nat) (hk : lv[j]? = some (i, .ref v)) (hdg : decode cc pc = .ok (.aload i, 2)) (k : W p l e R s m args below meth c H locs cells slots Q (F0 m (pc + 2) ls (.ref v :: rest))) : W p l e R s m args below meth c H locs cells slots Q (F0 m (pc) ls (rest)) := lv_aload X.1.1 X.1.2.1 hdg (lv_at hl j hk) k
theorem x_alN_n (X : XX p m c cc nL s args Ts own D cs) {q : Fin 4} {i : Nat} (hl : lv_has ls nL lv) (j : Nat) (hk : lv[j]? = some (i, .null)) (hi : (q : Nat) = i) (hdg : decode cc pc = .ok (.aload_n q, 1)) (k : W p l e R s m args below meth c H locs cells slots Q (F0 m (pc + 1) ls (.null :: rest))) : W p l e R s m args below meth c H locs cells slots Q (F0 m (pc) ls (rest)) := lv_aload_nN X.1.1 X.1.2.1 hdg hi (lv_at hl j hk) k
theorem x_alN (X : XX p m c cc nL s args Ts own D cs) {i : Nat} (hl : lv_has ls nL lv) (j : Nat) (hk : lv[j]? = some (i, .null)) (hdg : decode cc pc = .ok (.aload i, 2)) (k : W p l e R s m args below meth c H locs cells slots Q (F0 m (pc + 2) ls (.null :: rest))) : W p l e R s m args below meth c H locs cells slots Q (F0 m (pc) ls (rest)) := lv_aloadN X.1.1 X.1.2.1 hdg (lv_at hl j hk) k
theorem x_is_n (X : XX p m c cc nL s args Ts own D cs) {q : Fin 4} {i : Nat} {v : Int32} (hl : lv_has ls nL lv) (hi : (q : Nat) = i) (hn : i < nL) (hf : (i, Value.int v) :: lv.filter (fun q => !(q.1 == i) && !(q.1 + 1 == i && q.2.category == 2)) = lv') (hdg : decode cc pc = .ok (.istore_n q, 1)) (k : ∀ ls : Array Slot, lv_has ls nL lv' → W p l e R s m args below meth c H locs cells slots Q (F0 m (pc + 1) ls (rest))) : W p l e R s m args below meth c H locs cells slots Q (F0 m (pc) ls (.int v :: rest)) := lv_istore_n X.1.1 X.1.2.1 hdg hi hl hn hf k
theorem x_is (X : XX p m c cc nL s args Ts own D cs) {i : Nat} {v : Int32} (hl : lv_has ls nL lv) (hn : i < nL) (hf : (i, Value.int v) :: lv.filter (fun q => !(q.1 == i) && !(q.1 + 1 == i && q.2.category == 2)) = lv') (hdg : decode cc pc = .ok (.istore i, 2)) (k : ∀ ls : Array Slot, lv_has ls nL lv' → W p l e R s m args below meth c H locs cells slots Q (F0 m (pc + 2) ls (rest))) : W p l e R s m args below meth c H locs cells slots Q (F0 m (pc) ls (.int v :: rest)) := lv_istore X.1.1 X.1.2.1 hdg hl hn hf k
theorem x_as_n (X : XX p m c cc nL s args Ts own D cs) {q : Fin 4} {i : Nat} {v : Nat} (hl : lv_has ls nL lv) (hi : (q : Nat) = i) (hn : i < nL) (hf : (i, Value.ref v) :: lv.filter (fun q => !(q.1 == i) && !(q.1 + 1 == i && q.2.category == 2)) = lv') (hdg : decode cc pc = .ok (.astore_n q, 1)) (k : ∀ ls : Array Slot, lv_has ls nL lv' → W p l e R s m args below meth c H locs cells slots Q (F0 m (pc + 1) ls (rest))) : W p l e R s m args below meth c H locs cells slots Q (F0 m (pc) ls (.ref v :: rest)) := lv_astore_n X.1.1 X.1.2.1 hdg hi hl hn hf k
theorem x_as (X : XX p m c cc nL s args Ts own D cs) {i : Nat} {v : Nat} (hl : lv_has ls nL lv) (hn : i < nL) (hf : (i, Value.ref v) :: lv.filter (fun q => !(q.1 == i) && !(q.1 + 1 == i && q.2.category == 2)) = lv') (hdg : decode cc pc = .ok (.astore i, 2)) (k : ∀ ls : Array Slot, lv_has ls nL lv' → W p l e R s m args below meth c H locs cells slots Q (F0 m (pc + 2) ls (rest))) : W p l e R s m args below meth c H locs cells slots Q (F0 m (pc) ls (.ref v :: rest)) := lv_astore X.1.1 X.1.2.1 hdg hl hn hf k
theorem x_asN_n (X : XX p m c cc nL s args Ts own D cs) {q : Fin 4} {i : Nat}  (hl : lv_has ls nL lv) (hi : (q : Nat) = i) (hn : i < nL) (hf : (i, Value.null) :: lv.filter (fun q => !(q.1 == i) && !(q.1 + 1 == i && q.2.category == 2)) = lv') (hdg : decode cc pc = .ok (.astore_n q, 1)) (k : ∀ ls : Array Slot, lv_has ls nL lv' → W p l e R s m args below meth c H locs cells slots Q (F0 m (pc + 1) ls (rest))) : W p l e R s m args below meth c H locs cells slots Q (F0 m (pc) ls (.null :: rest)) := lv_astore_nN X.1.1 X.1.2.1 hdg hi hl hn hf k
theorem x_asN (X : XX p m c cc nL s args Ts own D cs) {i : Nat}  (hl : lv_has ls nL lv) (hn : i < nL) (hf : (i, Value.null) :: lv.filter (fun q => !(q.1 == i) && !(q.1 + 1 == i && q.2.category == 2)) = lv') (hdg : decode cc pc = .ok (.astore i, 2)) (k : ∀ ls : Array Slot, lv_has ls nL lv' → W p l e R s m args below meth c H locs cells slots Q (F0 m (pc + 2) ls (rest))) : W p l e R s m args below meth c H locs cells slots Q (F0 m (pc) ls (.null :: rest)) := lv_astoreN X.1.1 X.1.2.1 hdg hl hn hf k
theorem x_iinc (X : XX p m c cc nL s args Ts own D cs) {i : Nat} {n z : Int} (hl : lv_has ls nL lv) (j : Nat) (hk : lv[j]? = some (i, .int (iI z))) (hn : i < nL) (hf : (i, Value.int (iI (z + n))) :: lv.filter (fun q => !(q.1 == i) && !(q.1 + 1 == i && q.2.category == 2)) = lv') (hdg : decode cc pc = .ok (.iinc i n, 3)) (k : ∀ ls : Array Slot, lv_has ls nL lv' → W p l e R s m args below meth c H locs cells slots Q (F0 m (pc + 3) ls (rest))) : W p l e R s m args below meth c H locs cells slots Q (F0 m (pc) ls (rest)) := lv_iinc X.1.1 X.1.2.1 hdg hl hk (iI_add z n) hn hf k
theorem x_iadd (X : XX p m c cc nL s args Ts own D cs) {a b : Int} (hdg : decode cc pc = .ok (.iadd, 1)) (k : W p l e R s m args below meth c H locs cells slots Q (F0 m (pc + 1) ls (.int (iI (a + b)) :: rest))) : W p l e R s m args below meth c H locs cells slots Q (F0 m (pc) ls (.int (iI b) :: .int (iI a) :: rest)) := lv_iadd X.1.1 X.1.2.1 hdg (by rw [iI_add]; exact k)
theorem x_isub (X : XX p m c cc nL s args Ts own D cs) {a b : Int} (hdg : decode cc pc = .ok (.isub, 1)) (k : W p l e R s m args below meth c H locs cells slots Q (F0 m (pc + 1) ls (.int (iI (a - b)) :: rest))) : W p l e R s m args below meth c H locs cells slots Q (F0 m (pc) ls (.int (iI b) :: .int (iI a) :: rest)) := lv_isub X.1.1 X.1.2.1 hdg (by rw [iI_sub]; exact k)
theorem x_dup (X : XX p m c cc nL s args Ts own D cs) {v : Value} (hv : v.category = 1) (hdg : decode cc pc = .ok (.dup, 1)) (k : W p l e R s m args below meth c H locs cells slots Q (F0 m (pc + 1) ls (v :: v :: rest))) : W p l e R s m args below meth c H locs cells slots Q (F0 m (pc) ls (v :: rest)) := lv_dup X.1.1 X.1.2.1 hdg hv k
theorem x_dup_x1 (X : XX p m c cc nL s args Ts own D cs) {v w : Value} (hv : v.category = 1) (hw : w.category = 1) (hdg : decode cc pc = .ok (.dup_x1, 1)) (k : W p l e R s m args below meth c H locs cells slots Q (F0 m (pc + 1) ls (v :: w :: v :: rest))) : W p l e R s m args below meth c H locs cells slots Q (F0 m (pc) ls (v :: w :: rest)) := lv_dup_x1 X.1.1 X.1.2.1 hdg hv hw k
theorem x_dup_x2 (X : XX p m c cc nL s args Ts own D cs) {v w u : Value} (hv : v.category = 1) (hw : w.category = 1) (hu : u.category = 1) (hdg : decode cc pc = .ok (.dup_x2, 1)) (k : W p l e R s m args below meth c H locs cells slots Q (F0 m (pc + 1) ls (v :: w :: u :: v :: rest))) : W p l e R s m args below meth c H locs cells slots Q (F0 m (pc) ls (v :: w :: u :: rest)) := lv_dup_x2 X.1.1 X.1.2.1 hdg hv hw hu k
theorem x_dup2 (X : XX p m c cc nL s args Ts own D cs) {v w : Value} (hv : v.category = 1) (hw : w.category = 1) (hdg : decode cc pc = .ok (.dup2, 1)) (k : W p l e R s m args below meth c H locs cells slots Q (F0 m (pc + 1) ls (v :: w :: v :: w :: rest))) : W p l e R s m args below meth c H locs cells slots Q (F0 m (pc) ls (v :: w :: rest)) := lv_dup2_11 X.1.1 X.1.2.1 hdg hv hw k
theorem x_pop (X : XX p m c cc nL s args Ts own D cs) {v : Value} (hv : v.category = 1) (hdg : decode cc pc = .ok (.pop, 1)) (k : W p l e R s m args below meth c H locs cells slots Q (F0 m (pc + 1) ls (rest))) : W p l e R s m args below meth c H locs cells slots Q (F0 m (pc) ls (v :: rest)) := lv_pop X.1.1 X.1.2.1 hdg hv k
theorem x_goto (X : XX p m c cc nL s args Ts own D cs) {off : Int} {tgt : Nat} (ht : (pc : Int) + off = (tgt : Int)) (hdg : decode cc pc = .ok (.goto off, 3)) (k : W p l e R s m args below meth c H locs cells slots Q (F0 m (tgt) ls (rest))) : W p l e R s m args below meth c H locs cells slots Q (F0 m (pc) ls (rest)) := lv_goto X.1.1 X.1.2.1 hdg ht k
theorem x_icmp_lt (X : XX p m c cc nL s args Ts own D cs) {a b off : Int} {tgt : Nat} (hr : -2147483648 ≤ a ∧ a < 2147483648 ∧ -2147483648 ≤ b ∧ b < 2147483648) (ht : (pc : Int) + off = (tgt : Int)) (hdg : decode cc pc = .ok (.if_icmp .lt off, 3)) (kt : a < b → W p l e R s m args below meth c H locs cells slots Q (F0 m (tgt) ls (rest))) (kf : b ≤ a → W p l e R s m args below meth c H locs cells slots Q (F0 m (pc + 3) ls (rest))) : W p l e R s m args below meth c H locs cells slots Q (F0 m (pc) ls (.int (iI b) :: .int (iI a) :: rest)) := by
  have ha := And.intro hr.1 hr.2.1
  have hb := hr.2.2
  exact lv_icmp_lt X.1.1 X.1.2.1 hdg ht (fun h => kt ((iI_lt ha hb).mp h)) (fun h => kf (Int.not_lt.mp fun q => h ((iI_lt ha hb).mpr q)))
theorem x_if_lt (X : XX p m c cc nL s args Ts own D cs) {a off : Int} {tgt : Nat} (ha : -2147483648 ≤ a ∧ a < 2147483648) (ht : (pc : Int) + off = (tgt : Int)) (hdg : decode cc pc = .ok (.ifCond .lt off, 3)) (kt : a < 0 → W p l e R s m args below meth c H locs cells slots Q (F0 m (tgt) ls (rest))) (kf : 0 ≤ a → W p l e R s m args below meth c H locs cells slots Q (F0 m (pc + 3) ls (rest))) : W p l e R s m args below meth c H locs cells slots Q (F0 m (pc) ls (.int (iI a) :: rest)) := by
  have hb : -2147483648 ≤ (0 : Int) ∧ (0 : Int) < 2147483648 := by decide
  refine lv_if_lt X.1.1 X.1.2.1 hdg ht ?_ ?_
  · rw [iI_0]; exact fun h => kt ((iI_lt ha hb).mp h)
  · rw [iI_0]; exact fun h => kf (Int.not_lt.mp fun q => h ((iI_lt ha hb).mpr q))
theorem x_ifT_lt (X : XX p m c cc nL s args Ts own D cs) {a off : Int} {tgt : Nat} (ha : -2147483648 ≤ a ∧ a < 2147483648) (h : a < 0) (ht : (pc : Int) + off = (tgt : Int)) (hdg : decode cc pc = .ok (.ifCond .lt off, 3)) (k : W p l e R s m args below meth c H locs cells slots Q (F0 m (tgt) ls (rest))) : W p l e R s m args below meth c H locs cells slots Q (F0 m (pc) ls (.int (iI a) :: rest)) := x_if_lt X ha ht hdg (fun _ => k) (fun q => absurd h (by omega))
theorem x_ifF_lt (X : XX p m c cc nL s args Ts own D cs) {a off : Int} {tgt : Nat} (ha : -2147483648 ≤ a ∧ a < 2147483648) (h : 0 ≤ a) (ht : (pc : Int) + off = (tgt : Int)) (hdg : decode cc pc = .ok (.ifCond .lt off, 3)) (k : W p l e R s m args below meth c H locs cells slots Q (F0 m (pc + 3) ls (rest))) : W p l e R s m args below meth c H locs cells slots Q (F0 m (pc) ls (.int (iI a) :: rest)) := x_if_lt X ha ht hdg (fun q => absurd h (by omega)) (fun _ => k)
theorem x_icmpT_lt (X : XX p m c cc nL s args Ts own D cs) {a b off : Int} {tgt : Nat} (hr : -2147483648 ≤ a ∧ a < 2147483648 ∧ -2147483648 ≤ b ∧ b < 2147483648) (h : a < b) (ht : (pc : Int) + off = (tgt : Int)) (hdg : decode cc pc = .ok (.if_icmp .lt off, 3)) (k : W p l e R s m args below meth c H locs cells slots Q (F0 m (tgt) ls (rest))) : W p l e R s m args below meth c H locs cells slots Q (F0 m (pc) ls (.int (iI b) :: .int (iI a) :: rest)) := x_icmp_lt X hr ht hdg (fun _ => k) (fun q => absurd h (by omega))
theorem x_icmpF_lt (X : XX p m c cc nL s args Ts own D cs) {a b off : Int} {tgt : Nat} (hr : -2147483648 ≤ a ∧ a < 2147483648 ∧ -2147483648 ≤ b ∧ b < 2147483648) (h : b ≤ a) (ht : (pc : Int) + off = (tgt : Int)) (hdg : decode cc pc = .ok (.if_icmp .lt off, 3)) (k : W p l e R s m args below meth c H locs cells slots Q (F0 m (pc + 3) ls (rest))) : W p l e R s m args below meth c H locs cells slots Q (F0 m (pc) ls (.int (iI b) :: .int (iI a) :: rest)) := x_icmp_lt X hr ht hdg (fun q => absurd h (by omega)) (fun _ => k)
theorem x_icmp_ge (X : XX p m c cc nL s args Ts own D cs) {a b off : Int} {tgt : Nat} (hr : -2147483648 ≤ a ∧ a < 2147483648 ∧ -2147483648 ≤ b ∧ b < 2147483648) (ht : (pc : Int) + off = (tgt : Int)) (hdg : decode cc pc = .ok (.if_icmp .ge off, 3)) (kt : b ≤ a → W p l e R s m args below meth c H locs cells slots Q (F0 m (tgt) ls (rest))) (kf : a < b → W p l e R s m args below meth c H locs cells slots Q (F0 m (pc + 3) ls (rest))) : W p l e R s m args below meth c H locs cells slots Q (F0 m (pc) ls (.int (iI b) :: .int (iI a) :: rest)) := by
  have ha := And.intro hr.1 hr.2.1
  have hb := hr.2.2
  exact lv_icmp_ge X.1.1 X.1.2.1 hdg ht (fun h => kt ((iI_le hb ha).mp h)) (fun h => kf (Int.not_le.mp fun q => h ((iI_le hb ha).mpr q)))
theorem x_if_ge (X : XX p m c cc nL s args Ts own D cs) {a off : Int} {tgt : Nat} (ha : -2147483648 ≤ a ∧ a < 2147483648) (ht : (pc : Int) + off = (tgt : Int)) (hdg : decode cc pc = .ok (.ifCond .ge off, 3)) (kt : 0 ≤ a → W p l e R s m args below meth c H locs cells slots Q (F0 m (tgt) ls (rest))) (kf : a < 0 → W p l e R s m args below meth c H locs cells slots Q (F0 m (pc + 3) ls (rest))) : W p l e R s m args below meth c H locs cells slots Q (F0 m (pc) ls (.int (iI a) :: rest)) := by
  have hb : -2147483648 ≤ (0 : Int) ∧ (0 : Int) < 2147483648 := by decide
  refine lv_if_ge X.1.1 X.1.2.1 hdg ht ?_ ?_
  · rw [iI_0]; exact fun h => kt ((iI_le hb ha).mp h)
  · rw [iI_0]; exact fun h => kf (Int.not_le.mp fun q => h ((iI_le hb ha).mpr q))
theorem x_ifT_ge (X : XX p m c cc nL s args Ts own D cs) {a off : Int} {tgt : Nat} (ha : -2147483648 ≤ a ∧ a < 2147483648) (h : 0 ≤ a) (ht : (pc : Int) + off = (tgt : Int)) (hdg : decode cc pc = .ok (.ifCond .ge off, 3)) (k : W p l e R s m args below meth c H locs cells slots Q (F0 m (tgt) ls (rest))) : W p l e R s m args below meth c H locs cells slots Q (F0 m (pc) ls (.int (iI a) :: rest)) := x_if_ge X ha ht hdg (fun _ => k) (fun q => absurd h (by omega))
theorem x_ifF_ge (X : XX p m c cc nL s args Ts own D cs) {a off : Int} {tgt : Nat} (ha : -2147483648 ≤ a ∧ a < 2147483648) (h : a < 0) (ht : (pc : Int) + off = (tgt : Int)) (hdg : decode cc pc = .ok (.ifCond .ge off, 3)) (k : W p l e R s m args below meth c H locs cells slots Q (F0 m (pc + 3) ls (rest))) : W p l e R s m args below meth c H locs cells slots Q (F0 m (pc) ls (.int (iI a) :: rest)) := x_if_ge X ha ht hdg (fun q => absurd h (by omega)) (fun _ => k)
theorem x_icmpT_ge (X : XX p m c cc nL s args Ts own D cs) {a b off : Int} {tgt : Nat} (hr : -2147483648 ≤ a ∧ a < 2147483648 ∧ -2147483648 ≤ b ∧ b < 2147483648) (h : b ≤ a) (ht : (pc : Int) + off = (tgt : Int)) (hdg : decode cc pc = .ok (.if_icmp .ge off, 3)) (k : W p l e R s m args below meth c H locs cells slots Q (F0 m (tgt) ls (rest))) : W p l e R s m args below meth c H locs cells slots Q (F0 m (pc) ls (.int (iI b) :: .int (iI a) :: rest)) := x_icmp_ge X hr ht hdg (fun _ => k) (fun q => absurd h (by omega))
theorem x_icmpF_ge (X : XX p m c cc nL s args Ts own D cs) {a b off : Int} {tgt : Nat} (hr : -2147483648 ≤ a ∧ a < 2147483648 ∧ -2147483648 ≤ b ∧ b < 2147483648) (h : a < b) (ht : (pc : Int) + off = (tgt : Int)) (hdg : decode cc pc = .ok (.if_icmp .ge off, 3)) (k : W p l e R s m args below meth c H locs cells slots Q (F0 m (pc + 3) ls (rest))) : W p l e R s m args below meth c H locs cells slots Q (F0 m (pc) ls (.int (iI b) :: .int (iI a) :: rest)) := x_icmp_ge X hr ht hdg (fun q => absurd h (by omega)) (fun _ => k)
theorem x_icmp_gt (X : XX p m c cc nL s args Ts own D cs) {a b off : Int} {tgt : Nat} (hr : -2147483648 ≤ a ∧ a < 2147483648 ∧ -2147483648 ≤ b ∧ b < 2147483648) (ht : (pc : Int) + off = (tgt : Int)) (hdg : decode cc pc = .ok (.if_icmp .gt off, 3)) (kt : b < a → W p l e R s m args below meth c H locs cells slots Q (F0 m (tgt) ls (rest))) (kf : a ≤ b → W p l e R s m args below meth c H locs cells slots Q (F0 m (pc + 3) ls (rest))) : W p l e R s m args below meth c H locs cells slots Q (F0 m (pc) ls (.int (iI b) :: .int (iI a) :: rest)) := by
  have ha := And.intro hr.1 hr.2.1
  have hb := hr.2.2
  exact lv_icmp_gt X.1.1 X.1.2.1 hdg ht (fun h => kt ((iI_lt hb ha).mp h)) (fun h => kf (Int.not_lt.mp fun q => h ((iI_lt hb ha).mpr q)))
theorem x_if_gt (X : XX p m c cc nL s args Ts own D cs) {a off : Int} {tgt : Nat} (ha : -2147483648 ≤ a ∧ a < 2147483648) (ht : (pc : Int) + off = (tgt : Int)) (hdg : decode cc pc = .ok (.ifCond .gt off, 3)) (kt : 0 < a → W p l e R s m args below meth c H locs cells slots Q (F0 m (tgt) ls (rest))) (kf : a ≤ 0 → W p l e R s m args below meth c H locs cells slots Q (F0 m (pc + 3) ls (rest))) : W p l e R s m args below meth c H locs cells slots Q (F0 m (pc) ls (.int (iI a) :: rest)) := by
  have hb : -2147483648 ≤ (0 : Int) ∧ (0 : Int) < 2147483648 := by decide
  refine lv_if_gt X.1.1 X.1.2.1 hdg ht ?_ ?_
  · rw [iI_0]; exact fun h => kt ((iI_lt hb ha).mp h)
  · rw [iI_0]; exact fun h => kf (Int.not_lt.mp fun q => h ((iI_lt hb ha).mpr q))
theorem x_ifT_gt (X : XX p m c cc nL s args Ts own D cs) {a off : Int} {tgt : Nat} (ha : -2147483648 ≤ a ∧ a < 2147483648) (h : 0 < a) (ht : (pc : Int) + off = (tgt : Int)) (hdg : decode cc pc = .ok (.ifCond .gt off, 3)) (k : W p l e R s m args below meth c H locs cells slots Q (F0 m (tgt) ls (rest))) : W p l e R s m args below meth c H locs cells slots Q (F0 m (pc) ls (.int (iI a) :: rest)) := x_if_gt X ha ht hdg (fun _ => k) (fun q => absurd h (by omega))
theorem x_ifF_gt (X : XX p m c cc nL s args Ts own D cs) {a off : Int} {tgt : Nat} (ha : -2147483648 ≤ a ∧ a < 2147483648) (h : a ≤ 0) (ht : (pc : Int) + off = (tgt : Int)) (hdg : decode cc pc = .ok (.ifCond .gt off, 3)) (k : W p l e R s m args below meth c H locs cells slots Q (F0 m (pc + 3) ls (rest))) : W p l e R s m args below meth c H locs cells slots Q (F0 m (pc) ls (.int (iI a) :: rest)) := x_if_gt X ha ht hdg (fun q => absurd h (by omega)) (fun _ => k)
theorem x_icmpT_gt (X : XX p m c cc nL s args Ts own D cs) {a b off : Int} {tgt : Nat} (hr : -2147483648 ≤ a ∧ a < 2147483648 ∧ -2147483648 ≤ b ∧ b < 2147483648) (h : b < a) (ht : (pc : Int) + off = (tgt : Int)) (hdg : decode cc pc = .ok (.if_icmp .gt off, 3)) (k : W p l e R s m args below meth c H locs cells slots Q (F0 m (tgt) ls (rest))) : W p l e R s m args below meth c H locs cells slots Q (F0 m (pc) ls (.int (iI b) :: .int (iI a) :: rest)) := x_icmp_gt X hr ht hdg (fun _ => k) (fun q => absurd h (by omega))
theorem x_icmpF_gt (X : XX p m c cc nL s args Ts own D cs) {a b off : Int} {tgt : Nat} (hr : -2147483648 ≤ a ∧ a < 2147483648 ∧ -2147483648 ≤ b ∧ b < 2147483648) (h : a ≤ b) (ht : (pc : Int) + off = (tgt : Int)) (hdg : decode cc pc = .ok (.if_icmp .gt off, 3)) (k : W p l e R s m args below meth c H locs cells slots Q (F0 m (pc + 3) ls (rest))) : W p l e R s m args below meth c H locs cells slots Q (F0 m (pc) ls (.int (iI b) :: .int (iI a) :: rest)) := x_icmp_gt X hr ht hdg (fun q => absurd h (by omega)) (fun _ => k)
theorem x_icmp_le (X : XX p m c cc nL s args Ts own D cs) {a b off : Int} {tgt : Nat} (hr : -2147483648 ≤ a ∧ a < 2147483648 ∧ -2147483648 ≤ b ∧ b < 2147483648) (ht : (pc : Int) + off = (tgt : Int)) (hdg : decode cc pc = .ok (.if_icmp .le off, 3)) (kt : a ≤ b → W p l e R s m args below meth c H locs cells slots Q (F0 m (tgt) ls (rest))) (kf : b < a → W p l e R s m args below meth c H locs cells slots Q (F0 m (pc + 3) ls (rest))) : W p l e R s m args below meth c H locs cells slots Q (F0 m (pc) ls (.int (iI b) :: .int (iI a) :: rest)) := by
  have ha := And.intro hr.1 hr.2.1
  have hb := hr.2.2
  exact lv_icmp_le X.1.1 X.1.2.1 hdg ht (fun h => kt ((iI_le ha hb).mp h)) (fun h => kf (Int.not_le.mp fun q => h ((iI_le ha hb).mpr q)))
theorem x_if_le (X : XX p m c cc nL s args Ts own D cs) {a off : Int} {tgt : Nat} (ha : -2147483648 ≤ a ∧ a < 2147483648) (ht : (pc : Int) + off = (tgt : Int)) (hdg : decode cc pc = .ok (.ifCond .le off, 3)) (kt : a ≤ 0 → W p l e R s m args below meth c H locs cells slots Q (F0 m (tgt) ls (rest))) (kf : 0 < a → W p l e R s m args below meth c H locs cells slots Q (F0 m (pc + 3) ls (rest))) : W p l e R s m args below meth c H locs cells slots Q (F0 m (pc) ls (.int (iI a) :: rest)) := by
  have hb : -2147483648 ≤ (0 : Int) ∧ (0 : Int) < 2147483648 := by decide
  refine lv_if_le X.1.1 X.1.2.1 hdg ht ?_ ?_
  · rw [iI_0]; exact fun h => kt ((iI_le ha hb).mp h)
  · rw [iI_0]; exact fun h => kf (Int.not_le.mp fun q => h ((iI_le ha hb).mpr q))
theorem x_ifT_le (X : XX p m c cc nL s args Ts own D cs) {a off : Int} {tgt : Nat} (ha : -2147483648 ≤ a ∧ a < 2147483648) (h : a ≤ 0) (ht : (pc : Int) + off = (tgt : Int)) (hdg : decode cc pc = .ok (.ifCond .le off, 3)) (k : W p l e R s m args below meth c H locs cells slots Q (F0 m (tgt) ls (rest))) : W p l e R s m args below meth c H locs cells slots Q (F0 m (pc) ls (.int (iI a) :: rest)) := x_if_le X ha ht hdg (fun _ => k) (fun q => absurd h (by omega))
theorem x_ifF_le (X : XX p m c cc nL s args Ts own D cs) {a off : Int} {tgt : Nat} (ha : -2147483648 ≤ a ∧ a < 2147483648) (h : 0 < a) (ht : (pc : Int) + off = (tgt : Int)) (hdg : decode cc pc = .ok (.ifCond .le off, 3)) (k : W p l e R s m args below meth c H locs cells slots Q (F0 m (pc + 3) ls (rest))) : W p l e R s m args below meth c H locs cells slots Q (F0 m (pc) ls (.int (iI a) :: rest)) := x_if_le X ha ht hdg (fun q => absurd h (by omega)) (fun _ => k)
theorem x_icmpT_le (X : XX p m c cc nL s args Ts own D cs) {a b off : Int} {tgt : Nat} (hr : -2147483648 ≤ a ∧ a < 2147483648 ∧ -2147483648 ≤ b ∧ b < 2147483648) (h : a ≤ b) (ht : (pc : Int) + off = (tgt : Int)) (hdg : decode cc pc = .ok (.if_icmp .le off, 3)) (k : W p l e R s m args below meth c H locs cells slots Q (F0 m (tgt) ls (rest))) : W p l e R s m args below meth c H locs cells slots Q (F0 m (pc) ls (.int (iI b) :: .int (iI a) :: rest)) := x_icmp_le X hr ht hdg (fun _ => k) (fun q => absurd h (by omega))
theorem x_icmpF_le (X : XX p m c cc nL s args Ts own D cs) {a b off : Int} {tgt : Nat} (hr : -2147483648 ≤ a ∧ a < 2147483648 ∧ -2147483648 ≤ b ∧ b < 2147483648) (h : b < a) (ht : (pc : Int) + off = (tgt : Int)) (hdg : decode cc pc = .ok (.if_icmp .le off, 3)) (k : W p l e R s m args below meth c H locs cells slots Q (F0 m (pc + 3) ls (rest))) : W p l e R s m args below meth c H locs cells slots Q (F0 m (pc) ls (.int (iI b) :: .int (iI a) :: rest)) := x_icmp_le X hr ht hdg (fun q => absurd h (by omega)) (fun _ => k)
theorem x_icmp_eq (X : XX p m c cc nL s args Ts own D cs) {a b off : Int} {tgt : Nat} (hr : -2147483648 ≤ a ∧ a < 2147483648 ∧ -2147483648 ≤ b ∧ b < 2147483648) (ht : (pc : Int) + off = (tgt : Int)) (hdg : decode cc pc = .ok (.if_icmp .eq off, 3)) (kt : a = b → W p l e R s m args below meth c H locs cells slots Q (F0 m (tgt) ls (rest))) (kf : a ≠ b → W p l e R s m args below meth c H locs cells slots Q (F0 m (pc + 3) ls (rest))) : W p l e R s m args below meth c H locs cells slots Q (F0 m (pc) ls (.int (iI b) :: .int (iI a) :: rest)) := by
  have ha := And.intro hr.1 hr.2.1
  have hb := hr.2.2
  exact lv_icmp_eq X.1.1 X.1.2.1 hdg ht (fun h => kt ((iI_eq ha hb).mp h)) (fun h => kf fun q => h ((iI_eq ha hb).mpr q))
theorem x_if_eq (X : XX p m c cc nL s args Ts own D cs) {a off : Int} {tgt : Nat} (ha : -2147483648 ≤ a ∧ a < 2147483648) (ht : (pc : Int) + off = (tgt : Int)) (hdg : decode cc pc = .ok (.ifCond .eq off, 3)) (kt : a = 0 → W p l e R s m args below meth c H locs cells slots Q (F0 m (tgt) ls (rest))) (kf : a ≠ 0 → W p l e R s m args below meth c H locs cells slots Q (F0 m (pc + 3) ls (rest))) : W p l e R s m args below meth c H locs cells slots Q (F0 m (pc) ls (.int (iI a) :: rest)) := by
  have hb : -2147483648 ≤ (0 : Int) ∧ (0 : Int) < 2147483648 := by decide
  refine lv_if_eq X.1.1 X.1.2.1 hdg ht ?_ ?_
  · rw [iI_0]; exact fun h => kt ((iI_eq ha hb).mp h)
  · rw [iI_0]; exact fun h => kf fun q => h ((iI_eq ha hb).mpr q)
theorem x_ifT_eq (X : XX p m c cc nL s args Ts own D cs) {a off : Int} {tgt : Nat} (ha : -2147483648 ≤ a ∧ a < 2147483648) (h : a = 0) (ht : (pc : Int) + off = (tgt : Int)) (hdg : decode cc pc = .ok (.ifCond .eq off, 3)) (k : W p l e R s m args below meth c H locs cells slots Q (F0 m (tgt) ls (rest))) : W p l e R s m args below meth c H locs cells slots Q (F0 m (pc) ls (.int (iI a) :: rest)) := x_if_eq X ha ht hdg (fun _ => k) (fun q => absurd h (by omega))
theorem x_ifF_eq (X : XX p m c cc nL s args Ts own D cs) {a off : Int} {tgt : Nat} (ha : -2147483648 ≤ a ∧ a < 2147483648) (h : a ≠ 0) (ht : (pc : Int) + off = (tgt : Int)) (hdg : decode cc pc = .ok (.ifCond .eq off, 3)) (k : W p l e R s m args below meth c H locs cells slots Q (F0 m (pc + 3) ls (rest))) : W p l e R s m args below meth c H locs cells slots Q (F0 m (pc) ls (.int (iI a) :: rest)) := x_if_eq X ha ht hdg (fun q => absurd h (by omega)) (fun _ => k)
theorem x_icmpT_eq (X : XX p m c cc nL s args Ts own D cs) {a b off : Int} {tgt : Nat} (hr : -2147483648 ≤ a ∧ a < 2147483648 ∧ -2147483648 ≤ b ∧ b < 2147483648) (h : a = b) (ht : (pc : Int) + off = (tgt : Int)) (hdg : decode cc pc = .ok (.if_icmp .eq off, 3)) (k : W p l e R s m args below meth c H locs cells slots Q (F0 m (tgt) ls (rest))) : W p l e R s m args below meth c H locs cells slots Q (F0 m (pc) ls (.int (iI b) :: .int (iI a) :: rest)) := x_icmp_eq X hr ht hdg (fun _ => k) (fun q => absurd h (by omega))
theorem x_icmpF_eq (X : XX p m c cc nL s args Ts own D cs) {a b off : Int} {tgt : Nat} (hr : -2147483648 ≤ a ∧ a < 2147483648 ∧ -2147483648 ≤ b ∧ b < 2147483648) (h : a ≠ b) (ht : (pc : Int) + off = (tgt : Int)) (hdg : decode cc pc = .ok (.if_icmp .eq off, 3)) (k : W p l e R s m args below meth c H locs cells slots Q (F0 m (pc + 3) ls (rest))) : W p l e R s m args below meth c H locs cells slots Q (F0 m (pc) ls (.int (iI b) :: .int (iI a) :: rest)) := x_icmp_eq X hr ht hdg (fun q => absurd h (by omega)) (fun _ => k)
theorem x_icmp_ne (X : XX p m c cc nL s args Ts own D cs) {a b off : Int} {tgt : Nat} (hr : -2147483648 ≤ a ∧ a < 2147483648 ∧ -2147483648 ≤ b ∧ b < 2147483648) (ht : (pc : Int) + off = (tgt : Int)) (hdg : decode cc pc = .ok (.if_icmp .ne off, 3)) (kt : a ≠ b → W p l e R s m args below meth c H locs cells slots Q (F0 m (tgt) ls (rest))) (kf : a = b → W p l e R s m args below meth c H locs cells slots Q (F0 m (pc + 3) ls (rest))) : W p l e R s m args below meth c H locs cells slots Q (F0 m (pc) ls (.int (iI b) :: .int (iI a) :: rest)) := by
  have ha := And.intro hr.1 hr.2.1
  have hb := hr.2.2
  exact lv_icmp_ne X.1.1 X.1.2.1 hdg ht (fun h => kt fun q => h ((iI_eq ha hb).mpr q)) (fun h => kf ((iI_eq ha hb).mp h))
theorem x_if_ne (X : XX p m c cc nL s args Ts own D cs) {a off : Int} {tgt : Nat} (ha : -2147483648 ≤ a ∧ a < 2147483648) (ht : (pc : Int) + off = (tgt : Int)) (hdg : decode cc pc = .ok (.ifCond .ne off, 3)) (kt : a ≠ 0 → W p l e R s m args below meth c H locs cells slots Q (F0 m (tgt) ls (rest))) (kf : a = 0 → W p l e R s m args below meth c H locs cells slots Q (F0 m (pc + 3) ls (rest))) : W p l e R s m args below meth c H locs cells slots Q (F0 m (pc) ls (.int (iI a) :: rest)) := by
  have hb : -2147483648 ≤ (0 : Int) ∧ (0 : Int) < 2147483648 := by decide
  refine lv_if_ne X.1.1 X.1.2.1 hdg ht ?_ ?_
  · rw [iI_0]; exact fun h => kt fun q => h ((iI_eq ha hb).mpr q)
  · rw [iI_0]; exact fun h => kf ((iI_eq ha hb).mp h)
theorem x_ifT_ne (X : XX p m c cc nL s args Ts own D cs) {a off : Int} {tgt : Nat} (ha : -2147483648 ≤ a ∧ a < 2147483648) (h : a ≠ 0) (ht : (pc : Int) + off = (tgt : Int)) (hdg : decode cc pc = .ok (.ifCond .ne off, 3)) (k : W p l e R s m args below meth c H locs cells slots Q (F0 m (tgt) ls (rest))) : W p l e R s m args below meth c H locs cells slots Q (F0 m (pc) ls (.int (iI a) :: rest)) := x_if_ne X ha ht hdg (fun _ => k) (fun q => absurd h (by omega))
theorem x_ifF_ne (X : XX p m c cc nL s args Ts own D cs) {a off : Int} {tgt : Nat} (ha : -2147483648 ≤ a ∧ a < 2147483648) (h : a = 0) (ht : (pc : Int) + off = (tgt : Int)) (hdg : decode cc pc = .ok (.ifCond .ne off, 3)) (k : W p l e R s m args below meth c H locs cells slots Q (F0 m (pc + 3) ls (rest))) : W p l e R s m args below meth c H locs cells slots Q (F0 m (pc) ls (.int (iI a) :: rest)) := x_if_ne X ha ht hdg (fun q => absurd h (by omega)) (fun _ => k)
theorem x_icmpT_ne (X : XX p m c cc nL s args Ts own D cs) {a b off : Int} {tgt : Nat} (hr : -2147483648 ≤ a ∧ a < 2147483648 ∧ -2147483648 ≤ b ∧ b < 2147483648) (h : a ≠ b) (ht : (pc : Int) + off = (tgt : Int)) (hdg : decode cc pc = .ok (.if_icmp .ne off, 3)) (k : W p l e R s m args below meth c H locs cells slots Q (F0 m (tgt) ls (rest))) : W p l e R s m args below meth c H locs cells slots Q (F0 m (pc) ls (.int (iI b) :: .int (iI a) :: rest)) := x_icmp_ne X hr ht hdg (fun _ => k) (fun q => absurd h (by omega))
theorem x_icmpF_ne (X : XX p m c cc nL s args Ts own D cs) {a b off : Int} {tgt : Nat} (hr : -2147483648 ≤ a ∧ a < 2147483648 ∧ -2147483648 ≤ b ∧ b < 2147483648) (h : a = b) (ht : (pc : Int) + off = (tgt : Int)) (hdg : decode cc pc = .ok (.if_icmp .ne off, 3)) (k : W p l e R s m args below meth c H locs cells slots Q (F0 m (pc + 3) ls (rest))) : W p l e R s m args below meth c H locs cells slots Q (F0 m (pc) ls (.int (iI b) :: .int (iI a) :: rest)) := x_icmp_ne X hr ht hdg (fun q => absurd h (by omega)) (fun _ => k)
theorem x_ifnull_r (X : XX p m c cc nL s args Ts own D cs) {v : Nat} {off : Int} (hdg : decode cc pc = .ok (.ifnull off, 3)) (k : W p l e R s m args below meth c H locs cells slots Q (F0 m (pc + 3) ls (rest))) : W p l e R s m args below meth c H locs cells slots Q (F0 m (pc) ls (.ref v :: rest)) := lv_ifnull X.1.1 X.1.2.1 hdg k
theorem x_ifnull_n (X : XX p m c cc nL s args Ts own D cs) {off : Int} {tgt : Nat} (ht : (pc : Int) + off = (tgt : Int)) (hdg : decode cc pc = .ok (.ifnull off, 3)) (k : W p l e R s m args below meth c H locs cells slots Q (F0 m (tgt) ls (rest))) : W p l e R s m args below meth c H locs cells slots Q (F0 m (pc) ls (.null :: rest)) := lv_ifnullN X.1.1 X.1.2.1 hdg ht k
theorem x_ifnonnull_r (X : XX p m c cc nL s args Ts own D cs) {v : Nat} {off : Int} {tgt : Nat} (ht : (pc : Int) + off = (tgt : Int)) (hdg : decode cc pc = .ok (.ifnonnull off, 3)) (k : W p l e R s m args below meth c H locs cells slots Q (F0 m (tgt) ls (rest))) : W p l e R s m args below meth c H locs cells slots Q (F0 m (pc) ls (.ref v :: rest)) := lv_ifnonnull X.1.1 X.1.2.1 hdg ht k
theorem x_ifnonnull_n (X : XX p m c cc nL s args Ts own D cs) {off : Int} (hdg : decode cc pc = .ok (.ifnonnull off, 3)) (k : W p l e R s m args below meth c H locs cells slots Q (F0 m (pc + 3) ls (rest))) : W p l e R s m args below meth c H locs cells slots Q (F0 m (pc) ls (.null :: rest)) := lv_ifnonnullN X.1.1 X.1.2.1 hdg k
theorem xw_at (hf9 : f = f) {a : Nat} {e9 : va_E} (ha : a ∈ L) (hf : f a = e9) : ∃ q : Nat, (va_pl L f)[q]? = some (a, e9) := by
  obtain ⟨q, hq⟩ := va_pl_get (X := []) (f := f) ha
  rw [List.nil_append, hf] at hq
  exact ⟨q, hq⟩
theorem xw_set {a q : Nat} {e0 e1 : va_E} (hD : va_D A (va_pl L f)) (ha : a ∈ L) (hf : f a = e0) (hq : (va_pl L f)[q]? = some (a, e0)) : (va_pl L f).set q (a, e1) = va_pl L (va_up f a e1) := by
  have h := va_pl_set (X := []) (e := e1) (k := q) (by rw [List.nil_append]; exact hD) ha (by rw [List.nil_append, hf]; exact hq)
  rw [List.nil_append, List.nil_append] at h
  exact h
theorem x_get (X : XX p m c cc nL s args Ts own D cs) (w : XW D A H0 L f H locs) {a ci k index : Nat} {fs : List Value} {v : Value} (ha : a ∈ L) (hf : f a = .inr (ci, fs)) (hx : XF Ts own index ci k) (hv : fs[k]? = some v) (hdg : decode cc pc = .ok (.getfield index, 3)) (kk : W p l e R s m args below meth c H locs cells slots Q (F0 m (pc + 3) ls (v :: rest))) : W p l e R s m args below meth c H locs cells slots Q (F0 m (pc) ls (.ref a :: rest)) := by
  obtain ⟨q, hq⟩ := xw_at rfl ha hf
  obtain ⟨C, T, N, h1, h2, h3, h4⟩ := hx
  exact va_get X.1.1 X.1.2.1 X.1.2.2.2.2 h1 X.1.2.2.2.1 X.2 w.1 q hq h2 k h3 (X.1.2.2.2.2 _ h4) (fun _ h => h) hv hdg kk
theorem x_put (X : XX p m c cc nL s args Ts own D cs) (w : XW D A H0 L f H locs) {a ci k index : Nat} {fs fs1 : List Value} {v : Value} {ty : FieldType} (ha : a ∈ L) (hf : f a = .inr (ci, fs)) (hx : XGn Ts own index ci k ty) (hn : narrow ty v = v) (hfit : fits ty v = true) (hl : k < fs.length) (h1 : fs.set k v = fs1) (hdg : decode cc pc = .ok (.putfield index, 3)) (kk : ∀ (H1 : Heap) (locs1 : List Loc), XW D A H0 L (va_up f a (.inr (ci, fs1))) H1 locs1 → W p l e R s m args below meth c H1 locs1 cells slots Q (F0 m (pc + 3) ls (rest))) : W p l e R s m args below meth c H locs cells slots Q (F0 m (pc) ls (v :: .ref a :: rest)) := by
  subst h1
  obtain ⟨q, hq⟩ := xw_at rfl ha hf
  obtain ⟨C, T, N, t0, h1, h2, h3, h4, h5, h6, h7, h9⟩ := hx
  refine va_put X.1.1 X.1.2.1 X.1.2.2.2.2 h1 t0 h5 h6 X.1.2.2.2.1 X.2 w.1 w.2.1 w.2.2 q hq h2 k h3 (X.1.2.2.2.2 _ h4) (fun _ h => h) h7 h9 hn hfit hl hdg (fun H1 locs1 hP hD hS => ?_)
  rw [xw_set w.2.1 ha hf hq] at hP hD
  exact kk H1 locs1 ⟨hP, hD, hS⟩
theorem x_putF (X : XX p m c cc nL s args Ts own D cs) (w : XW D A H0 L f H locs) {a ci k index : Nat} {fs fs1 : List Value} {v : Value} {ty : FieldType} (ha : a ∈ L) (hf : f a = .inr (ci, fs)) (hx : XG Ts own index ci k true ty) (hin : meth.name = "<init>") (hn : narrow ty v = v) (hfit : fits ty v = true) (hl : k < fs.length) (h1 : fs.set k v = fs1) (hdg : decode cc pc = .ok (.putfield index, 3)) (kk : ∀ (H1 : Heap) (locs1 : List Loc), XW D A H0 L (va_up f a (.inr (ci, fs1))) H1 locs1 → W p l e R s m args below meth c H1 locs1 cells slots Q (F0 m (pc + 3) ls (rest))) : W p l e R s m args below meth c H locs cells slots Q (F0 m (pc) ls (v :: .ref a :: rest)) := by
  subst h1
  obtain ⟨q, hq⟩ := xw_at rfl ha hf
  obtain ⟨C, T, N, t0, h1, h2, h3, h4, h5, h6, h7, h8, h9⟩ := hx
  refine va_putF X.1.1 X.1.2.1 X.1.2.2.2.2 h1 t0 h5 h6 X.1.2.2.2.1 X.2 w.1 w.2.1 w.2.2 q hq h2 k h3 (X.1.2.2.2.2 _ h4) (fun _ h => h) h7 hin h8 h9 hn hfit hl hdg (fun H1 locs1 hP hD hS => ?_)
  rw [xw_set w.2.1 ha hf hq] at hP hD
  exact kk H1 locs1 ⟨hP, hD, hS⟩
theorem x_iald (X : XX p m c cc nL s args Ts own D cs) (w : XW D A H0 L f H locs) {a n : Nat} {i : Int} {g : Int → Int} (ha : a ∈ L) (hf : f a = .inl (cs.1, n, .inl (aI g))) (hi : 0 ≤ i ∧ i < (n : Int) ∧ n ≤ 1000000) (hdg : decode cc pc = .ok (.iaload, 1)) (kk : W p l e R s m args below meth c H locs cells slots Q (F0 m (pc + 1) ls (.int (iI (g i)) :: rest))) : W p l e R s m args below meth c H locs cells slots Q (F0 m (pc) ls (.int (iI i) :: .ref a :: rest)) := by
  obtain ⟨q, hq⟩ := xw_at rfl ha hf
  refine va_iald X.1.1 X.1.2.1 X.2 w.1 q 0 hq rfl (iI_in ⟨hi.1, hi.2.1⟩ hi.2.2) hdg ?_
  show W p l e R s m args below meth c H locs cells slots Q (F0 m (pc + 1) ls (.int (iI (g ((iI i).toNatClampNeg : Int))) :: rest))
  rw [iI_nat (by omega)]
  exact kk
theorem x_iast (X : XX p m c cc nL s args Ts own D cs) (w : XW D A H0 L f H locs) {a n : Nat} {i v : Int} {g : Int → Int} (ha : a ∈ L) (hf : f a = .inl (cs.1, n, .inl (aI g))) (hi : 0 ≤ i ∧ i < (n : Int) ∧ n ≤ 1000000) (hdg : decode cc pc = .ok (.iastore, 1)) (kk : ∀ (H1 : Heap) (locs1 : List Loc), XW D A H0 L (va_up f a (.inl (cs.1, n, .inl (aI (uI g i v))))) H1 locs1 → W p l e R s m args below meth c H1 locs1 cells slots Q (F0 m (pc + 1) ls (rest))) : W p l e R s m args below meth c H locs cells slots Q (F0 m (pc) ls (.int (iI v) :: .int (iI i) :: .ref a :: rest)) := by
  obtain ⟨q, hq⟩ := xw_at rfl ha hf
  refine va_iast X.1.1 X.1.2.1 X.2 w.1 w.2.1 w.2.2 q 0 hq rfl (iI_in ⟨hi.1, hi.2.1⟩ hi.2.2) hdg (fun H1 locs1 hP hD hS => ?_)
  rw [xw_set w.2.1 ha hf hq, aI_u (by omega)] at hP hD
  exact kk H1 locs1 ⟨hP, hD, hS⟩
theorem x_aald (X : XX p m c cc nL s args Ts own D cs) (w : XW D A H0 L f H locs) {a n : Nat} {i : Int} {g : Int → Option Nat} (ha : a ∈ L) (hf : f a = .inl (cs.2.1, n, .inr (.inr (.inr (.inr (aR g)))))) (hi : 0 ≤ i ∧ i < (n : Int) ∧ n ≤ 1000000) (hdg : decode cc pc = .ok (.aaload, 1)) (kk : W p l e R s m args below meth c H locs cells slots Q (F0 m (pc + 1) ls (va_rf (g i) :: rest))) : W p l e R s m args below meth c H locs cells slots Q (F0 m (pc) ls (.int (iI i) :: .ref a :: rest)) := by
  obtain ⟨q, hq⟩ := xw_at rfl ha hf
  refine va_aldq X.1.1 X.1.2.1 X.2 w.1 q 1 hq rfl (iI_in ⟨hi.1, hi.2.1⟩ hi.2.2) hdg ?_
  show W p l e R s m args below meth c H locs cells slots Q (F0 m (pc + 1) ls (va_rf (g ((iI i).toNatClampNeg : Int)) :: rest))
  rw [iI_nat (by omega)]
  exact kk
theorem x_aast (X : XX p m c cc nL s args Ts own D cs) (w : XW D A H0 L f H locs) {a n v : Nat} {i : Int} {g : Int → Option Nat} {vs : List Value} (ha : a ∈ L) (hf : f a = .inl (cs.2.1, n, .inr (.inr (.inr (.inr (aR g)))))) (hv : v ∈ L) (hfv : f v = .inr (0, vs)) (hi : 0 ≤ i ∧ i < (n : Int) ∧ n ≤ 1000000) (hdg : decode cc pc = .ok (.aastore, 1)) (kk : ∀ (H1 : Heap) (locs1 : List Loc), XW D A H0 L (va_up f a (.inl (cs.2.1, n, .inr (.inr (.inr (.inr (aR (uI g i (some v))))))))) H1 locs1 → W p l e R s m args below meth c H1 locs1 cells slots Q (F0 m (pc + 1) ls (rest))) : W p l e R s m args below meth c H locs cells slots Q (F0 m (pc) ls (.ref v :: .int (iI i) :: .ref a :: rest)) := by
  obtain ⟨q, hq⟩ := xw_at rfl ha hf
  obtain ⟨qv, hqv⟩ := xw_at rfl hv hfv
  refine va_astq X.1.1 X.1.2.1 X.2 w.1 w.2.1 w.2.2 q 1 qv 0 (r := (RX0, TX0, 5)) hq rfl hqv rfl (iI_in ⟨hi.1, hi.2.1⟩ hi.2.2) hdg (fun H1 locs1 hP hD hS => ?_)
  rw [xw_set w.2.1 ha hf hq, aR_u (by omega)] at hP hD
  exact kk H1 locs1 ⟨hP, hD, hS⟩
theorem x_aastN (X : XX p m c cc nL s args Ts own D cs) (w : XW D A H0 L f H locs) {a n : Nat} {i : Int} {g : Int → Option Nat} (ha : a ∈ L) (hf : f a = .inl (cs.2.1, n, .inr (.inr (.inr (.inr (aR g)))))) (hi : 0 ≤ i ∧ i < (n : Int) ∧ n ≤ 1000000) (hdg : decode cc pc = .ok (.aastore, 1)) (kk : ∀ (H1 : Heap) (locs1 : List Loc), XW D A H0 L (va_up f a (.inl (cs.2.1, n, .inr (.inr (.inr (.inr (aR (uI g i none)))))))) H1 locs1 → W p l e R s m args below meth c H1 locs1 cells slots Q (F0 m (pc + 1) ls (rest))) : W p l e R s m args below meth c H locs cells slots Q (F0 m (pc) ls (.null :: .int (iI i) :: .ref a :: rest)) := by
  obtain ⟨q, hq⟩ := xw_at rfl ha hf
  refine va_astqN (C := RX0) X.1.1 X.1.2.1 X.2 w.1 w.2.1 w.2.2 q 1 hq rfl (iI_in ⟨hi.1, hi.2.1⟩ hi.2.2) hdg (fun H1 locs1 hP hD hS => ?_)
  rw [xw_set w.2.1 ha hf hq, aR_u (by omega)] at hP hD
  exact kk H1 locs1 ⟨hP, hD, hS⟩
theorem x_alenI (X : XX p m c cc nL s args Ts own D cs) (w : XW D A H0 L f H locs) {a n : Nat} {g : Nat → Int32} (ha : a ∈ L) (hf : f a = .inl (cs.1, n, .inl g)) (hdg : decode cc pc = .ok (.arraylength, 1)) (kk : W p l e R s m args below meth c H locs cells slots Q (F0 m (pc + 1) ls (.int (iI (n : Int)) :: rest))) : W p l e R s m args below meth c H locs cells slots Q (F0 m (pc) ls (.ref a :: rest)) := by
  obtain ⟨q, hq⟩ := xw_at rfl ha hf
  exact va_alen X.1.1 X.1.2.1 X.2 w.1 q 0 hq rfl (v := iI (n : Int)) Int32.ofInt_eq_ofNat.symm hdg kk
theorem x_alenR (X : XX p m c cc nL s args Ts own D cs) (w : XW D A H0 L f H locs) {a n : Nat} {g : Nat → Option Nat} (ha : a ∈ L) (hf : f a = .inl (cs.2.1, n, .inr (.inr (.inr (.inr g))))) (hdg : decode cc pc = .ok (.arraylength, 1)) (kk : W p l e R s m args below meth c H locs cells slots Q (F0 m (pc + 1) ls (.int (iI (n : Int)) :: rest))) : W p l e R s m args below meth c H locs cells slots Q (F0 m (pc) ls (.ref a :: rest)) := by
  obtain ⟨q, hq⟩ := xw_at rfl ha hf
  exact va_alen X.1.1 X.1.2.1 X.2 w.1 q 1 hq rfl (v := iI (n : Int)) Int32.ofInt_eq_ofNat.symm hdg kk
end XROWS
end
section
section XCALLS
variable {p : Program} {l : Launch} {e : Env} {R : Room} {s : State} {m : MethodId} {args : Array Value} {below : List Frame} {meth : Method} {c : Code} {H : Heap} {locs : List Loc} {cells slots c1 s1 : Nat} {Q : State → Prop}
variable {cc : ByteArray} {nL pc : Nat} {ls : Array Slot} {rest st : List Value} {Ts : List Cond} {own : String} {D : va_G} {cs : ClassId × ClassId × ClassId} {A : Nat → Prop} {H0 : Heap} {L : List Nat} {f : Nat → va_E} {lv lv' : List (Nat × Value)}
variable {y : MethodName} {ws : List Cond} {bytes : ByteArray} {maxL : Nat} {ret : Option FieldType} {rm : Room} {index n : Nat} {As : List Value} {post : Option Value → List Nat → (Nat → va_E) → Prop}

theorem va_callG {S : Type} {post : Option Value → S → Prop} {B : S → State → Prop} {A0 A1 : Nat → Prop} {a : Array Value} {mc ms : Nat} {free : Addr → Prop} (hr : va_Run p l e R s m args below meth c H locs cells slots mc ms (F0 m pc ls st) rest (va_QG post B A1 a) free) (hS : va_S A0 H0 H locs) (hA : ∀ q, q < H.size → A1 q → A0 q) (hf : ∀ q, free q → A0 q)
    (kk : ∀ (v : Option Value) (u : S) (t : State) (H1 : Heap) (locs1 : List Loc), t.heap = H1 → s.vm.Alike t.vm → post v u → B u t → H.size ≤ H1.size → va_S A0 H0 H1 locs1 → W p l e R s m args below meth c H1 locs1 (cells + mc) (slots + ms) Q (F0 m (pc + 3) ls (v.toList ++ rest))) : W p l e R s m args below meth c H locs cells slots Q (F0 m pc ls st) := by
  intro T hT X
  obtain ⟨v, st₀, t, T', L, h0, X', hL, e1, e2, ⟨⟨v', u, hv, hp, hb⟩, hz, hk⟩, st⟩ := hr T hT X
  cases hv
  rw [h0] at hz hk
  obtain ⟨t2, a1, b1⟩ := kk v u t T'.heap (locs ++ L) e1.symm (by rw [← e2]; exact X'.warmed.alike) hp hb (by rw [e1]; exact hz)
    ⟨Nat.le_trans hS.1 (by rw [e1]; exact hz), fun q h1 h2 => by rw [e1, hk q (Nat.lt_of_lt_of_le h1 hS.1) (fun z => h2 (hA q (Nat.lt_of_lt_of_le h1 hS.1) z))]; exact hS.2.1 q h1 h2, fun q hq => by
      rcases List.mem_append.mp hq with h | h
      · exact hS.2.2 q h
      · exact hf _ (hL q h)⟩ T' rfl X'
  exact ⟨t2, st t2 a1, b1⟩
theorem xw_free (w : XW D A H0 L f H locs) (hA : ∀ q, H0.size ≤ q → A q) : ∀ q, va_A (va_pl L f) H.size q → A q := by
  intro q h
  rcases h with ⟨k, e9, h⟩ | h
  · exact w.2.1.2 k _ h
  · exact hA q (Nat.le_trans w.2.2.1 h)
theorem x_run {a : Array Value} (w : XW D A H0 L f H locs) (hA : ∀ q, H0.size ≤ q → A q) (hr : va_Run p l e R s m args below meth c H locs cells slots rm.cells rm.slots (F0 m pc ls st) rest (CQ D cs (va_A (va_pl L f) H.size) post a) (va_A (va_pl L f) H.size)) (hc1 : cells + rm.cells = c1) (hs1 : slots + rm.slots = s1)
    (kk : ∀ (v : Option Value) (L : List Nat) (f : Nat → va_E) (H : Heap) (locs : List Loc), XW D A H0 L f H locs → post v L f → W p l e R s m args below meth c H locs c1 s1 Q (F0 m (pc + 3) ls (v.toList ++ rest))) : W p l e R s m args below meth c H locs cells slots Q (F0 m pc ls st) := by
  subst hc1; subst hs1
  refine va_callG hr w.2.2 (fun q _ h => xw_free w hA q h) (xw_free w hA) (fun v u t H1 locs1 ht hvm hp hB hz hS => ?_)
  obtain ⟨hP1, hK1, hD1⟩ := hB
  rw [ht] at hP1
  exact kk v u.1 u.2 H1 locs1 ⟨hP1, hD1.weaken (fun _ _ _ h => xw_free w hA _ h), hS⟩ hp
theorem x_pre (X : XX p m c cc nL s args Ts own D cs) (w : XW D A H0 L f H locs) {As : List Value} : ∀ U : State, U.heap = H → s.WarmedH U.vm → CP D cs As H.size L f As.toArray U :=
  fun U hU hW => ⟨rfl, by rw [hU], by rw [hU]; exact w.1, va_K.moved hW.alike X.2, w.2.1.weaken (fun _ _ _ _ => trivial)⟩
theorem cp_blind {As : List Value} {sz : Nat} : FrameBlind (CP D cs As sz L f) := fun a U g mk q => by
  obtain ⟨q0, q1, qP, qK, qD⟩ := q
  exact ⟨q0, q1, qP, va_K.moved (u := U) (U := U.calling g mk a) (Vm.Alike.refl U.vm) qK, qD⟩
theorem x_callV {C : String} {b ci : Nat} {fs : List Value} {r : vw_C} (X : XX p m c cc nL s args Ts own D cs) (w : XW D A H0 L f H locs) (hA : ∀ q, H0.size ≤ q → A q) (hC : C0 l y ws rm D cs (.ref b :: As) L f post) (hk : XV Ts own index C y bytes maxL ret ws n) (hR : rm.frames + 1 ≤ R.frames ∧ 8 + (maxL + 11) + rm.locals ≤ R.locals) (hb : b ∈ L) (hf : f b = .inr (ci, fs)) (hc : vwCl[ci]? = some r) (hr : r.1 = C) (hn : As.length = n) (hl : lv_has ls nL lv) (hst : st = As.reverse ++ .ref b :: rest) (hrm : (rest.map fun v => v.category).sum ≤ 8) (hcs : cells + rm.cells ≤ R.cells ∧ slots + rm.slots ≤ R.slots) (hc1 : cells + rm.cells = c1) (hs1 : slots + rm.slots = s1) (hdg : decode cc pc = .ok (.invokevirtual index, 3))
    (kk : ∀ (v : Option Value) (L : List Nat) (f : Nat → va_E) (H : Heap) (locs : List Loc), XW D A H0 L f H locs → post v L f → W p l e R s m args below meth c H locs c1 s1 Q (F0 m (pc + 3) ls (v.toList ++ rest))) : W p l e R s m args below meth c H locs cells slots Q (F0 m pc ls st) := by
  subst hst; subst hr
  obtain ⟨hG, ⟨ws', hw⟩, hd⟩ := hk
  obtain ⟨q, hq⟩ := xw_at rfl hb hf
  exact x_run w hA (va_runV (As := As) (rest := rest) X.1 (hC H.size) (cwV n X.1.2.2.2.2 hG hw rfl rfl hd hR) ⟨cp_blind, va_recv X.2 w.1 hc hq, x_pre X w⟩ rfl hn hl.1 rfl (lv_room hrm) hdg hcs) hc1 hs1 kk
theorem x_callS (X : XX p m c cc nL s args Ts own D cs) (w : XW D A H0 L f H locs) (hA : ∀ q, H0.size ≤ q → A q) (hC : C0 l y ws rm D cs As L f post) (hk : XS Ts own index y bytes maxL ret ws n) (hR : rm.frames + 1 ≤ R.frames ∧ 8 + (maxL + 11) + rm.locals ≤ R.locals) (hn : As.length = n) (hl : lv_has ls nL lv) (hst : st = As.reverse ++ rest) (hrm : (rest.map fun v => v.category).sum ≤ 8) (hcs : cells + rm.cells ≤ R.cells ∧ slots + rm.slots ≤ R.slots) (hc1 : cells + rm.cells = c1) (hs1 : slots + rm.slots = s1) (hdg : decode cc pc = .ok (.invokestatic index, 3))
    (kk : ∀ (v : Option Value) (L : List Nat) (f : Nat → va_E) (H : Heap) (locs : List Loc), XW D A H0 L f H locs → post v L f → W p l e R s m args below meth c H locs c1 s1 Q (F0 m (pc + 3) ls (v.toList ++ rest))) : W p l e R s m args below meth c H locs cells slots Q (F0 m pc ls st) := by
  subst hst
  obtain ⟨hG, ⟨ws', hw⟩, hd⟩ := hk
  exact x_run w hA (va_runS (As := As) (rest := rest) X.1 (hC H.size) (va_cwS n X.1.2.2.2.2 hG hw rfl rfl hd hR) ⟨cp_blind, x_pre X w⟩ rfl hn hl.1 rfl (lv_room hrm) hdg hcs) hc1 hs1 kk
theorem C0.of {ws' : List Cond} {al : List Value} (hy : plainName y.cls = true) (hw : ws = Cond.code y cc maxL ret :: ws') (hlen : (lg_sl al).length ≤ maxL)
    (body : ∀ (p : Program) (e : Env) (s : State) (m : MethodId) (below : List Frame) (meth : Method) (c : Code), XX p m c cc maxL s al.toArray ws y.cls D cs → meth.sig.returnType = ret → meth.locks = false → meth.name = y.name → ∀ (A : Nat → Prop), (∀ q, s.heap.size ≤ q → A q) → XW D A s.heap L f s.heap [] → ∀ ls, lv_has ls maxL (lv_args 0 al) → W p l e rm s m al.toArray below meth c s.heap [] 0 0 (MQ below (CQ D cs A post) al.toArray s rm.cells rm.slots A) (F0 m 0 ls [])) : C0 l y ws rm D cs al L f post := by
  intro sz
  refine Met.ofW (cc := cc) (maxL := maxL) (ret := ret) hy hw ?_
  intro p e s m args' below meth c s₁ B hml hv
  obtain ⟨rfl, hsz, hP, hK, hD0⟩ := hv
  have hts := atoms_spec (ws := ws) B.pre
  have hown := findClass_of_methodNamed B.named
  subst hsz
  rw [lg_entry_eq]
  exact body p e s m below meth c ⟨⟨B.exec, B.bytes, hml, hown, hts⟩, hK⟩ B.returns B.notSynchronized (name_of_methodNamed B.named B.method).1 _ (fun q h => Or.inr h) ⟨hP, hD0.self, va_S.rf⟩ _ (lv_entry al hlen)
theorem x_iret {z : Int} {mc ms : Nat} (X : XX p m c cc nL s args Ts own D cs) (w : XW D A s.heap L f H locs) (hr : meth.sig.returnType = some .int) (hlk : meth.locks = false) (hcs : cells ≤ mc ∧ slots ≤ ms) (hdg : decode cc pc = .ok (.ireturn, 1)) (hp : post (some (.int (iI z))) L f) : W p l e R s m args below meth c H locs cells slots (MQ below (CQ D cs A post) args s mc ms A) (F0 m pc ls [.int (iI z)]) :=
  W.widen hcs.1 hcs.2 (W.iret X.1.1 X.1.2.1 hr (fun t ht hW => ⟨⟨_, (L, f), rfl, hp, by rw [ht]; exact w.1, va_K.moved hW.alike X.2, w.2.1⟩, w.2.2.F ht⟩) w.2.2.2.2 hdg hlk)
theorem x_zret {z : Int} {mc ms : Nat} (X : XX p m c cc nL s args Ts own D cs) (w : XW D A s.heap L f H locs) (hr : meth.sig.returnType = some .boolean) (hlk : meth.locks = false) (hcs : cells ≤ mc ∧ slots ≤ ms) (hz : z = 0 ∨ z = 1) (hdg : decode cc pc = .ok (.ireturn, 1)) (hp : post (some (.int (iI z))) L f) : W p l e R s m args below meth c H locs cells slots (MQ below (CQ D cs A post) args s mc ms A) (F0 m pc ls [.int (iI z)]) :=
  W.widen hcs.1 hcs.2 (W.zret X.1.1 X.1.2.1 hr (by rcases hz with rfl | rfl <;> rfl) (fun t ht hW => ⟨⟨_, (L, f), rfl, hp, by rw [ht]; exact w.1, va_K.moved hW.alike X.2, w.2.1⟩, w.2.2.F ht⟩) w.2.2.2.2 hdg hlk)
theorem x_vret {mc ms : Nat} (X : XX p m c cc nL s args Ts own D cs) (w : XW D A s.heap L f H locs) (hr : meth.sig.returnType = none) (hlk : meth.locks = false) (hcs : cells ≤ mc ∧ slots ≤ ms) (hdg : decode cc pc = .ok (.return_, 1)) (hp : post none L f) : W p l e R s m args below meth c H locs cells slots (MQ below (CQ D cs A post) args s mc ms A) (F0 m pc ls []) :=
  W.widen hcs.1 hcs.2 (W.vret X.1.1 X.1.2.1 hr (fun t ht hW => ⟨⟨_, (L, f), rfl, hp, by rw [ht]; exact w.1, va_K.moved hW.alike X.2, w.2.1⟩, w.2.2.F ht⟩) w.2.2.2.2 hdg hlk)
theorem x_nret {C : String} {o : Option Nat} {mc ms : Nat} (X : XX p m c cc nL s args Ts own D cs) (w : XW D A s.heap L f H locs) (hr : meth.sig.returnType = some (.object C)) (hlk : meth.locks = false) (hcs : cells ≤ mc ∧ slots ≤ ms) (hdg : decode cc pc = .ok (.areturn, 1)) (hp : post (some (va_rf o)) L f) : W p l e R s m args below meth c H locs cells slots (MQ below (CQ D cs A post) args s mc ms A) (F0 m pc ls [va_rf o]) :=
  W.widen hcs.1 hcs.2 (W.aret X.1.1 X.1.2.1 hr (Or.inl ⟨_, rfl⟩) (by cases o; exact Or.inl rfl; exact Or.inr ⟨_, rfl⟩) (fun t ht hW => ⟨⟨_, (L, f), rfl, hp, by rw [ht]; exact w.1, va_K.moved hW.alike X.2, w.2.1⟩, w.2.2.F ht⟩) w.2.2.2.2 hdg hlk)
end XCALLS
/-! pictures: the row of pages, the row of records -/
def RR (cs : ClassId × ClassId × ClassId) (L : List Nat) (f : Nat → va_E) (pr sz : Nat) (k : Int) (z : Int → Int) : Prop := pr ∈ L ∧ sz ∈ L ∧ f pr = .inr (2, [.ref sz, .int (iI k)]) ∧ f sz = .inl (cs.1, 80, .inl (aI z))
def FR (f0 f : Nat → va_E) (p q : Nat) : Prop := ∀ a, a ≠ p → a ≠ q → f a = f0 a
theorem FR.rf (f : Nat → va_E) (p q : Nat) : FR f f p q := fun _ _ _ => rfl
theorem FR.up1 {f0 f : Nat → va_E} {p q : Nat} {e : va_E} (h : FR f0 f p q) : FR f0 (va_up f p e) p q := fun a h1 h2 => (va_up_ne f e h1).trans (h a h1 h2)
theorem FR.up2 {f0 f : Nat → va_E} {p q : Nat} {e : va_E} (h : FR f0 f p q) : FR f0 (va_up f q e) p q := fun a h1 h2 => (va_up_ne f e h2).trans (h a h1 h2)
theorem FR.tr {f0 f1 f2 : Nat → va_E} {p q : Nat} (h : FR f0 f1 p q) (g : FR f1 f2 p q) : FR f0 f2 p q := fun a h1 h2 => (g a h1 h2).trans (h a h1 h2)
section RRS
variable {cs : ClassId × ClassId × ClassId} {L : List Nat} {f : Nat → va_E} {pr sz : Nat} {k : Int} {z : Int → Int}
theorem RR.mp (h : RR cs L f pr sz k z) : pr ∈ L := h.1
theorem RR.ms (h : RR cs L f pr sz k z) : sz ∈ L := h.2.1
theorem RR.fp (h : RR cs L f pr sz k z) : f pr = .inr (2, [.ref sz, .int (iI k)]) := h.2.2.1
theorem RR.fs (h : RR cs L f pr sz k z) : f sz = .inl (cs.1, 80, .inl (aI z)) := h.2.2.2
theorem RR.ne (h : RR cs L f pr sz k z) : pr ≠ sz := fun q => by have h1 := h.fp; have h2 := h.fs; rw [q, h2] at h1; cases h1
theorem RR.cnt (h : RR cs L f pr sz k z) (k' : Int) : RR cs L (va_up f pr (.inr (2, [.ref sz, .int (iI k')]))) pr sz k' z := ⟨h.1, h.2.1, va_up_self _ _ _, (va_up_ne f _ h.ne.symm).trans h.fs⟩
theorem RR.row (h : RR cs L f pr sz k z) (z' : Int → Int) : RR cs L (va_up f sz (.inl (cs.1, 80, .inl (aI z')))) pr sz k z' := ⟨h.1, h.2.1, (va_up_ne f _ h.ne).trans h.fp, va_up_self _ _ _⟩
end RRS
def RB (cs : ClassId × ClassId × ClassId) (L : List Nat) (f : Nat → va_E) (br ba : Nat) (n : Int) (r : Int → Option Nat) : Prop := br ∈ L ∧ ba ∈ L ∧ f br = .inr (1, [.ref ba, .int (iI n)]) ∧ f ba = .inl (cs.2.1, 80, .inr (.inr (.inr (.inr (aR r)))))
section RBS
variable {cs : ClassId × ClassId × ClassId} {L : List Nat} {f : Nat → va_E} {br ba : Nat} {n : Int} {r : Int → Option Nat}
theorem RB.mp (h : RB cs L f br ba n r) : br ∈ L := h.1
theorem RB.ms (h : RB cs L f br ba n r) : ba ∈ L := h.2.1
theorem RB.fp (h : RB cs L f br ba n r) : f br = .inr (1, [.ref ba, .int (iI n)]) := h.2.2.1
theorem RB.fs (h : RB cs L f br ba n r) : f ba = .inl (cs.2.1, 80, .inr (.inr (.inr (.inr (aR r))))) := h.2.2.2
theorem RB.ne (h : RB cs L f br ba n r) : br ≠ ba := fun q => by have h1 := h.fp; have h2 := h.fs; rw [q, h2] at h1; cases h1
theorem RB.cnt (h : RB cs L f br ba n r) (n' : Int) : RB cs L (va_up f br (.inr (1, [.ref ba, .int (iI n')]))) br ba n' r := ⟨h.1, h.2.1, va_up_self _ _ _, (va_up_ne f _ h.ne.symm).trans h.fs⟩
theorem RB.row (h : RB cs L f br ba n r) (r' : Int → Option Nat) : RB cs L (va_up f ba (.inl (cs.2.1, 80, .inr (.inr (.inr (.inr (aR r'))))))) br ba n r' := ⟨h.1, h.2.1, (va_up_ne f _ h.ne).trans h.fp, va_up_self _ _ _⟩
end RBS
/-- the records: what stands at each place of the row -/
def bE (nu su ty pd fd : Int) : va_E := .inr (0, [.int (iI nu), .int (iI su), .int (iI ty), .int (iI pd), .int (iI fd)])
def BO (L : List Nat) (f : Nat → va_E) (n : Int) (r : Int → Option Nat) (nu su ty pd fd : Int → Int) : Prop := ∀ j : Int, 0 ≤ j → j < n → ∃ a, r j = some a ∧ a ∈ L ∧ f a = bE (nu j) (su j) (ty j) (pd j) (fd j)
end
