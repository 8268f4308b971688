/-! reading rows that name what is read; methods that throw: contracts, calls, ends -/
section XREADS
variable {p : Program} {l : Launch} {e : Env} {R : Room} {s : State} {m : MethodId} {args : Array Value} {below : List Frame} {meth : Method} {c : Code} {H : Heap} {locs : List Loc} {cells slots : Nat} {Q : State → Prop}
variable {cc : ByteArray} {nL pc : Nat} {ls : Array Slot} {rest : List Value} {Ts : List Cond} {own : String} {D : va_G} {cs : ClassId × ClassId × ClassId} {A : Nat → Prop} {H0 : Heap} {L : List Nat} {f : Nat → va_E} {lv lv' : List (Nat × Value)}
theorem x_ialdv (X : XX p m c cc nL s args Ts own D cs) (w : XW D A H0 L f H locs) {a n : Nat} {i v : Int} {g : Int → Int} (ha : a ∈ L) (hf : f a = .inl (cs.1, n, .inl (aI g))) (hi : 0 ≤ i ∧ i < (n : Int) ∧ n ≤ 1000000) (hv : g i = v) (hdg : decode cc pc = .ok (.iaload, 1)) (kk : W p l e R s m args below meth c H locs cells slots Q (F0 m (pc + 1) ls (.int (iI v) :: rest))) : W p l e R s m args below meth c H locs cells slots Q (F0 m (pc) ls (.int (iI i) :: .ref a :: rest)) := by
  subst hv; exact x_iald X w ha hf hi hdg kk
theorem x_aaldv (X : XX p m c cc nL s args Ts own D cs) (w : XW D A H0 L f H locs) {a n b : Nat} {i : Int} {g : Int → Option Nat} (ha : a ∈ L) (hf : f a = .inl (cs.2.1, n, .inr (.inr (.inr (.inr (aR g)))))) (hi : 0 ≤ i ∧ i < (n : Int) ∧ n ≤ 1000000) (hv : g i = some b) (hdg : decode cc pc = .ok (.aaload, 1)) (kk : W p l e R s m args below meth c H locs cells slots Q (F0 m (pc + 1) ls (.ref b :: rest))) : W p l e R s m args below meth c H locs cells slots Q (F0 m (pc) ls (.int (iI i) :: .ref a :: rest)) := by
  refine x_aald X w ha hf hi hdg ?_
  rw [hv]; exact kk
theorem x_max (X : XX p m c cc nL s args Ts own D cs) (hl : lv_has ls nL lv) {index : Nat} {a b : Int} (hr : -2147483648 ≤ a ∧ a < 2147483648 ∧ -2147483648 ≤ b ∧ b < 2147483648) (h1 : Cond.methodLink own index Lib.Math.max.name ∈ Ts ∧ Cond.static Lib.Math.max.name ∈ Ts ∧ Cond.initialized "java/lang/Math" ∈ Ts ∧ Cond.code Lib.Math.max.name Lib.Math.max.code 2 (some .int) ∈ Ts) (hR : 1 ≤ R.frames ∧ (rest.map fun v => v.category).sum + 13 ≤ R.locals ∧ cells ≤ R.cells ∧ slots ≤ R.slots) (hdg : decode cc pc = .ok (.invokestatic index, 3))
    (kk : W p l e R s m args below meth c H locs cells slots Q (F0 m (pc + 3) ls (.int (iI (if a < b then b else a)) :: rest))) : W p l e R s m args below meth c H locs cells slots Q (F0 m pc ls (.int (iI b) :: .int (iI a) :: rest)) := by
  have ht := X.1.2.2.2.2
  refine va_mmax X.1.1 X.1.2.1 (X.1.2.2.1.trans hl.1.symm) X.1.2.2.2.1 (ht _ h1.1) (ht _ h1.2.1) (ht _ h1.2.2.1) (ht _ h1.2.2.2) hR.1 hR.2.1 hR.2.2.1 hR.2.2.2 hdg ?_
  rw [show (if iI a < iI b then iI b else iI a) = iI (if a < b then b else a) by
    by_cases hq5 : a < b
    · rw [if_pos ((iI_lt ⟨hr.1, hr.2.1⟩ hr.2.2).mpr hq5), if_pos hq5]
    · rw [if_neg (fun hq6 => hq5 ((iI_lt ⟨hr.1, hr.2.1⟩ hr.2.2).mp hq6)), if_neg hq5]]
  exact kk
end XREADS
abbrev XIA : String := "java/lang/IllegalArgumentException"
abbrev XIS : String := "java/lang/IllegalStateException"
abbrev XIO : String := "java/lang/IndexOutOfBoundsException"
abbrev XNM : List String := ["java/lang/RuntimeException", "java/lang/Exception"]
def xdec (U : State) : Prop := va_Nw (.declares (Bundle.initS "java/lang/RuntimeException")) U ∧ va_Nw (.declares (Bundle.initS "java/lang/Exception")) U ∧ va_Nw (.declares (Bundle.initS Bundle.tN)) U
abbrev XNG (cls : String) : List Cond := [Cond.castable cls cls, .declares (Bundle.initS "java/lang/RuntimeException"), .declares (Bundle.initS "java/lang/Exception"), .declares (Bundle.initS Bundle.tN)]
def xstr : List (Nat × String) := [(41, "sum or surety out of range"), (56, "the case has a record, or the register is full"), (92, "no record of the case, or it is forfeited"), (109, "no record of the case, or it is not forfeited"), (111, "sum or day out of range"), (120, "surety out of range"), (128, "days out of range"), (130, "today would be above the last day"), (141, "no such page"), (144, "no such page, or no such place on it"), (155, "a sweep goes on"), (157, "steps out of range"), (159, "no sweep goes on"), (164, "reader out of range"), (166, "case out of range")]
def EV (U : State) : Prop := va_Nw (.castable XIA XIA) U ∧ va_Nw (.castable XIS XIS) U ∧ va_Nw (.castable XIO XIO) U ∧ va_Nc XIS XIA U ∧ xdec U ∧ ∀ q ∈ xstr, ∃ a, vk_R RX3 q.1 q.2 a U
def EZ (A : Nat → Prop) (U : State) (H : Heap) : Prop := vx_Zq Bundle.tN "UNASSIGNED_STACK" Bundle.steD A U H ∧ vx_Zq Bundle.tN "SUPPRESSED_SENTINEL" Bundle.listD A U H
theorem EV.warm {s U : State} (hW : s.WarmedH U.vm) (h : EV s) : EV U :=
  ⟨va_Nw.warmC hW h.1, va_Nw.warmC hW h.2.1, va_Nw.warmC hW h.2.2.1, va_Nc.moved hW.alike h.2.2.2.1, ⟨va_Nw.warmD hW h.2.2.2.2.1.1, va_Nw.warmD hW h.2.2.2.2.1.2.1, va_Nw.warmD hW h.2.2.2.2.1.2.2⟩, fun q hq => (h.2.2.2.2.2 q hq).elim (fun a ha => ⟨a, vk_R.warm hW ha⟩)⟩
def EX (D : va_G) (cs : ClassId × ClassId × ClassId) (A : Nat → Prop) (L : List Nat) (f : Nat → va_E) (px : String → Prop) : String → State → State → Prop := vx_X (fun u : List Nat × (Nat → va_E) => u = (L, f)) (fun E u t => px E ∧ CB D cs A u t) A
def CP1 (D : va_G) (cs : ClassId × ClassId × ClassId) (args : List Value) (sz : Nat) (L : List Nat) (f : Nat → va_E) : Array Value → State → Prop := va_Pc args (fun U => U.heap.size = sz ∧ va_P D vwCl (va_pl L f) U.heap ∧ va_K D vwCl (ty3 cs) U ∧ va_D (fun _ => True) (va_pl L f) ∧ EV U ∧ EZ (va_A (va_pl L f) sz) U U.heap)
/-- a contract of a method that may throw: then the pool is as it was -/
def C1 (l : Launch) (y : MethodName) (ws : List Cond) (rm : Room) (D : va_G) (cs : ClassId × ClassId × ClassId) (args : List Value) (L : List Nat) (f : Nat → va_E) (post : Option Value → List Nat → (Nat → va_E) → Prop) (px : String → Prop) : Prop :=
  ∀ sz : Nat, vx_Met l y ws rm (CP1 D cs args sz L f) (CQ D cs (va_A (va_pl L f) sz) post) (EX D cs (va_A (va_pl L f) sz) L f px) rm.cells rm.slots (va_A (va_pl L f) sz)
def XT (Ts : List Cond) (own : String) (ik is ic : Nat) (cls text : String) : Prop :=
  Cond.classLink own ik cls ∈ Ts ∧ Cond.initialized cls ∈ Ts ∧ (∀ w ∈ (vx_atS own ic cls XNM).filter goodWord, w ∈ Ts) ∧ (cls = XIA ∨ cls = XIS ∨ cls = XIO) ∧ (∀ w ∈ (vx_atS own ic cls XNM).filter (fun w => !goodWord w), w ∈ XNG cls) ∧
  (∀ w ∈ Cond.classLink own ik cls :: Cond.initialized cls :: vx_atS own ic cls XNM, vx_ot w = true) ∧ (is, text) ∈ xstr ∧ own = RX3
section XTHROWS
variable {p : Program} {l : Launch} {e : Env} {R : Room} {s : State} {m : MethodId} {args : Array Value} {below : List Frame} {meth : Method} {c : Code} {H : Heap} {locs : List Loc} {cells slots c1 s1 : Nat} {Q : State → Prop}
variable {cc : ByteArray} {nL pc : Nat} {ls : Array Slot} {rest st : List Value} {Ts : List Cond} {own : String} {D : va_G} {cs : ClassId × ClassId × ClassId} {A : Nat → Prop} {L : List Nat} {f : Nat → va_E} {lv lv' : List (Nat × Value)}
variable {y : MethodName} {ws : List Cond} {bytes : ByteArray} {maxL : Nat} {ret : Option FieldType} {rm : Room} {index n mc ms : Nat} {As : List Value} {post : Option Value → List Nat → (Nat → va_E) → Prop} {px : String → Prop}
theorem ez_at (w : XW D A s.heap L f H locs) (hA : ∀ q, s.heap.size ≤ q → A q) (hZ : EZ A s s.heap) {U : State} (hU : U.heap = H) (hW : s.WarmedH U.vm) : EZ (va_A (va_pl L f) H.size) U U.heap := by
  rw [hU]
  exact ⟨((hZ.1.kept w.2.2.2.1).moved hW.alike).narrow (xw_free w hA), ((hZ.2.kept w.2.2.2.1).moved hW.alike).narrow (xw_free w hA)⟩
theorem x_pre1 (X : XX p m c cc nL s args Ts own D cs) (w : XW D A s.heap L f H locs) (hA : ∀ q, s.heap.size ≤ q → A q) (hV : EV s) (hZ : EZ A s s.heap) {As : List Value} : ∀ U : State, U.heap = H → s.WarmedH U.vm → CP1 D cs As H.size L f As.toArray U :=
  fun U hU hW => ⟨rfl, by rw [hU], by rw [hU]; exact w.1, va_K.moved hW.alike X.2, w.2.1.weaken (fun _ _ _ _ => trivial), EV.warm hW hV, ez_at w hA hZ hU hW⟩
theorem cp_blind1 {As : List Value} {sz : Nat} : FrameBlind (CP1 D cs As sz L f) := fun a U g mk h => by
  obtain ⟨h0, h1, hP, hK, hD, hV, hZ⟩ := h
  exact ⟨h0, h1, hP, va_K.moved (u := U) (U := U.calling g mk a) (Vm.Alike.refl U.vm) hK, hD, EV.warm (s := U) (U := U.calling g mk a) (State.WarmedH.refl U) hV, hZ.1.moved (u := U) (U := U.calling g mk a) (Vm.Alike.refl U.vm), hZ.2.moved (u := U) (U := U.calling g mk a) (Vm.Alike.refl U.vm)⟩
theorem x_run1 {a : Array Value} (w : XW D A s.heap L f H locs) (hA : ∀ q, s.heap.size ≤ q → A q) (hr : vx_Run p l e R s m args below meth c H locs cells slots rm.cells rm.slots (F0 m pc ls st) rest (CQ D cs (va_A (va_pl L f) H.size) post a) (EX D cs (va_A (va_pl L f) H.size) L f px) (va_A (va_pl L f) H.size)) (hc1 : cells + rm.cells = c1) (hs1 : slots + rm.slots = s1)
    (kx : ∀ (E : String) (ce : Cell) (a9 : Addr) (H : Heap) (locs : List Loc), XW D A s.heap L f H locs → px E → H[a9]? = some ce → ce.vm = .none → s.vm.findClass E = some ce.cls → vx_W p l e R s m args below meth c H locs c1 s1 Q (F0 m pc ls rest) a9)
    (kk : ∀ (v : Option Value) (L : List Nat) (f : Nat → va_E) (H : Heap) (locs : List Loc), XW D A s.heap L f H locs → post v L f → W p l e R s m args below meth c H locs c1 s1 Q (F0 m (pc + 3) ls (v.toList ++ rest))) : W p l e R s m args below meth c H locs cells slots Q (F0 m pc ls st) := by
  subst hc1; subst hs1
  intro T hT X
  rcases hr T hT X with ⟨v, st₀, t, T', L9, h0, X', hL, e1, e2, ⟨⟨v2, u, hv, hp, hb⟩, hF⟩, hst⟩ | ⟨a9, st₀, t, T', L9, E, ce, h0, X', hL, e1, e2, ⟨u, hu, ⟨hp, hb⟩, hF⟩, hce, hcv, hcl, hst⟩
  · cases hv
    obtain ⟨k1, k2, k3⟩ := vx_keep h0 e1 w.2.2 (fun q _ h => xw_free w hA q h) (xw_free w hA) hL hF
    obtain ⟨hP1, hK1, hD1⟩ := hb
    rw [← e1] at hP1
    obtain ⟨t2, a1, b1⟩ := kk v u.1 u.2 T'.heap (locs ++ L9) ⟨hP1, hD1.weaken (fun _ _ _ h => xw_free w hA _ h), k3⟩ hp T' rfl X'
    exact ⟨t2, hst t2 a1, b1⟩
  · obtain ⟨k1, k2, k3⟩ := vx_keep h0 e1 w.2.2 (fun q _ h => xw_free w hA q h) (xw_free w hA) hL hF
    subst hu
    obtain ⟨hP1, hK1, hD1⟩ := hb
    rw [← e1] at hP1
    obtain ⟨t2, a1, b1⟩ := kx E ce a9 T'.heap (locs ++ L9) ⟨hP1, hD1.weaken (fun _ _ _ h => xw_free w hA _ h), k3⟩ hp (by rw [e1]; exact hce) hcv hcl T' rfl X'
    exact ⟨t2, hst.trans a1, b1⟩
theorem x_callV1 {C : String} {b ci : Nat} {fs : List Value} {r : vw_C} (X : XX p m c cc nL s args Ts own D cs) (w : XW D A s.heap L f H locs) (hA : ∀ q, s.heap.size ≤ q → A q) (hV : EV s) (hZ : EZ A s s.heap) (hC : C1 l y ws rm D cs (.ref b :: As) L f post px) (hk : XV Ts own index C y bytes maxL ret ws n) (hR : rm.frames + 1 ≤ R.frames ∧ 8 + (maxL + 11) + rm.locals ≤ R.locals) (hb : b ∈ L) (hf : f b = .inr (ci, fs)) (hc : vwCl[ci]? = some r) (hr : r.1 = C) (hn : As.length = n) (hl : lv_has ls nL lv) (hst : st = As.reverse ++ .ref b :: rest) (hrm : (rest.map fun v => v.category).sum ≤ 8) (hcs : cells + rm.cells ≤ R.cells ∧ slots + rm.slots ≤ R.slots) (hc1 : cells + rm.cells = c1) (hs1 : slots + rm.slots = s1) (hdg : decode cc pc = .ok (.invokevirtual index, 3))
    (kx : ∀ (E : String) (ce : Cell) (a9 : Addr) (H : Heap) (locs : List Loc), XW D A s.heap L f H locs → px E → H[a9]? = some ce → ce.vm = .none → s.vm.findClass E = some ce.cls → vx_W p l e R s m args below meth c H locs c1 s1 Q (F0 m pc ls rest) a9)
    (kk : ∀ (v : Option Value) (L : List Nat) (f : Nat → va_E) (H : Heap) (locs : List Loc), XW D A s.heap L f H locs → post v L f → W p l e R s m args below meth c H locs c1 s1 Q (F0 m (pc + 3) ls (v.toList ++ rest))) : W p l e R s m args below meth c H locs cells slots Q (F0 m pc ls st) := by
  subst hst; subst hr
  obtain ⟨hG, ⟨ws', hw⟩, hd⟩ := hk
  obtain ⟨q, hq⟩ := xw_at rfl hb hf
  exact x_run1 w hA (vx_runV (As := As) (rest := rest) X.1 (hC H.size) (cwV n X.1.2.2.2.2 hG hw rfl rfl hd hR) ⟨cp_blind1, va_recv X.2 w.1 hc hq, x_pre1 X w hA hV hZ⟩ rfl hn hl.1 rfl (lv_room hrm) hdg hcs) hc1 hs1 kx kk
theorem x_callS1 (X : XX p m c cc nL s args Ts own D cs) (w : XW D A s.heap L f H locs) (hA : ∀ q, s.heap.size ≤ q → A q) (hV : EV s) (hZ : EZ A s s.heap) (hC : C1 l y ws rm D cs As L f post px) (hk : XS Ts own index y bytes maxL ret ws n) (hR : rm.frames + 1 ≤ R.frames ∧ 8 + (maxL + 11) + rm.locals ≤ R.locals) (hn : As.length = n) (hl : lv_has ls nL lv) (hst : st = As.reverse ++ rest) (hrm : (rest.map fun v => v.category).sum ≤ 8) (hcs : cells + rm.cells ≤ R.cells ∧ slots + rm.slots ≤ R.slots) (hc1 : cells + rm.cells = c1) (hs1 : slots + rm.slots = s1) (hdg : decode cc pc = .ok (.invokestatic index, 3))
    (kx : ∀ (E : String) (ce : Cell) (a9 : Addr) (H : Heap) (locs : List Loc), XW D A s.heap L f H locs → px E → H[a9]? = some ce → ce.vm = .none → s.vm.findClass E = some ce.cls → vx_W p l e R s m args below meth c H locs c1 s1 Q (F0 m pc ls rest) a9)
    (kk : ∀ (v : Option Value) (L : List Nat) (f : Nat → va_E) (H : Heap) (locs : List Loc), XW D A s.heap L f H locs → post v L f → W p l e R s m args below meth c H locs c1 s1 Q (F0 m (pc + 3) ls (v.toList ++ rest))) : W p l e R s m args below meth c H locs cells slots Q (F0 m pc ls st) := by
  subst hst
  obtain ⟨hG, ⟨ws', hw⟩, hd⟩ := hk
  exact x_run1 w hA (vx_runS (As := As) (rest := rest) X.1 (hC H.size) (va_cwS n X.1.2.2.2.2 hG hw rfl rfl hd hR) ⟨cp_blind1, x_pre1 X w hA hV hZ⟩ rfl hn hl.1 rfl (lv_room hrm) hdg hcs) hc1 hs1 kx kk
/-- a static callee with handlers -/
def XH (Ts : List Cond) (own : String) (index : Nat) (y : MethodName) (bytes : ByteArray) (maxL : Nat) (ret : Option FieldType) (hh : List (Nat × Nat × Nat × Nat)) (ws : List Cond) (n : Nat) : Prop := GoodIn Ts (va_wsS own index y ws) ∧ (∃ ws', ws = Cond.codeWith y bytes maxL ret hh :: ws') ∧ (y.cls ≠ "java/lang/invoke/MethodHandle" ∧ y.cls ≠ "java/lang/invoke/VarHandle" ∧ (parseMethodDescriptor y.desc).map (fun d => d.parameters.length) = some n)
theorem x_callH1 {hh : List (Nat × Nat × Nat × Nat)} (X : XX p m c cc nL s args Ts own D cs) (w : XW D A s.heap L f H locs) (hA : ∀ q, s.heap.size ≤ q → A q) (hV : EV s) (hZ : EZ A s s.heap) (hC : C1 l y ws rm D cs As L f post (fun _ => False)) (hk : XH Ts own index y bytes maxL ret hh ws n) (hR : rm.frames + 1 ≤ R.frames ∧ 8 + (maxL + 11) + rm.locals ≤ R.locals) (hn : As.length = n) (hl : lv_has ls nL lv) (hst : st = As.reverse ++ rest) (hrm : (rest.map fun v => v.category).sum ≤ 8) (hcs : cells + rm.cells ≤ R.cells ∧ slots + rm.slots ≤ R.slots) (hc1 : cells + rm.cells = c1) (hs1 : slots + rm.slots = s1) (hdg : decode cc pc = .ok (.invokestatic index, 3))
    (kk : ∀ (v : Option Value) (L : List Nat) (f : Nat → va_E) (H : Heap) (locs : List Loc), XW D A s.heap L f H locs → post v L f → W p l e R s m args below meth c H locs c1 s1 Q (F0 m (pc + 3) ls (v.toList ++ rest))) : W p l e R s m args below meth c H locs cells slots Q (F0 m pc ls st) := by
  subst hst
  obtain ⟨hG, ⟨ws', hw⟩, hd⟩ := hk
  exact x_run1 w hA (vx_runSX (As := As) (rest := rest) X.1 (hC H.size) (vx_cwSW n X.1.2.2.2.2 hG hw rfl rfl hd hR) ⟨cp_blind1, x_pre1 X w hA hV hZ⟩ rfl hn hl.1 rfl (lv_room hrm) hdg hcs) hc1 hs1 (fun _ _ _ _ _ _ hno => hno.elim) kk
theorem C1.of {ws' : List Cond} {al : List Value} (hy : plainName y.cls = true) (hw : ws = Cond.code y cc maxL ret :: ws') (hlen : (lg_sl al).length ≤ maxL)
    (body : ∀ (p : Program) (e : Env) (s : State) (m : MethodId) (below : List Frame) (meth : Method) (c : Code), XX p m c cc maxL s al.toArray ws y.cls D cs → meth.sig.returnType = ret → meth.locks = false → (∀ x ∈ c.exceptionTable.toList, False) → EV s → ∀ (A : Nat → Prop), (∀ q, s.heap.size ≤ q → A q) → EZ A s s.heap → XW D A s.heap L f s.heap [] → ∀ ls, lv_has ls maxL (lv_args 0 al) → W p l e rm s m al.toArray below meth c s.heap [] 0 0 (vx_MQ below (CQ D cs A post) (EX D cs A L f px) al.toArray s rm.cells rm.slots A) (F0 m 0 ls [])) : C1 l y ws rm D cs al L f post px := by
  intro sz
  refine vx_ofW (cc := cc) (maxL := maxL) (ret := ret) hy hw ?_
  intro p e s m args' below meth c s₁ B hml htab hv
  obtain ⟨rfl, hsz, hP, hK, hD0, hV, hZ⟩ := hv
  have hts := atoms_spec (ws := ws) B.pre
  have hown := findClass_of_methodNamed B.named
  subst hsz
  rw [lg_entry_eq]
  exact body p e s m below meth c ⟨⟨B.exec, B.bytes, hml, hown, hts⟩, hK⟩ B.returns B.notSynchronized htab hV _ (fun q h => Or.inr h) hZ ⟨hP, hD0.self, va_S.rf⟩ _ (lv_entry al hlen)
theorem C1.ofH {hh : List (Nat × Nat × Nat × Nat)} {ws' : List Cond} {al : List Value} (hy : plainName y.cls = true) (hw : ws = Cond.codeWith y cc maxL ret hh :: ws') (hlen : (lg_sl al).length ≤ maxL)
    (body : ∀ (p : Program) (e : Env) (s : State) (m : MethodId) (below : List Frame) (meth : Method) (c : Code), XX p m c cc maxL s al.toArray ws y.cls D cs → meth.sig.returnType = ret → meth.locks = false → c.exceptionTable.toList = tableOf hh → EV s → ∀ (A : Nat → Prop), (∀ q, s.heap.size ≤ q → A q) → EZ A s s.heap → XW D A s.heap L f s.heap [] → ∀ ls, lv_has ls maxL (lv_args 0 al) → W p l e rm s m al.toArray below meth c s.heap [] 0 0 (vx_MQ below (CQ D cs A post) (EX D cs A L f px) al.toArray s rm.cells rm.slots A) (F0 m 0 ls [])) : C1 l y ws rm D cs al L f post px := by
  intro sz
  refine vx_ofWH (cc := cc) (maxL := maxL) (ret := ret) hy hw ?_
  intro p e s m args' below meth c s₁ B hml hv
  obtain ⟨rfl, hsz, hP, hK, hD0, hV, hZ⟩ := hv
  have hts := atoms_spec (ws := ws) B.pre
  have hown := findClass_of_methodNamed B.named
  have htab := vx_table (x := y) B (hts _ (by rw [hw]; exact List.mem_cons_self))
  subst hsz
  rw [lg_entry_eq]
  exact body p e s m below meth c ⟨⟨B.exec, B.bytes, hml, hown, hts⟩, hK⟩ B.returns B.notSynchronized htab hV _ (fun q h => Or.inr h) hZ ⟨hP, hD0.self, va_S.rf⟩ _ (lv_entry al hlen)
/-- new X(text), thrown out of the method -/
theorem x_throw {cls text : String} {ik is ic : Nat} (X : XX p m c cc nL s args Ts own D cs) (w : XW D A s.heap L f H locs) (hl9 : l.stackTraces = false) (hV : EV s) (hZ : EZ A s s.heap) (hlk : meth.locks = false) (hout : ∀ x ∈ c.exceptionTable.toList, False) (hl : lv_has ls nL lv) (hT : XT Ts own ik is ic cls text)
    (d0 : decode cc pc = .ok (.new ik, 3)) (d3 : decode cc (pc + 3) = .ok (.dup, 1)) (d4 : decode cc (pc + 4) = .ok (.ldc is, 2)) (d6 : decode cc (pc + 6) = .ok (.invokespecial ic, 3)) (d9 : decode cc (pc + 9) = .ok (.athrow, 1))
    (hR : 5 < R.frames ∧ (rest.map fun v => v.category).sum + 82 ≤ R.locals ∧ cells + 1 ≤ R.cells ∧ slots + 6 ≤ R.slots) (hcs : cells + 1 ≤ mc ∧ slots + 6 ≤ ms) (hx : px cls) :
    W p l e R s m args below meth c H locs cells slots (vx_MQ below (CQ D cs A post) (EX D cs A L f px) args s mc ms A) (F0 m pc ls rest) := by
  obtain ⟨t1, t2, t3, t4, t5, t6, t7, t8⟩ := hT
  have hts := X.1.2.2.2.2
  obtain ⟨sa, hstr⟩ := hV.2.2.2.2.2 _ t7
  rw [← t8] at hstr
  have hct : (Cond.castable cls cls).before args s = true := by
    rcases t4 with rfl | rfl | rfl
    · exact va_Nw.use rfl hV.1
    · exact va_Nw.use rfl hV.2.1
    · exact va_Nw.use rfl hV.2.2.1
  have hfit : Bundle.fit cls = true := by rcases t4 with rfl | rfl | rfl <;> decide
  refine vx_throwS (names := XNM) X.1.1 X.1.2.1 hl9 X.1.2.2.2.1 hfit (by decide) (hts _ t1) (hts _ t2) hstr (vx_hat (B := XNG cls) (fun w hw => hts w (t3 w hw)) t5 (vx_c hct (vx_c (va_Nw.use rfl hV.2.2.2.2.1.1) (vx_c (va_Nw.use rfl hV.2.2.2.2.1.2.1) (vx_c (va_Nw.use rfl hV.2.2.2.2.1.2.2) vx_n))))) t6 hZ.1 hZ.2 w.2.2 (hl.1.trans X.1.2.2.1.symm) d0 d3 d4 d6 d9 (fun x hx9 => (hout x hx9).elim) hR.1 hR.2.1 hR.2.2.1 hR.2.2.2 hlk ?_ w.2.2.2.2 hcs.1 hcs.2
  intro t hal hsz hkp
  exact ⟨(L, f), rfl, ⟨hx, w.1.kept (fun k q hk => hkp q.1 (vx_lt w.1 hk)), va_K.moved hal X.2, w.2.1⟩, Nat.le_trans w.2.2.1 hsz, fun q h1 h2 => (hkp q (Nat.lt_of_lt_of_le h1 w.2.2.1)).trans (w.2.2.2.1 q h1 h2)⟩
/-- what a callee threw goes on to the caller -/
theorem x_out {E : String} {ce : Cell} {a9 : Addr} (X : XX p m c cc nL s args Ts own D cs) (w : XW D A s.heap L f H locs) (hlk : meth.locks = false) (hout : ∀ x ∈ c.exceptionTable.toList, False) (hce : H[a9]? = some ce) (hcv : ce.vm = .none) (hcl : s.vm.findClass E = some ce.cls) (hcs : cells ≤ mc ∧ slots ≤ ms) (hx : px E) :
    vx_W p l e R s m args below meth c H locs cells slots (vx_MQ below (CQ D cs A post) (EX D cs A L f px) args s mc ms A) (F0 m pc ls rest) a9 :=
  vx_out (fun x hx9 => (hout x hx9).elim) hlk hce hcv hcl (fun t ht hal => ⟨(L, f), rfl, ⟨hx, by rw [ht]; exact w.1, va_K.moved hal X.2, w.2.1⟩, w.2.2.F ht⟩) w.2.2.2.2 hcs.1 hcs.2
theorem x_catchA {E : String} {ce : Cell} {a9 : Addr} {from9 to9 at9 ct : Nat} {suf : List (Nat × Nat × Nat × Nat)} (X : XX p m c cc nL s args Ts own D cs) (hT : c.exceptionTable.toList = tableOf ((from9, to9, at9, ct) :: suf)) (hw : Cond.classLink own ct E ∈ Ts) (h0 : ct ≠ 0) (hcov : covers ⟨from9, to9, at9, ct⟩ pc = true) (hct : va_Nw (.castable E E) s) (hce : H[a9]? = some ce) (hcv : ce.vm = .none) (hcl : s.vm.findClass E = some ce.cls)
    (kk : W p l e R s m args below meth c H locs cells slots Q (F0 m at9 ls [.ref a9])) : vx_W p l e R s m args below meth c H locs cells slots Q (F0 m pc ls rest) a9 :=
  vx_catch X.1.2.2.2.1 [] ⟨from9, to9, at9, ct⟩ (tableOf suf) hT (fun _ hz9 => absurd hz9 List.not_mem_nil) hcov h0 (X.1.2.2.2.2 _ hw) (va_Nw.use rfl hct) hce hcv hcl kk
theorem x_catchB {E E1 : String} {ce : Cell} {a9 : Addr} {from9 to9 at9 ct from8 to8 at8 ct8 : Nat} {suf : List (Nat × Nat × Nat × Nat)} (X : XX p m c cc nL s args Ts own D cs) (hT : c.exceptionTable.toList = tableOf ((from8, to8, at8, ct8) :: (from9, to9, at9, ct) :: suf)) (hw8 : Cond.classLink own ct8 E1 ∈ Ts) (h8 : ct8 ≠ 0) (hno : va_Nc E E1 s) (hw : Cond.classLink own ct E ∈ Ts) (h0 : ct ≠ 0) (hcov : covers ⟨from9, to9, at9, ct⟩ pc = true) (hct : va_Nw (.castable E E) s) (hce : H[a9]? = some ce) (hcv : ce.vm = .none) (hcl : s.vm.findClass E = some ce.cls)
    (kk : W p l e R s m args below meth c H locs cells slots Q (F0 m at9 ls [.ref a9])) : vx_W p l e R s m args below meth c H locs cells slots Q (F0 m pc ls rest) a9 := by
  refine vx_catch X.1.2.2.2.1 [⟨from8, to8, at8, ct8⟩] ⟨from9, to9, at9, ct⟩ (tableOf suf) hT (fun z hz9 => ?_) hcov h0 (X.1.2.2.2.2 _ hw) (va_Nw.use rfl hct) hce hcv hcl kk
  rcases List.mem_cons.mp hz9 with rfl | hz8
  · exact Or.inr ⟨h8, E1, X.1.2.2.2.2 _ hw8, hno⟩
  · exact absurd hz8 List.not_mem_nil
end XTHROWS
theorem xt_g43 : (∀ w ∈ (vx_atS RX3 43 XIA XNM).filter (fun w => !goodWord w), w ∈ XNG XIA) ∧ (∀ w ∈ Cond.classLink RX3 39 XIA :: Cond.initialized XIA :: vx_atS RX3 43 XIA XNM, vx_ot w = true) := ⟨by decide +kernel, by decide +kernel⟩
theorem xt_g58 : (∀ w ∈ (vx_atS RX3 58 XIS XNM).filter (fun w => !goodWord w), w ∈ XNG XIS) ∧ (∀ w ∈ Cond.classLink RX3 54 XIS :: Cond.initialized XIS :: vx_atS RX3 58 XIS XNM, vx_ot w = true) := ⟨by decide +kernel, by decide +kernel⟩
theorem xt_g143 : (∀ w ∈ (vx_atS RX3 143 XIO XNM).filter (fun w => !goodWord w), w ∈ XNG XIO) ∧ (∀ w ∈ Cond.classLink RX3 139 XIO :: Cond.initialized XIO :: vx_atS RX3 143 XIO XNM, vx_ot w = true) := ⟨by decide +kernel, by decide +kernel⟩
