section XCALLS
variable {p : Program} {l : Launch} {e : Env} {R : Room} {s : State} {m : MethodId} {args : Array Value} {below : List Frame} {meth : Method} {c : Code} {H : Heap} {locs : List Loc} {cells slots c1 s1 : Nat} {Q : State → Prop}
variable {cc : ByteArray} {nL pc : Nat} {ls : Array Slot} {rest st : List Value} {Ts : List Cond} {own : String} {D : va_G} {cs : ClassId × ClassId × ClassId} {A : Nat → Prop} {H0 : Heap} {L : List Nat} {f : Nat → va_E} {lv lv' : List (Nat × Value)}
variable {y : MethodName} {ws : List Cond} {bytes : ByteArray} {maxL : Nat} {ret : Option FieldType} {rm : Room} {index n : Nat} {As : List Value} {post : Option Value → List Nat → (Nat → va_E) → Prop}

theorem va_callG {S : Type} {post : Option Value → S → Prop} {B : S → State → Prop} {A0 A1 : Nat → Prop} {a : Array Value} {mc ms : Nat} {free : Addr → Prop} (hr : va_Run p l e R s m args below meth c H locs cells slots mc ms (F0 m pc ls st) rest (va_QG post B A1 a) free) (hS : va_S A0 H0 H locs) (hA : ∀ q, q < H.size → A1 q → A0 q) (hf : ∀ q, free q → A0 q)
    (kk : ∀ (v : Option Value) (u : S) (t : State) (H1 : Heap) (locs1 : List Loc), t.heap = H1 → s.vm.Alike t.vm → post v u → B u t → H.size ≤ H1.size → va_S A0 H0 H1 locs1 → W p l e R s m args below meth c H1 locs1 (cells + mc) (slots + ms) Q (F0 m (pc + 3) ls (v.toList ++ rest))) : W p l e R s m args below meth c H locs cells slots Q (F0 m pc ls st) := by
  intro T hT X
  obtain ⟨v, st₀, t, T', L, h0, X', hL, e1, e2, ⟨⟨v', u, hv, hp, hb⟩, hz, hk⟩, st⟩ := hr T hT X
  cases hv
  rw [h0] at hz hk
  obtain ⟨t2, a1, b1⟩ := kk v u t T'.heap (locs ++ L) e1.symm (by rw [← e2]; exact X'.warmed.alike) hp hb (by rw [e1]; exact hz)
    ⟨Nat.le_trans hS.1 (by rw [e1]; exact hz), fun q h1 h2 => by rw [e1, hk q (Nat.lt_of_lt_of_le h1 hS.1) (fun z => h2 (hA q (Nat.lt_of_lt_of_le h1 hS.1) z))]; exact hS.2.1 q h1 h2, fun q hq => by
      rcases List.mem_append.mp hq with h | h
      · exact hS.2.2 q h
      · exact hf _ (hL q h)⟩ T' rfl X'
  exact ⟨t2, st t2 a1, b1⟩
theorem xw_free (w : XW D A H0 L f H locs) (hA : ∀ q, H0.size ≤ q → A q) : ∀ q, va_A (va_pl L f) H.size q → A q := by
  intro q h
  rcases h with ⟨k, e9, h⟩ | h
  · exact w.2.1.2 k _ h
  · exact hA q (Nat.le_trans w.2.2.1 h)
theorem x_run {a : Array Value} (w : XW D A H0 L f H locs) (hA : ∀ q, H0.size ≤ q → A q) (hr : va_Run p l e R s m args below meth c H locs cells slots rm.cells rm.slots (F0 m pc ls st) rest (CQ D cs (va_A (va_pl L f) H.size) post a) (va_A (va_pl L f) H.size)) (hc1 : cells + rm.cells = c1) (hs1 : slots + rm.slots = s1)
    (kk : ∀ (v : Option Value) (L : List Nat) (f : Nat → va_E) (H : Heap) (locs : List Loc), XW D A H0 L f H locs → post v L f → W p l e R s m args below meth c H locs c1 s1 Q (F0 m (pc + 3) ls (v.toList ++ rest))) : W p l e R s m args below meth c H locs cells slots Q (F0 m pc ls st) := by
  subst hc1; subst hs1
  refine va_callG hr w.2.2 (fun q _ h => xw_free w hA q h) (xw_free w hA) (fun v u t H1 locs1 ht hvm hp hB hz hS => ?_)
  obtain ⟨hP1, hK1, hD1⟩ := hB
  rw [ht] at hP1
  exact kk v u.1 u.2 H1 locs1 ⟨hP1, hD1.weaken (fun _ _ _ h => xw_free w hA _ h), hS⟩ hp
theorem x_pre (X : XX p m c cc nL s args Ts own D cs) (w : XW D A H0 L f H locs) {As : List Value} : ∀ U : State, U.heap = H → s.WarmedH U.vm → CP D cs As H.size L f As.toArray U :=
  fun U hU hW => ⟨rfl, by rw [hU], by rw [hU]; exact w.1, va_K.moved hW.alike X.2, w.2.1.weaken (fun _ _ _ _ => trivial)⟩
theorem cp_blind {As : List Value} {sz : Nat} : FrameBlind (CP D cs As sz L f) := fun a U g mk q => by
  obtain ⟨q0, q1, qP, qK, qD⟩ := q
  exact ⟨q0, q1, qP, va_K.moved (u := U) (U := U.calling g mk a) (Vm.Alike.refl U.vm) qK, qD⟩
theorem x_callV {C : String} {b ci : Nat} {fs : List Value} {r : vw_C} (X : XX p m c cc nL s args Ts own D cs) (w : XW D A H0 L f H locs) (hA : ∀ q, H0.size ≤ q → A q) (hC : C0 l y ws rm D cs (.ref b :: As) L f post) (hk : XV Ts own index C y bytes maxL ret ws n) (hR : rm.frames + 1 ≤ R.frames ∧ 8 + (maxL + 11) + rm.locals ≤ R.locals) (hb : b ∈ L) (hf : f b = .inr (ci, fs)) (hc : vwCl[ci]? = some r) (hr : r.1 = C) (hn : As.length = n) (hl : lv_has ls nL lv) (hst : st = As.reverse ++ .ref b :: rest) (hrm : (rest.map fun v => v.category).sum ≤ 8) (hcs : cells + rm.cells ≤ R.cells ∧ slots + rm.slots ≤ R.slots) (hc1 : cells + rm.cells = c1) (hs1 : slots + rm.slots = s1) (hdg : decode cc pc = .ok (.invokevirtual index, 3))
    (kk : ∀ (v : Option Value) (L : List Nat) (f : Nat → va_E) (H : Heap) (locs : List Loc), XW D A H0 L f H locs → post v L f → W p l e R s m args below meth c H locs c1 s1 Q (F0 m (pc + 3) ls (v.toList ++ rest))) : W p l e R s m args below meth c H locs cells slots Q (F0 m pc ls st) := by
  subst hst; subst hr
  obtain ⟨hG, ⟨ws', hw⟩, hd⟩ := hk
  obtain ⟨q, hq⟩ := xw_at rfl hb hf
  exact x_run w hA (va_runV (As := As) (rest := rest) X.1 (hC H.size) (cwV n X.1.2.2.2.2 hG hw rfl rfl hd hR) ⟨cp_blind, va_recv X.2 w.1 hc hq, x_pre X w⟩ rfl hn hl.1 rfl (lv_room hrm) hdg hcs) hc1 hs1 kk
theorem x_callS (X : XX p m c cc nL s args Ts own D cs) (w : XW D A H0 L f H locs) (hA : ∀ q, H0.size ≤ q → A q) (hC : C0 l y ws rm D cs As L f post) (hk : XS Ts own index y bytes maxL ret ws n) (hR : rm.frames + 1 ≤ R.frames ∧ 8 + (maxL + 11) + rm.locals ≤ R.locals) (hn : As.length = n) (hl : lv_has ls nL lv) (hst : st = As.reverse ++ rest) (hrm : (rest.map fun v => v.category).sum ≤ 8) (hcs : cells + rm.cells ≤ R.cells ∧ slots + rm.slots ≤ R.slots) (hc1 : cells + rm.cells = c1) (hs1 : slots + rm.slots = s1) (hdg : decode cc pc = .ok (.invokestatic index, 3))
    (kk : ∀ (v : Option Value) (L : List Nat) (f : Nat → va_E) (H : Heap) (locs : List Loc), XW D A H0 L f H locs → post v L f → W p l e R s m args below meth c H locs c1 s1 Q (F0 m (pc + 3) ls (v.toList ++ rest))) : W p l e R s m args below meth c H locs cells slots Q (F0 m pc ls st) := by
  subst hst
  obtain ⟨hG, ⟨ws', hw⟩, hd⟩ := hk
  exact x_run w hA (va_runS (As := As) (rest := rest) X.1 (hC H.size) (va_cwS n X.1.2.2.2.2 hG hw rfl rfl hd hR) ⟨cp_blind, x_pre X w⟩ rfl hn hl.1 rfl (lv_room hrm) hdg hcs) hc1 hs1 kk
theorem C0.of {ws' : List Cond} {al : List Value} (hy : plainName y.cls = true) (hw : ws = Cond.code y cc maxL ret :: ws') (hlen : (lg_sl al).length ≤ maxL)
    (body : ∀ (p : Program) (e : Env) (s : State) (m : MethodId) (below : List Frame) (meth : Method) (c : Code), XX p m c cc maxL s al.toArray ws y.cls D cs → meth.sig.returnType = ret → meth.locks = false → meth.name = y.name → ∀ (A : Nat → Prop), (∀ q, s.heap.size ≤ q → A q) → XW D A s.heap L f s.heap [] → ∀ ls, lv_has ls maxL (lv_args 0 al) → W p l e rm s m al.toArray below meth c s.heap [] 0 0 (MQ below (CQ D cs A post) al.toArray s rm.cells rm.slots A) (F0 m 0 ls [])) : C0 l y ws rm D cs al L f post := by
  intro sz
  refine Met.ofW (cc := cc) (maxL := maxL) (ret := ret) hy hw ?_
  intro p e s m args' below meth c s₁ B hml hv
  obtain ⟨rfl, hsz, hP, hK, hD0⟩ := hv
  have hts := atoms_spec (ws := ws) B.pre
  have hown := findClass_of_methodNamed B.named
  subst hsz
  rw [lg_entry_eq]
  exact body p e s m below meth c ⟨⟨B.exec, B.bytes, hml, hown, hts⟩, hK⟩ B.returns B.notSynchronized (name_of_methodNamed B.named B.method).1 _ (fun q h => Or.inr h) ⟨hP, hD0.self, va_S.rf⟩ _ (lv_entry al hlen)
theorem x_iret {z : Int} {mc ms : Nat} (X : XX p m c cc nL s args Ts own D cs) (w : XW D A s.heap L f H locs) (hr : meth.sig.returnType = some .int) (hlk : meth.locks = false) (hcs : cells ≤ mc ∧ slots ≤ ms) (hdg : decode cc pc = .ok (.ireturn, 1)) (hp : post (some (.int (iI z))) L f) : W p l e R s m args below meth c H locs cells slots (MQ below (CQ D cs A post) args s mc ms A) (F0 m pc ls [.int (iI z)]) :=
  W.widen hcs.1 hcs.2 (W.iret X.1.1 X.1.2.1 hr (fun t ht hW => ⟨⟨_, (L, f), rfl, hp, by rw [ht]; exact w.1, va_K.moved hW.alike X.2, w.2.1⟩, w.2.2.F ht⟩) w.2.2.2.2 hdg hlk)
theorem x_zret {z : Int} {mc ms : Nat} (X : XX p m c cc nL s args Ts own D cs) (w : XW D A s.heap L f H locs) (hr : meth.sig.returnType = some .boolean) (hlk : meth.locks = false) (hcs : cells ≤ mc ∧ slots ≤ ms) (hz : z = 0 ∨ z = 1) (hdg : decode cc pc = .ok (.ireturn, 1)) (hp : post (some (.int (iI z))) L f) : W p l e R s m args below meth c H locs cells slots (MQ below (CQ D cs A post) args s mc ms A) (F0 m pc ls [.int (iI z)]) :=
  W.widen hcs.1 hcs.2 (W.zret X.1.1 X.1.2.1 hr (by rcases hz with rfl | rfl <;> rfl) (fun t ht hW => ⟨⟨_, (L, f), rfl, hp, by rw [ht]; exact w.1, va_K.moved hW.alike X.2, w.2.1⟩, w.2.2.F ht⟩) w.2.2.2.2 hdg hlk)
theorem x_vret {mc ms : Nat} (X : XX p m c cc nL s args Ts own D cs) (w : XW D A s.heap L f H locs) (hr : meth.sig.returnType = none) (hlk : meth.locks = false) (hcs : cells ≤ mc ∧ slots ≤ ms) (hdg : decode cc pc = .ok (.return_, 1)) (hp : post none L f) : W p l e R s m args below meth c H locs cells slots (MQ below (CQ D cs A post) args s mc ms A) (F0 m pc ls []) :=
  W.widen hcs.1 hcs.2 (W.vret X.1.1 X.1.2.1 hr (fun t ht hW => ⟨⟨_, (L, f), rfl, hp, by rw [ht]; exact w.1, va_K.moved hW.alike X.2, w.2.1⟩, w.2.2.F ht⟩) w.2.2.2.2 hdg hlk)
theorem x_nret {C : String} {o : Option Nat} {mc ms : Nat} (X : XX p m c cc nL s args Ts own D cs) (w : XW D A s.heap L f H locs) (hr : meth.sig.returnType = some (.object C)) (hlk : meth.locks = false) (hcs : cells ≤ mc ∧ slots ≤ ms) (hdg : decode cc pc = .ok (.areturn, 1)) (hp : post (some (va_rf o)) L f) : W p l e R s m args below meth c H locs cells slots (MQ below (CQ D cs A post) args s mc ms A) (F0 m pc ls [va_rf o]) :=
  W.widen hcs.1 hcs.2 (W.aret X.1.1 X.1.2.1 hr (Or.inl ⟨_, rfl⟩) (by cases o; exact Or.inl rfl; exact Or.inr ⟨_, rfl⟩) (fun t ht hW => ⟨⟨_, (L, f), rfl, hp, by rw [ht]; exact w.1, va_K.moved hW.alike X.2, w.2.1⟩, w.2.2.F ht⟩) w.2.2.2.2 hdg hlk)
end XCALLS
/-! pictures: the row of pages, the row of records -/
def RR (cs : ClassId × ClassId × ClassId) (L : List Nat) (f : Nat → va_E) (pr sz : Nat) (k : Int) (z : Int → Int) : Prop := pr ∈ L ∧ sz ∈ L ∧ f pr = .inr (2, [.ref sz, .int (iI k)]) ∧ f sz = .inl (cs.1, 80, .inl (aI z))
def FR (f0 f : Nat → va_E) (p q : Nat) : Prop := ∀ a, a ≠ p → a ≠ q → f a = f0 a
theorem FR.rf (f : Nat → va_E) (p q : Nat) : FR f f p q := fun _ _ _ => rfl
theorem FR.up1 {f0 f : Nat → va_E} {p q : Nat} {e : va_E} (h : FR f0 f p q) : FR f0 (va_up f p e) p q := fun a h1 h2 => (va_up_ne f e h1).trans (h a h1 h2)
theorem FR.up2 {f0 f : Nat → va_E} {p q : Nat} {e : va_E} (h : FR f0 f p q) : FR f0 (va_up f q e) p q := fun a h1 h2 => (va_up_ne f e h2).trans (h a h1 h2)
theorem FR.tr {f0 f1 f2 : Nat → va_E} {p q : Nat} (h : FR f0 f1 p q) (g : FR f1 f2 p q) : FR f0 f2 p q := fun a h1 h2 => (g a h1 h2).trans (h a h1 h2)
section RRS
variable {cs : ClassId × ClassId × ClassId} {L : List Nat} {f : Nat → va_E} {pr sz : Nat} {k : Int} {z : Int → Int}
theorem RR.mp (h : RR cs L f pr sz k z) : pr ∈ L := h.1
theorem RR.ms (h : RR cs L f pr sz k z) : sz ∈ L := h.2.1
theorem RR.fp (h : RR cs L f pr sz k z) : f pr = .inr (2, [.ref sz, .int (iI k)]) := h.2.2.1
theorem RR.fs (h : RR cs L f pr sz k z) : f sz = .inl (cs.1, 80, .inl (aI z)) := h.2.2.2
theorem RR.ne (h : RR cs L f pr sz k z) : pr ≠ sz := fun q => by have h1 := h.fp; have h2 := h.fs; rw [q, h2] at h1; cases h1
theorem RR.cnt (h : RR cs L f pr sz k z) (k' : Int) : RR cs L (va_up f pr (.inr (2, [.ref sz, .int (iI k')]))) pr sz k' z := ⟨h.1, h.2.1, va_up_self _ _ _, (va_up_ne f _ h.ne.symm).trans h.fs⟩
theorem RR.row (h : RR cs L f pr sz k z) (z' : Int → Int) : RR cs L (va_up f sz (.inl (cs.1, 80, .inl (aI z')))) pr sz k z' := ⟨h.1, h.2.1, (va_up_ne f _ h.ne).trans h.fp, va_up_self _ _ _⟩
end RRS
def RB (cs : ClassId × ClassId × ClassId) (L : List Nat) (f : Nat → va_E) (br ba : Nat) (n : Int) (r : Int → Option Nat) : Prop := br ∈ L ∧ ba ∈ L ∧ f br = .inr (1, [.ref ba, .int (iI n)]) ∧ f ba = .inl (cs.2.1, 80, .inr (.inr (.inr (.inr (aR r)))))
section RBS
variable {cs : ClassId × ClassId × ClassId} {L : List Nat} {f : Nat → va_E} {br ba : Nat} {n : Int} {r : Int → Option Nat}
theorem RB.mp (h : RB cs L f br ba n r) : br ∈ L := h.1
theorem RB.ms (h : RB cs L f br ba n r) : ba ∈ L := h.2.1
theorem RB.fp (h : RB cs L f br ba n r) : f br = .inr (1, [.ref ba, .int (iI n)]) := h.2.2.1
theorem RB.fs (h : RB cs L f br ba n r) : f ba = .inl (cs.2.1, 80, .inr (.inr (.inr (.inr (aR r))))) := h.2.2.2
theorem RB.ne (h : RB cs L f br ba n r) : br ≠ ba := fun q => by have h1 := h.fp; have h2 := h.fs; rw [q, h2] at h1; cases h1
theorem RB.cnt (h : RB cs L f br ba n r) (n' : Int) : RB cs L (va_up f br (.inr (1, [.ref ba, .int (iI n')]))) br ba n' r := ⟨h.1, h.2.1, va_up_self _ _ _, (va_up_ne f _ h.ne.symm).trans h.fs⟩
theorem RB.row (h : RB cs L f br ba n r) (r' : Int → Option Nat) : RB cs L (va_up f ba (.inl (cs.2.1, 80, .inr (.inr (.inr (.inr (aR r'))))))) br ba n r' := ⟨h.1, h.2.1, (va_up_ne f _ h.ne).trans h.fp, va_up_self _ _ _⟩
end RBS
/-- the records: what stands at each place of the row -/
def bE (nu su ty pd fd : Int) : va_E := .inr (0, [.int (iI nu), .int (iI su), .int (iI ty), .int (iI pd), .int (iI fd)])
def BO (L : List Nat) (f : Nat → va_E) (n : Int) (r : Int → Option Nat) (nu su ty pd fd : Int → Int) : Prop := ∀ j : Int, 0 ≤ j → j < n → ∃ a, r j = some a ∧ a ∈ L ∧ f a = bE (nu j) (su j) (ty j) (pd j) (fd j)

