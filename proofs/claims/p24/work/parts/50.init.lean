/-! constructors: contracts with a premise on the machine; new rows; the objects that the law makes -/
def CPz (Z : State → Prop) (D : va_G) (cs : ClassId × ClassId × ClassId) (args : List Value) (sz : Nat) (L : List Nat) (f : Nat → va_E) : Array Value → State → Prop := va_Pc args (fun U => U.heap.size = sz ∧ va_P D vwCl (va_pl L f) U.heap ∧ va_K D vwCl (ty3 cs) U ∧ va_D (fun _ => True) (va_pl L f) ∧ Z U)
def C0z (Z : State → Prop) (l : Launch) (y : MethodName) (ws : List Cond) (rm : Room) (D : va_G) (cs : ClassId × ClassId × ClassId) (args : List Value) (L : List Nat) (f : Nat → va_E) (post : Option Value → List Nat → (Nat → va_E) → Prop) : Prop :=
  ∀ sz : Nat, Met l y ws rm (CPz Z D cs args sz L f) (CQ D cs (va_A (va_pl L f) sz) post) rm.cells rm.slots (va_A (va_pl L f) sz)
def ZW (Z : State → Prop) : Prop := ∀ s U : State, s.WarmedH U.vm → Z s → Z U
section XCT
variable {p : Program} {l : Launch} {e : Env} {R : Room} {s : State} {m : MethodId} {args : Array Value} {below : List Frame} {meth : Method} {c : Code} {H : Heap} {locs : List Loc} {cells slots c1 s1 : Nat} {Q : State → Prop}
variable {cc : ByteArray} {nL pc : Nat} {ls : Array Slot} {rest st : List Value} {Ts : List Cond} {own : String} {D : va_G} {cs : ClassId × ClassId × ClassId} {A : Nat → Prop} {H0 : Heap} {L : List Nat} {f : Nat → va_E} {lv lv' : List (Nat × Value)}
variable {y : MethodName} {ws : List Cond} {bytes : ByteArray} {maxL : Nat} {ret : Option FieldType} {rm : Room} {index n : Nat} {As : List Value} {post : Option Value → List Nat → (Nat → va_E) → Prop} {Z : State → Prop}
theorem cpz_blind (hw : ZW Z) {As : List Value} {sz : Nat} : FrameBlind (CPz Z D cs As sz L f) := fun a U g mk h => by
  obtain ⟨h0, h1, hP, hK, hD, hz⟩ := h
  exact ⟨h0, h1, hP, va_K.moved (u := U) (U := U.calling g mk a) (Vm.Alike.refl U.vm) hK, hD, hw U (U.calling g mk a) (State.WarmedH.refl U) hz⟩
theorem x_prez (X : XX p m c cc nL s args Ts own D cs) (w : XW D A H0 L f H locs) (hw : ZW Z) (hz : Z s) {As : List Value} : ∀ U : State, U.heap = H → s.WarmedH U.vm → CPz Z D cs As H.size L f As.toArray U :=
  fun U hU hW => ⟨rfl, by rw [hU], by rw [hU]; exact w.1, va_K.moved hW.alike X.2, w.2.1.weaken (fun _ _ _ _ => trivial), hw s U hW hz⟩
theorem C0z.of {ws' : List Cond} {al : List Value} (hy : plainName y.cls = true) (hw : ws = Cond.code y cc maxL ret :: ws') (hlen : (lg_sl al).length ≤ maxL)
    (body : ∀ (p : Program) (e : Env) (s : State) (m : MethodId) (below : List Frame) (meth : Method) (c : Code), XX p m c cc maxL s al.toArray ws y.cls D cs → meth.sig.returnType = ret → meth.locks = false → meth.name = y.name → Z s → ∀ (A : Nat → Prop), (∀ q, s.heap.size ≤ q → A q) → XW D A s.heap L f s.heap [] → ∀ ls, lv_has ls maxL (lv_args 0 al) → W p l e rm s m al.toArray below meth c s.heap [] 0 0 (MQ below (CQ D cs A post) al.toArray s rm.cells rm.slots A) (F0 m 0 ls [])) : C0z Z l y ws rm D cs al L f post := by
  intro sz
  refine Met.ofW (cc := cc) (maxL := maxL) (ret := ret) hy hw ?_
  intro p e s m args' below meth c s₁ B hml hv
  obtain ⟨rfl, hsz, hP, hK, hD0, hz⟩ := hv
  have hts := atoms_spec (ws := ws) B.pre
  have hown := findClass_of_methodNamed B.named
  subst hsz
  rw [lg_entry_eq]
  exact body p e s m below meth c ⟨⟨B.exec, B.bytes, hml, hown, hts⟩, hK⟩ B.returns B.notSynchronized (name_of_methodNamed B.named B.method).1 hz _ (fun q h => Or.inr h) ⟨hP, hD0.self, va_S.rf⟩ _ (lv_entry al hlen)
theorem x_callIz {b : Nat} (X : XX p m c cc nL s args Ts own D cs) (w : XW D A H0 L f H locs) (hA : ∀ q, H0.size ≤ q → A q) (hzw : ZW Z) (hz : Z s) (hC : C0z Z l y ws rm D cs (.ref b :: As) L f post) (hk : XI Ts own index y bytes maxL ws n) (hR : rm.frames + 1 ≤ R.frames ∧ 8 + (maxL + 11) + rm.locals ≤ R.locals) (hn : As.length = n) (hl : lv_has ls nL lv) (hst : st = As.reverse ++ .ref b :: rest) (hrm : (rest.map fun v => v.category).sum ≤ 8) (hcs : cells + rm.cells ≤ R.cells ∧ slots + rm.slots ≤ R.slots) (hc1 : cells + rm.cells = c1) (hs1 : slots + rm.slots = s1) (hdg : decode cc pc = .ok (.invokespecial index, 3))
    (kk : ∀ (v : Option Value) (L : List Nat) (f : Nat → va_E) (H : Heap) (locs : List Loc), XW D A H0 L f H locs → post v L f → W p l e R s m args below meth c H locs c1 s1 Q (F0 m (pc + 3) ls (v.toList ++ rest))) : W p l e R s m args below meth c H locs cells slots Q (F0 m pc ls st) := by
  subst hst
  obtain ⟨hG, ⟨ws', hw⟩, hd1, hy, hd⟩ := hk
  have ht := X.1.2.2.2.2
  exact x_run w hA (va_runI (As := As) (rest := rest) X.1 (hC H.size) (cwI n ht hG hw rfl rfl (ht _ hd1.1) (ht _ hd1.2.1) (ht _ hd1.2.2) hy hd hR) ⟨cpz_blind hzw, x_prez X w hzw hz⟩ rfl hn hl.1 rfl (lv_room hrm) hdg hcs) hc1 hs1 kk
/-- a nest mate's own constructor -/
theorem x_callIN {b : Nat} {host : String} (X : XX p m c cc nL s args Ts own D cs) (w : XW D A H0 L f H locs) (hA : ∀ q, H0.size ≤ q → A q) (hzw : ZW Z) (hz : Z s) (hC : C0z Z l y ws rm D cs (.ref b :: As) L f post) (hG : GoodIn Ts ws) (hws : ∃ ws', ws = Cond.code y bytes maxL none :: ws') (hd1 : Cond.initialized y.cls ∈ Ts ∧ Cond.instanceMethod y ∈ Ts) (hy : y.name = "<init>") (hd : y.cls ≠ "java/lang/invoke/MethodHandle" ∧ y.cls ≠ "java/lang/invoke/VarHandle" ∧ (parseMethodDescriptor y.desc).map (fun d => d.parameters.length) = some n) (hnest : va_Nw (.methodLinkNest own index y host) s) (hR : rm.frames + 1 ≤ R.frames ∧ 8 + (maxL + 11) + rm.locals ≤ R.locals) (hn : As.length = n) (hl : lv_has ls nL lv) (hst : st = As.reverse ++ .ref b :: rest) (hrm : (rest.map fun v => v.category).sum ≤ 8) (hcs : cells + rm.cells ≤ R.cells ∧ slots + rm.slots ≤ R.slots) (hc1 : cells + rm.cells = c1) (hs1 : slots + rm.slots = s1) (hdg : decode cc pc = .ok (.invokespecial index, 3))
    (kk : ∀ (v : Option Value) (L : List Nat) (f : Nat → va_E) (H : Heap) (locs : List Loc), XW D A H0 L f H locs → post v L f → W p l e R s m args below meth c H locs c1 s1 Q (F0 m (pc + 3) ls (v.toList ++ rest))) : W p l e R s m args below meth c H locs cells slots Q (F0 m pc ls st) := by
  subst hst
  obtain ⟨ws', hw⟩ := hws
  have ht := X.1.2.2.2.2
  exact x_run w hA (va_runIN (As := As) (rest := rest) X.1 (hC H.size) ⟨va_cnB n ht hG hw rfl rfl hnest (ht _ hd1.1) hd hR, hy, ht _ hd1.2⟩ ⟨cpz_blind hzw, x_prez X w hzw hz⟩ rfl hn hl.1 rfl (lv_room hrm) hdg hcs) hc1 hs1 kk
theorem x_newI {N : Nat} (X : XX p m c cc nL s args Ts own D cs) (w : XW D A H0 L f H locs) (hA : ∀ q, H0.size ≤ q → A q) (h1 : Cond.arrayClass .int ∈ Ts) (hN : N ≤ 1000) (hR : cells + 1 ≤ R.cells ∧ slots + N ≤ R.slots) (hc1 : cells + 1 = c1) (hs1 : slots + N = s1) (hdg : decode cc pc = .ok (.newarray .int, 2))
    (kk : ∀ (q : Nat) (H : Heap) (locs : List Loc), q ∉ L → XW D A H0 (L ++ [q]) (va_up f q (.inl (cs.1, N, .inl (aI (fun _ => 0))))) H locs → W p l e R s m args below meth c H locs c1 s1 Q (F0 m (pc + 2) ls (.ref q :: rest))) : W p l e R s m args below meth c H locs cells slots Q (F0 m pc ls (.int (iI (N : Int)) :: rest)) := by
  subst hc1; subst hs1
  have h0 : (iI (N : Int)).toInt = (N : Int) := iI_toInt (by omega)
  refine va_newa (atype := .int) (ty := .int) (a0 := (N, .inl (aI (fun _ => 0)))) X.1.1 X.1.2.1 (X.1.2.2.2.2 _ h1) rfl X.2 w.1 w.2.1 w.2.2 hA (fun cA => ?_) ?_ ?_ (by show N * 4 ≤ 536870912; omega) hR.1 hR.2 hdg (fun q cA H1 hK hP hD hS => ?_)
  · rw [vp_cell_i]
    exact congrArg (arrV cA N) (funext (fun _ => congrArg Value.int iI_0.symm))
  · rw [iI_0, iI_lt (by omega) (by omega)]; omega
  · show (iI (N : Int)).toInt.toNat = N
    rw [h0]; omega
  · have e1 : cA = cs.1 := by
      have g1 := (X.2.2 0 (cs.1, .int) rfl).2
      have g2 := (hK.2 2 (cA, .int) rfl).2
      exact Option.some.inj (g2.symm.trans g1)
    subst e1
    obtain ⟨hq, w1⟩ := xw_push hP hD hS
    exact kk q H1 _ hq w1
theorem x_newR {N : Nat} (X : XX p m c cc nL s args Ts own D cs) (w : XW D A H0 L f H locs) (hA : ∀ q, H0.size ≤ q → A q) (h1 : Cond.classLink own index RX0 ∈ Ts) (hz : va_AO RX0 s) (hN : N ≤ 1000) (hR : cells + 1 ≤ R.cells ∧ slots + N ≤ R.slots) (hc1 : cells + 1 = c1) (hs1 : slots + N = s1) (hdg : decode cc pc = .ok (.anewarray index, 3))
    (kk : ∀ (q : Nat) (H : Heap) (locs : List Loc), q ∉ L → XW D A H0 (L ++ [q]) (va_up f q (.inl (cs.2.1, N, .inr (.inr (.inr (.inr (aR (fun _ => none)))))))) H locs → W p l e R s m args below meth c H locs c1 s1 Q (F0 m (pc + 3) ls (.ref q :: rest))) : W p l e R s m args below meth c H locs cells slots Q (F0 m pc ls (.int (iI (N : Int)) :: rest)) := by
  subst hc1; subst hs1
  have h0 : (iI (N : Int)).toInt = (N : Int) := iI_toInt (by omega)
  refine va_newq (C := RX0) (N' := N) X.1.1 X.1.2.1 X.1.2.2.2.1 (X.1.2.2.2.2 _ h1) hz X.2 w.1 w.2.1 w.2.2 hA ?_ ?_ (by omega) hR.1 hR.2 hdg (fun q cA H1 hK hP hD hS => ?_)
  · rw [iI_0, iI_lt (by omega) (by omega)]; omega
  · show (iI (N : Int)).toInt.toNat = N
    rw [h0]; omega
  · have e1 : cA = cs.2.1 := by
      obtain ⟨_, _, _, _, _, g1⟩ := (X.2.2 1 (cs.2.1, .object RX0) rfl).2
      obtain ⟨_, _, _, _, _, g2⟩ := (hK.2 2 (cA, .object RX0) rfl).2
      exact Option.some.inj (g2.symm.trans g1)
    subst e1
    obtain ⟨hq, w1⟩ := xw_push hP hD hS
    exact kk q H1 _ hq w1
end XCT
theorem df_X1 : ∀ j, j < 2 → defaultValue (tyX1 j) = vp_V [.null, .int (iI 0)] j := by
  intro j hj
  rcases (show j = 0 ∨ j = 1 by omega) with rfl | rfl <;> rfl
theorem df_X2 : ∀ j, j < 2 → defaultValue (tyX2 j) = vp_V [.null, .int (iI 0)] j := by
  intro j hj
  rcases (show j = 0 ∨ j = 1 by omega) with rfl | rfl <;> rfl
theorem df_X3 : ∀ j, j < 7 → defaultValue (tyX3 j) = vp_V [.null, .null, .null, .int (iI 0), .int (iI 0), .int (iI 0), .int (iI 0)] j := by
  intro j hj
  rcases (show j = 0 ∨ j = 1 ∨ j = 2 ∨ j = 3 ∨ j = 4 ∨ j = 5 ∨ j = 6 by omega) with rfl | rfl | rfl | rfl | rfl | rfl | rfl <;> rfl
def ZI (U : State) : Prop := va_AO RX0 U ∧ va_Nw (.methodLinkNest RX3 9 yX1_init "PageBail") U ∧ va_Nw (.methodLinkNest RX3 18 yX2_init "PageBail") U
theorem zw_I : ZW ZI := fun _ _ hW h => ⟨va_AO.moved hW.alike h.1, va_Nw.warmM hW h.2.1, va_Nw.warmM hW h.2.2⟩
/-- the register of a new object -/
def sg0 : Sg := (0, fun _ _ => 0, 0, fun _ => 0, 0, 0, 0, -1, fun _ => -1)
theorem Inv.z : Inv sg0 := ⟨by decide, fun j a b => by have h : j < 0 := b; omega, fun i j a b c => by have h : j < 0 := c; omega, by decide, fun j a b => by have h : j < 0 := b; omega, rfl, by decide, by decide, fun j a b => by show (-1 : Int) ≤ -1 ∧ (-1 : Int) ≤ 999; omega⟩
theorem w4 {g : Int → Int} {j : Int} (h : g = uI (uI (uI (uI (fun _ => 0) 0 (-1)) 1 (-1)) 2 (-1)) 3 (-1)) (h1 : 0 ≤ j) (h2 : j < 4) : g j = -1 := by
  rw [h]
  rcases (show j = 0 ∨ j = 1 ∨ j = 2 ∨ j = 3 by omega) with rfl | rfl | rfl | rfl <;> rfl

theorem iw_X1_init_X1 : ∀ w ∈ wsX10, w ∈ wsX1_init := by decide +kernel
theorem fz_X1_init_11 : XG wsX1_init RX1 11 1 0 true (tyX1 0) := ⟨RX1, TX1, 2, tyX1, iw_X1_init_X1, rfl, by decide, by decide +kernel, tyX1_ok, nmX1, rfl, rfl, by decide +kernel⟩
set_option maxHeartbeats 4000000 in
set_option maxRecDepth 100000 in
theorem c_X1_init (l : Launch) (D : va_G) (cs : ClassId × ClassId × ClassId) (L : List Nat) (f0 : Nat → va_E) (x : Nat) (hm_x : x ∈ L) (hf_x : f0 x = .inr (1, [.null, .int (iI 0)])) : C0z (va_AO RX0) l yX1_init wsX1_init ({ frames := 1, cells := 1, slots := 80, locals := 21 } : Room) D cs [.ref x] L f0 (fun v L1 f1 => v = none ∧ ∃ ba, ba ∉ L ∧ L1 = L ++ [ba] ∧ f1 x = .inr (1, [.ref ba, .int (iI 0)]) ∧ f1 ba = .inl (cs.2.1, 80, .inr (.inr (.inr (.inr (aR (fun _ => none)))))) ∧ ∀ b, b ≠ x → b ≠ ba → f1 b = f0 b) := by
  refine C0z.of (cc := cX1_init) (maxL := 1) (ret := none) (by decide) rfl (Nat.le_of_ble_eq_true rfl) ?_
  intro p e s m below meth c X hr hlk hin hzz A hA w ls hl
  have hl : lv_has ls 1 [(0, .ref x)] := hl
  have hfr : ∀ b, b ∈ L → b ≠ x → f0 b = f0 b := fun _ _ _ => rfl
  have hsub : ∀ b, b ∈ L → b ∈ L := fun _ h => h
  refine x_al_n X hl 0 rfl rfl dX1_init_0 ?_
  refine x_objI X hl ⟨by decide +kernel, by decide +kernel, by decide +kernel⟩ ⟨by decide, (Nat.le_of_ble_eq_true rfl)⟩ dX1_init_1 ?_
  refine x_al_n X hl 0 rfl rfl dX1_init_4 ?_
  refine x_bipush X (by decide) dX1_init_5 ?_
  refine x_newR (N := 80) (c1 := 1) (s1 := 80) X w hA (by decide +kernel) hzz (by decide) (by decide) rfl rfl dX1_init_7 (fun a7 H locs hn7 w => ?_)
  have hd_x_a7 : x ≠ a7 := fun he => hn7 (by rw [← he]; exact hm_x)
  have hd_a7_x := hd_x_a7.symm
  have h0_a7 : a7 ∉ L := fun h => hn7 (hsub _ h)
  have hsub : ∀ b, b ∈ L → b ∈ L ++ [a7] := fun b h => List.mem_append_left _ (hsub b h)
  have hm_x := List.mem_append_left [a7] hm_x
  have hm_a7 : a7 ∈ L ++ [a7] := List.mem_append_right _ List.mem_cons_self
  obtain ⟨fq10, w, hf_a7, hu⟩ : ∃ f9, XW D A s.heap (L ++ [a7]) f9 H locs ∧ f9 a7 = .inl (cs.2.1, 80, .inr (.inr (.inr (.inr (aR (fun _ => none)))))) ∧ (∀ b, b ≠ a7 → f9 b = f0 b) := ⟨_, w, va_up_self _ _ _, fun b hb => va_up_ne _ _ hb⟩
  have hf_x := (hu x hd_x_a7).trans hf_x
  have hfr : ∀ b, b ∈ L → b ≠ x → fq10 b = f0 b := fun b hb hx => (hu b (fun he => h0_a7 (by rw [← he]; exact hb))).trans (hfr b hb hx)
  have hu0 := hu
  refine x_putF X w hm_x hf_x fz_X1_init_11 hin rfl rfl (Nat.le_of_ble_eq_true rfl) rfl dX1_init_10 (fun H locs w => ?_)
  obtain ⟨fq13, w, hf_x, hu⟩ : ∃ f9, XW D A s.heap (L ++ [a7]) f9 H locs ∧ f9 x = .inr (1, [.ref a7, .int (iI 0)]) ∧ (∀ b, b ≠ x → f9 b = fq10 b) := ⟨_, w, va_up_self _ _ _, fun b hb => va_up_ne _ _ hb⟩
  have hf_a7 := (hu a7 hd_a7_x).trans hf_a7
  have hfr : ∀ b, b ∈ L → b ≠ x → fq13 b = f0 b := fun b hb hx => (hu b (hx)).trans (hfr b hb hx)
  refine x_vret X w hr hlk ⟨by decide, by decide⟩ dX1_init_13 ?_
  exact ⟨rfl, a7, hn7, rfl, hf_x, hf_a7, fun b h1 h2 => (hu b h1).trans (hu0 b h2)⟩

theorem iw_X2_init_X2 : ∀ w ∈ wsX20, w ∈ wsX2_init := by decide +kernel
theorem fz_X2_init_9 : XG wsX2_init RX2 9 2 0 true (tyX2 0) := ⟨RX2, TX2, 2, tyX2, iw_X2_init_X2, rfl, by decide, by decide +kernel, tyX2_ok, nmX2, rfl, rfl, by decide +kernel⟩
set_option maxHeartbeats 4000000 in
set_option maxRecDepth 100000 in
theorem c_X2_init (l : Launch) (D : va_G) (cs : ClassId × ClassId × ClassId) (L : List Nat) (f0 : Nat → va_E) (x : Nat) (hm_x : x ∈ L) (hf_x : f0 x = .inr (2, [.null, .int (iI 0)])) : C0z (fun _ => True) l yX2_init wsX2_init ({ frames := 1, cells := 1, slots := 80, locals := 21 } : Room) D cs [.ref x] L f0 (fun v L1 f1 => v = none ∧ ∃ ba, ba ∉ L ∧ L1 = L ++ [ba] ∧ f1 x = .inr (2, [.ref ba, .int (iI 0)]) ∧ f1 ba = .inl (cs.1, 80, .inl (aI (fun _ => 0))) ∧ ∀ b, b ≠ x → b ≠ ba → f1 b = f0 b) := by
  refine C0z.of (cc := cX2_init) (maxL := 1) (ret := none) (by decide) rfl (Nat.le_of_ble_eq_true rfl) ?_
  intro p e s m below meth c X hr hlk hin hzz A hA w ls hl
  have hl : lv_has ls 1 [(0, .ref x)] := hl
  have hfr : ∀ b, b ∈ L → b ≠ x → f0 b = f0 b := fun _ _ _ => rfl
  have hsub : ∀ b, b ∈ L → b ∈ L := fun _ h => h
  refine x_al_n X hl 0 rfl rfl dX2_init_0 ?_
  refine x_objI X hl ⟨by decide +kernel, by decide +kernel, by decide +kernel⟩ ⟨by decide, (Nat.le_of_ble_eq_true rfl)⟩ dX2_init_1 ?_
  refine x_al_n X hl 0 rfl rfl dX2_init_4 ?_
  refine x_bipush X (by decide) dX2_init_5 ?_
  refine x_newI (N := 80) (c1 := 1) (s1 := 80) X w hA (by decide +kernel) (by decide) (by decide) rfl rfl dX2_init_7 (fun a7 H locs hn7 w => ?_)
  have hd_x_a7 : x ≠ a7 := fun he => hn7 (by rw [← he]; exact hm_x)
  have hd_a7_x := hd_x_a7.symm
  have h0_a7 : a7 ∉ L := fun h => hn7 (hsub _ h)
  have hsub : ∀ b, b ∈ L → b ∈ L ++ [a7] := fun b h => List.mem_append_left _ (hsub b h)
  have hm_x := List.mem_append_left [a7] hm_x
  have hm_a7 : a7 ∈ L ++ [a7] := List.mem_append_right _ List.mem_cons_self
  obtain ⟨fq9, w, hf_a7, hu⟩ : ∃ f9, XW D A s.heap (L ++ [a7]) f9 H locs ∧ f9 a7 = .inl (cs.1, 80, .inl (aI (fun _ => 0))) ∧ (∀ b, b ≠ a7 → f9 b = f0 b) := ⟨_, w, va_up_self _ _ _, fun b hb => va_up_ne _ _ hb⟩
  have hf_x := (hu x hd_x_a7).trans hf_x
  have hfr : ∀ b, b ∈ L → b ≠ x → fq9 b = f0 b := fun b hb hx => (hu b (fun he => h0_a7 (by rw [← he]; exact hb))).trans (hfr b hb hx)
  have hu0 := hu
  refine x_putF X w hm_x hf_x fz_X2_init_9 hin rfl rfl (Nat.le_of_ble_eq_true rfl) rfl dX2_init_9 (fun H locs w => ?_)
  obtain ⟨fq12, w, hf_x, hu⟩ : ∃ f9, XW D A s.heap (L ++ [a7]) f9 H locs ∧ f9 x = .inr (2, [.ref a7, .int (iI 0)]) ∧ (∀ b, b ≠ x → f9 b = fq9 b) := ⟨_, w, va_up_self _ _ _, fun b hb => va_up_ne _ _ hb⟩
  have hf_a7 := (hu a7 hd_a7_x).trans hf_a7
  have hfr : ∀ b, b ∈ L → b ≠ x → fq12 b = f0 b := fun b hb hx => (hu b (hx)).trans (hfr b hb hx)
  refine x_vret X w hr hlk ⟨by decide, by decide⟩ dX2_init_12 ?_
  exact ⟨rfl, a7, hn7, rfl, hf_x, hf_a7, fun b h1 h2 => (hu b h1).trans (hu0 b h2)⟩

theorem iw_X3_init_X1 : ∀ w ∈ wsX10, w ∈ wsX3_init := by decide +kernel
theorem iw_X3_init_X3 : ∀ w ∈ wsX30, w ∈ wsX3_init := by decide +kernel
theorem fz_X3_init_10 : XG wsX3_init RX3 10 3 0 true (tyX3 0) := ⟨RX3, TX3, 7, tyX3, iw_X3_init_X3, rfl, by decide, by decide +kernel, tyX3_ok, nmX3, rfl, rfl, by decide +kernel⟩
theorem iw_X3_init_X2 : ∀ w ∈ wsX20, w ∈ wsX3_init := by decide +kernel
theorem fz_X3_init_19 : XG wsX3_init RX3 19 3 1 true (tyX3 1) := ⟨RX3, TX3, 7, tyX3, iw_X3_init_X3, rfl, by decide, by decide +kernel, tyX3_ok, nmX3, rfl, rfl, by decide +kernel⟩
theorem fz_X3_init_23 : XG wsX3_init RX3 23 3 2 true (tyX3 2) := ⟨RX3, TX3, 7, tyX3, iw_X3_init_X3, rfl, by decide, by decide +kernel, tyX3_ok, nmX3, rfl, rfl, by decide +kernel⟩
theorem fp_X3_init_27 : XGn wsX3_init RX3 27 3 6 (tyX3 6) := ⟨RX3, TX3, 7, tyX3, iw_X3_init_X3, rfl, by decide, by decide +kernel, tyX3_ok, nmX3, rfl, by decide +kernel⟩
set_option maxHeartbeats 4000000 in
set_option maxRecDepth 100000 in
theorem c_X3_init (l : Launch) (D : va_G) (cs : ClassId × ClassId × ClassId) (L : List Nat) (f0 : Nat → va_E) (x : Nat) (hm_x : x ∈ L) (hf_x : f0 x = .inr (3, [.null, .null, .null, .int (iI 0), .int (iI 0), .int (iI 0), .int (iI 0)])) : C0z ZI l yX3_init wsX3_init ({ frames := 2, cells := 5, slots := 168, locals := 41 } : Room) D cs [.ref x] L f0 (fun v L1 f1 => v = none ∧ (∀ b, b ∈ L → b ∈ L1) ∧ (∀ b, b ∈ L → b ≠ x → f1 b = f0 b) ∧ ∃ br ba pr sz lr, CC cs L1 f1 x br ba pr sz lr sg0) := by
  refine C0z.of (cc := cX3_init) (maxL := 1) (ret := none) (by decide) rfl (Nat.le_of_ble_eq_true rfl) ?_
  intro p e s m below meth c X hr hlk hin hzz A hA w ls hl
  have hl : lv_has ls 1 [(0, .ref x)] := hl
  have hfr : ∀ b, b ∈ L → b ≠ x → f0 b = f0 b := fun _ _ _ => rfl
  have hsub : ∀ b, b ∈ L → b ∈ L := fun _ h => h
  refine x_al_n X hl 0 rfl rfl dX3_init_0 ?_
  refine x_objI X hl ⟨by decide +kernel, by decide +kernel, by decide +kernel⟩ ⟨by decide, (Nat.le_of_ble_eq_true rfl)⟩ dX3_init_1 ?_
  refine x_al_n X hl 0 rfl rfl dX3_init_4 ?_
  refine x_newO (C := RX1) (T := TX1) (N := 2) (ci := 1) (c1 := 1) (s1 := 2) X w hA iw_X3_init_X1 tyX1_ok ⟨by decide +kernel, by decide +kernel, by decide +kernel⟩ rfl df_X1 (by decide) rfl rfl dX3_init_5 (fun a5 H locs hn5 w => ?_)
  have hd_x_a5 : x ≠ a5 := fun he => hn5 (by rw [← he]; exact hm_x)
  have hd_a5_x := hd_x_a5.symm
  have h0_a5 : a5 ∉ L := fun h => hn5 (hsub _ h)
  have hsub : ∀ b, b ∈ L → b ∈ L ++ [a5] := fun b h => List.mem_append_left _ (hsub b h)
  have hm_x := List.mem_append_left [a5] hm_x
  have hm_a5 : a5 ∈ L ++ [a5] := List.mem_append_right _ List.mem_cons_self
  obtain ⟨fq8, w, hf_a5, hu⟩ : ∃ f9, XW D A s.heap (L ++ [a5]) f9 H locs ∧ f9 a5 = .inr (1, [.null, .int (iI 0)]) ∧ (∀ b, b ≠ a5 → f9 b = f0 b) := ⟨_, w, va_up_self _ _ _, fun b hb => va_up_ne _ _ hb⟩
  have hf_x := (hu x hd_x_a5).trans hf_x
  have hfr : ∀ b, b ∈ L → b ≠ x → fq8 b = f0 b := fun b hb hx => (hu b (fun he => h0_a5 (by rw [← he]; exact hb))).trans (hfr b hb hx)
  refine x_dup X rfl dX3_init_8 ?_
  refine x_callIN (As := []) (rest := [.ref a5, .ref x]) (c1 := 2) (s1 := 82) (n := 0) (bytes := cX1_init) (maxL := 1) X w hA (fun _ _ hW h => va_AO.moved hW.alike h) hzz.1 (c_X1_init l D cs (L ++ [a5]) fq8 a5 hm_a5 hf_a5) gX3_init_X1_init_n9 ⟨_, rfl⟩ ⟨by decide +kernel, by decide +kernel⟩ rfl ⟨by decide, by decide, by decide +kernel⟩ hzz.2.1 (by decide) rfl hl rfl (Nat.le_of_ble_eq_true rfl) (by decide) rfl rfl dX3_init_9 (fun v L1 f1 H locs w hp => ?_)
  obtain ⟨rfl, b9, hn9, rfl, hf_a5, hf_b9, hu2⟩ := hp
  have hd_x_b9 : x ≠ b9 := fun he => hn9 (by rw [← he]; exact hm_x)
  have hd_b9_x := hd_x_b9.symm
  have hd_a5_b9 : a5 ≠ b9 := fun he => hn9 (by rw [← he]; exact hm_a5)
  have hd_b9_a5 := hd_a5_b9.symm
  have h0_b9 : b9 ∉ L := fun h => hn9 (hsub _ h)
  have hf_x := (hu2 x hd_x_a5 hd_x_b9).trans hf_x
  have hfr : ∀ b, b ∈ L → b ≠ x → f1 b = f0 b := fun b hb hx => (hu2 b (fun he => h0_a5 (by rw [← he]; exact hb)) (fun he => h0_b9 (by rw [← he]; exact hb))).trans (hfr b hb hx)
  have hsub : ∀ b, b ∈ L → b ∈ L ++ [a5] ++ [b9] := fun b h => List.mem_append_left _ (hsub b h)
  have hm_x := List.mem_append_left [b9] hm_x
  have hm_a5 := List.mem_append_left [b9] hm_a5
  have hm_b9 : b9 ∈ L ++ [a5] ++ [b9] := List.mem_append_right _ List.mem_cons_self
  show W p l e _ s m _ below meth c _ _ _ _ _ (F0 m 12 ls [.ref a5, .ref x])
  refine x_putF X w hm_x hf_x fz_X3_init_10 hin rfl rfl (Nat.le_of_ble_eq_true rfl) rfl dX3_init_12 (fun H locs w => ?_)
  obtain ⟨fq15, w, hf_x, hu⟩ : ∃ f9, XW D A s.heap (L ++ [a5] ++ [b9]) f9 H locs ∧ f9 x = .inr (3, [.ref a5, .null, .null, .int (iI 0), .int (iI 0), .int (iI 0), .int (iI 0)]) ∧ (∀ b, b ≠ x → f9 b = f1 b) := ⟨_, w, va_up_self _ _ _, fun b hb => va_up_ne _ _ hb⟩
  have hf_a5 := (hu a5 hd_a5_x).trans hf_a5
  have hf_b9 := (hu b9 hd_b9_x).trans hf_b9
  have hfr : ∀ b, b ∈ L → b ≠ x → fq15 b = f0 b := fun b hb hx => (hu b (hx)).trans (hfr b hb hx)
  refine x_al_n X hl 0 rfl rfl dX3_init_15 ?_
  refine x_newO (C := RX2) (T := TX2) (N := 2) (ci := 2) (c1 := 3) (s1 := 84) X w hA iw_X3_init_X2 tyX2_ok ⟨by decide +kernel, by decide +kernel, by decide +kernel⟩ rfl df_X2 (by decide) rfl rfl dX3_init_16 (fun a16 H locs hn16 w => ?_)
  have hd_x_a16 : x ≠ a16 := fun he => hn16 (by rw [← he]; exact hm_x)
  have hd_a16_x := hd_x_a16.symm
  have hd_a5_a16 : a5 ≠ a16 := fun he => hn16 (by rw [← he]; exact hm_a5)
  have hd_a16_a5 := hd_a5_a16.symm
  have hd_b9_a16 : b9 ≠ a16 := fun he => hn16 (by rw [← he]; exact hm_b9)
  have hd_a16_b9 := hd_b9_a16.symm
  have h0_a16 : a16 ∉ L := fun h => hn16 (hsub _ h)
  have hsub : ∀ b, b ∈ L → b ∈ L ++ [a5] ++ [b9] ++ [a16] := fun b h => List.mem_append_left _ (hsub b h)
  have hm_x := List.mem_append_left [a16] hm_x
  have hm_a5 := List.mem_append_left [a16] hm_a5
  have hm_b9 := List.mem_append_left [a16] hm_b9
  have hm_a16 : a16 ∈ L ++ [a5] ++ [b9] ++ [a16] := List.mem_append_right _ List.mem_cons_self
  obtain ⟨fq19, w, hf_a16, hu⟩ : ∃ f9, XW D A s.heap (L ++ [a5] ++ [b9] ++ [a16]) f9 H locs ∧ f9 a16 = .inr (2, [.null, .int (iI 0)]) ∧ (∀ b, b ≠ a16 → f9 b = fq15 b) := ⟨_, w, va_up_self _ _ _, fun b hb => va_up_ne _ _ hb⟩
  have hf_x := (hu x hd_x_a16).trans hf_x
  have hf_a5 := (hu a5 hd_a5_a16).trans hf_a5
  have hf_b9 := (hu b9 hd_b9_a16).trans hf_b9
  have hfr : ∀ b, b ∈ L → b ≠ x → fq19 b = f0 b := fun b hb hx => (hu b (fun he => h0_a16 (by rw [← he]; exact hb))).trans (hfr b hb hx)
  refine x_dup X rfl dX3_init_19 ?_
  refine x_callIN (As := []) (rest := [.ref a16, .ref x]) (c1 := 4) (s1 := 164) (n := 0) (bytes := cX2_init) (maxL := 1) X w hA (fun _ _ _ h => h) trivial (c_X2_init l D cs (L ++ [a5] ++ [b9] ++ [a16]) fq19 a16 hm_a16 hf_a16) gX3_init_X2_init_n18 ⟨_, rfl⟩ ⟨by decide +kernel, by decide +kernel⟩ rfl ⟨by decide, by decide, by decide +kernel⟩ hzz.2.2 (by decide) rfl hl rfl (Nat.le_of_ble_eq_true rfl) (by decide) rfl rfl dX3_init_20 (fun v L1 f1 H locs w hp => ?_)
  obtain ⟨rfl, b20, hn20, rfl, hf_a16, hf_b20, hu2⟩ := hp
  have hd_x_b20 : x ≠ b20 := fun he => hn20 (by rw [← he]; exact hm_x)
  have hd_b20_x := hd_x_b20.symm
  have hd_a5_b20 : a5 ≠ b20 := fun he => hn20 (by rw [← he]; exact hm_a5)
  have hd_b20_a5 := hd_a5_b20.symm
  have hd_b9_b20 : b9 ≠ b20 := fun he => hn20 (by rw [← he]; exact hm_b9)
  have hd_b20_b9 := hd_b9_b20.symm
  have hd_a16_b20 : a16 ≠ b20 := fun he => hn20 (by rw [← he]; exact hm_a16)
  have hd_b20_a16 := hd_a16_b20.symm
  have h0_b20 : b20 ∉ L := fun h => hn20 (hsub _ h)
  have hf_x := (hu2 x hd_x_a16 hd_x_b20).trans hf_x
  have hf_a5 := (hu2 a5 hd_a5_a16 hd_a5_b20).trans hf_a5
  have hf_b9 := (hu2 b9 hd_b9_a16 hd_b9_b20).trans hf_b9
  have hfr : ∀ b, b ∈ L → b ≠ x → f1 b = f0 b := fun b hb hx => (hu2 b (fun he => h0_a16 (by rw [← he]; exact hb)) (fun he => h0_b20 (by rw [← he]; exact hb))).trans (hfr b hb hx)
  have hsub : ∀ b, b ∈ L → b ∈ L ++ [a5] ++ [b9] ++ [a16] ++ [b20] := fun b h => List.mem_append_left _ (hsub b h)
  have hm_x := List.mem_append_left [b20] hm_x
  have hm_a5 := List.mem_append_left [b20] hm_a5
  have hm_b9 := List.mem_append_left [b20] hm_b9
  have hm_a16 := List.mem_append_left [b20] hm_a16
  have hm_b20 : b20 ∈ L ++ [a5] ++ [b9] ++ [a16] ++ [b20] := List.mem_append_right _ List.mem_cons_self
  show W p l e _ s m _ below meth c _ _ _ _ _ (F0 m 23 ls [.ref a16, .ref x])
  refine x_putF X w hm_x hf_x fz_X3_init_19 hin rfl rfl (Nat.le_of_ble_eq_true rfl) rfl dX3_init_23 (fun H locs w => ?_)
  obtain ⟨fq26, w, hf_x, hu⟩ : ∃ f9, XW D A s.heap (L ++ [a5] ++ [b9] ++ [a16] ++ [b20]) f9 H locs ∧ f9 x = .inr (3, [.ref a5, .ref a16, .null, .int (iI 0), .int (iI 0), .int (iI 0), .int (iI 0)]) ∧ (∀ b, b ≠ x → f9 b = f1 b) := ⟨_, w, va_up_self _ _ _, fun b hb => va_up_ne _ _ hb⟩
  have hf_a5 := (hu a5 hd_a5_x).trans hf_a5
  have hf_b9 := (hu b9 hd_b9_x).trans hf_b9
  have hf_a16 := (hu a16 hd_a16_x).trans hf_a16
  have hf_b20 := (hu b20 hd_b20_x).trans hf_b20
  have hfr : ∀ b, b ∈ L → b ≠ x → fq26 b = f0 b := fun b hb hx => (hu b (hx)).trans (hfr b hb hx)
  refine x_al_n X hl 0 rfl rfl dX3_init_26 ?_
  refine x_iconst X dX3_init_27 ?_
  refine x_newI (N := 4) (c1 := 5) (s1 := 168) X w hA (by decide +kernel) (by decide) (by decide) rfl rfl dX3_init_28 (fun a28 H locs hn28 w => ?_)
  have hd_x_a28 : x ≠ a28 := fun he => hn28 (by rw [← he]; exact hm_x)
  have hd_a28_x := hd_x_a28.symm
  have hd_a5_a28 : a5 ≠ a28 := fun he => hn28 (by rw [← he]; exact hm_a5)
  have hd_a28_a5 := hd_a5_a28.symm
  have hd_b9_a28 : b9 ≠ a28 := fun he => hn28 (by rw [← he]; exact hm_b9)
  have hd_a28_b9 := hd_b9_a28.symm
  have hd_a16_a28 : a16 ≠ a28 := fun he => hn28 (by rw [← he]; exact hm_a16)
  have hd_a28_a16 := hd_a16_a28.symm
  have hd_b20_a28 : b20 ≠ a28 := fun he => hn28 (by rw [← he]; exact hm_b20)
  have hd_a28_b20 := hd_b20_a28.symm
  have h0_a28 : a28 ∉ L := fun h => hn28 (hsub _ h)
  have hsub : ∀ b, b ∈ L → b ∈ L ++ [a5] ++ [b9] ++ [a16] ++ [b20] ++ [a28] := fun b h => List.mem_append_left _ (hsub b h)
  have hm_x := List.mem_append_left [a28] hm_x
  have hm_a5 := List.mem_append_left [a28] hm_a5
  have hm_b9 := List.mem_append_left [a28] hm_b9
  have hm_a16 := List.mem_append_left [a28] hm_a16
  have hm_b20 := List.mem_append_left [a28] hm_b20
  have hm_a28 : a28 ∈ L ++ [a5] ++ [b9] ++ [a16] ++ [b20] ++ [a28] := List.mem_append_right _ List.mem_cons_self
  obtain ⟨fq30, w, hf_a28, hu⟩ : ∃ f9, XW D A s.heap (L ++ [a5] ++ [b9] ++ [a16] ++ [b20] ++ [a28]) f9 H locs ∧ f9 a28 = .inl (cs.1, 4, .inl (aI (fun _ => 0))) ∧ (∀ b, b ≠ a28 → f9 b = fq26 b) := ⟨_, w, va_up_self _ _ _, fun b hb => va_up_ne _ _ hb⟩
  have hf_x := (hu x hd_x_a28).trans hf_x
  have hf_a5 := (hu a5 hd_a5_a28).trans hf_a5
  have hf_b9 := (hu b9 hd_b9_a28).trans hf_b9
  have hf_a16 := (hu a16 hd_a16_a28).trans hf_a16
  have hf_b20 := (hu b20 hd_b20_a28).trans hf_b20
  have hfr : ∀ b, b ∈ L → b ≠ x → fq30 b = f0 b := fun b hb hx => (hu b (fun he => h0_a28 (by rw [← he]; exact hb))).trans (hfr b hb hx)
  refine x_dup X rfl dX3_init_30 ?_
  refine x_iconst X dX3_init_31 ?_
  refine x_iconst X dX3_init_32 ?_
  refine x_iast X w hm_a28 hf_a28 (by omega) dX3_init_33 (fun H locs w => ?_)
  obtain ⟨fq34, w, hf_a28, hu⟩ : ∃ f9, XW D A s.heap (L ++ [a5] ++ [b9] ++ [a16] ++ [b20] ++ [a28]) f9 H locs ∧ f9 a28 = .inl (cs.1, 4, .inl (aI (uI (fun _ => 0) 0 (-1)))) ∧ (∀ b, b ≠ a28 → f9 b = fq30 b) := ⟨_, w, va_up_self _ _ _, fun b hb => va_up_ne _ _ hb⟩
  have hf_x := (hu x hd_x_a28).trans hf_x
  have hf_a5 := (hu a5 hd_a5_a28).trans hf_a5
  have hf_b9 := (hu b9 hd_b9_a28).trans hf_b9
  have hf_a16 := (hu a16 hd_a16_a28).trans hf_a16
  have hf_b20 := (hu b20 hd_b20_a28).trans hf_b20
  have hfr : ∀ b, b ∈ L → b ≠ x → fq34 b = f0 b := fun b hb hx => (hu b (fun he => h0_a28 (by rw [← he]; exact hb))).trans (hfr b hb hx)
  refine x_dup X rfl dX3_init_34 ?_
  refine x_iconst X dX3_init_35 ?_
  refine x_iconst X dX3_init_36 ?_
  refine x_iast X w hm_a28 hf_a28 (by omega) dX3_init_37 (fun H locs w => ?_)
  obtain ⟨fq38, w, hf_a28, hu⟩ : ∃ f9, XW D A s.heap (L ++ [a5] ++ [b9] ++ [a16] ++ [b20] ++ [a28]) f9 H locs ∧ f9 a28 = .inl (cs.1, 4, .inl (aI (uI (uI (fun _ => 0) 0 (-1)) 1 (-1)))) ∧ (∀ b, b ≠ a28 → f9 b = fq34 b) := ⟨_, w, va_up_self _ _ _, fun b hb => va_up_ne _ _ hb⟩
  have hf_x := (hu x hd_x_a28).trans hf_x
  have hf_a5 := (hu a5 hd_a5_a28).trans hf_a5
  have hf_b9 := (hu b9 hd_b9_a28).trans hf_b9
  have hf_a16 := (hu a16 hd_a16_a28).trans hf_a16
  have hf_b20 := (hu b20 hd_b20_a28).trans hf_b20
  have hfr : ∀ b, b ∈ L → b ≠ x → fq38 b = f0 b := fun b hb hx => (hu b (fun he => h0_a28 (by rw [← he]; exact hb))).trans (hfr b hb hx)
  refine x_dup X rfl dX3_init_38 ?_
  refine x_iconst X dX3_init_39 ?_
  refine x_iconst X dX3_init_40 ?_
  refine x_iast X w hm_a28 hf_a28 (by omega) dX3_init_41 (fun H locs w => ?_)
  obtain ⟨fq42, w, hf_a28, hu⟩ : ∃ f9, XW D A s.heap (L ++ [a5] ++ [b9] ++ [a16] ++ [b20] ++ [a28]) f9 H locs ∧ f9 a28 = .inl (cs.1, 4, .inl (aI (uI (uI (uI (fun _ => 0) 0 (-1)) 1 (-1)) 2 (-1)))) ∧ (∀ b, b ≠ a28 → f9 b = fq38 b) := ⟨_, w, va_up_self _ _ _, fun b hb => va_up_ne _ _ hb⟩
  have hf_x := (hu x hd_x_a28).trans hf_x
  have hf_a5 := (hu a5 hd_a5_a28).trans hf_a5
  have hf_b9 := (hu b9 hd_b9_a28).trans hf_b9
  have hf_a16 := (hu a16 hd_a16_a28).trans hf_a16
  have hf_b20 := (hu b20 hd_b20_a28).trans hf_b20
  have hfr : ∀ b, b ∈ L → b ≠ x → fq42 b = f0 b := fun b hb hx => (hu b (fun he => h0_a28 (by rw [← he]; exact hb))).trans (hfr b hb hx)
  refine x_dup X rfl dX3_init_42 ?_
  refine x_iconst X dX3_init_43 ?_
  refine x_iconst X dX3_init_44 ?_
  refine x_iast X w hm_a28 hf_a28 (by omega) dX3_init_45 (fun H locs w => ?_)
  obtain ⟨fq46, w, hf_a28, hu⟩ : ∃ f9, XW D A s.heap (L ++ [a5] ++ [b9] ++ [a16] ++ [b20] ++ [a28]) f9 H locs ∧ f9 a28 = .inl (cs.1, 4, .inl (aI (uI (uI (uI (uI (fun _ => 0) 0 (-1)) 1 (-1)) 2 (-1)) 3 (-1)))) ∧ (∀ b, b ≠ a28 → f9 b = fq42 b) := ⟨_, w, va_up_self _ _ _, fun b hb => va_up_ne _ _ hb⟩
  have hf_x := (hu x hd_x_a28).trans hf_x
  have hf_a5 := (hu a5 hd_a5_a28).trans hf_a5
  have hf_b9 := (hu b9 hd_b9_a28).trans hf_b9
  have hf_a16 := (hu a16 hd_a16_a28).trans hf_a16
  have hf_b20 := (hu b20 hd_b20_a28).trans hf_b20
  have hfr : ∀ b, b ∈ L → b ≠ x → fq46 b = f0 b := fun b hb hx => (hu b (fun he => h0_a28 (by rw [← he]; exact hb))).trans (hfr b hb hx)
  refine x_putF X w hm_x hf_x fz_X3_init_23 hin rfl rfl (Nat.le_of_ble_eq_true rfl) rfl dX3_init_46 (fun H locs w => ?_)
  obtain ⟨fq49, w, hf_x, hu⟩ : ∃ f9, XW D A s.heap (L ++ [a5] ++ [b9] ++ [a16] ++ [b20] ++ [a28]) f9 H locs ∧ f9 x = .inr (3, [.ref a5, .ref a16, .ref a28, .int (iI 0), .int (iI 0), .int (iI 0), .int (iI 0)]) ∧ (∀ b, b ≠ x → f9 b = fq46 b) := ⟨_, w, va_up_self _ _ _, fun b hb => va_up_ne _ _ hb⟩
  have hf_a5 := (hu a5 hd_a5_x).trans hf_a5
  have hf_b9 := (hu b9 hd_b9_x).trans hf_b9
  have hf_a16 := (hu a16 hd_a16_x).trans hf_a16
  have hf_b20 := (hu b20 hd_b20_x).trans hf_b20
  have hf_a28 := (hu a28 hd_a28_x).trans hf_a28
  have hfr : ∀ b, b ∈ L → b ≠ x → fq49 b = f0 b := fun b hb hx => (hu b (hx)).trans (hfr b hb hx)
  refine x_al_n X hl 0 rfl rfl dX3_init_49 ?_
  refine x_iconst X dX3_init_50 ?_
  refine x_put X w hm_x hf_x fp_X3_init_27 rfl rfl (Nat.le_of_ble_eq_true rfl) rfl dX3_init_51 (fun H locs w => ?_)
  obtain ⟨fq54, w, hf_x, hu⟩ : ∃ f9, XW D A s.heap (L ++ [a5] ++ [b9] ++ [a16] ++ [b20] ++ [a28]) f9 H locs ∧ f9 x = .inr (3, [.ref a5, .ref a16, .ref a28, .int (iI 0), .int (iI 0), .int (iI 0), .int (iI (-1))]) ∧ (∀ b, b ≠ x → f9 b = fq49 b) := ⟨_, w, va_up_self _ _ _, fun b hb => va_up_ne _ _ hb⟩
  have hf_a5 := (hu a5 hd_a5_x).trans hf_a5
  have hf_b9 := (hu b9 hd_b9_x).trans hf_b9
  have hf_a16 := (hu a16 hd_a16_x).trans hf_a16
  have hf_b20 := (hu b20 hd_b20_x).trans hf_b20
  have hf_a28 := (hu a28 hd_a28_x).trans hf_a28
  have hfr : ∀ b, b ∈ L → b ≠ x → fq54 b = f0 b := fun b hb hx => (hu b (hx)).trans (hfr b hb hx)
  refine x_vret X w hr hlk ⟨by decide, by decide⟩ dX3_init_54 ?_
  refine ⟨rfl, hsub, hfr, a5, b9, a16, b20, a28, hm_x, hf_x, hm_a28, ⟨_, hf_a28, fun j h1 h2 => w4 rfl h1 h2⟩, hd_a28_b20, ⟨fun _ => 0, ⟨hm_a16, hm_b20, hf_a16, hf_b20⟩, fun _ _ _ => rfl⟩, fun _ => none, ⟨hm_a5, hm_b9, hf_a5, hf_b9⟩, fun j h1 h2 => ?_⟩
  have h3 : j < 0 := h2
  omega
