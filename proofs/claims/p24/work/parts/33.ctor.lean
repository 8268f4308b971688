/-! new objects, constructors; a record's constructor -/
section XNEW
variable {p : Program} {l : Launch} {e : Env} {R : Room} {s : State} {m : MethodId} {args : Array Value} {below : List Frame} {meth : Method} {c : Code} {H : Heap} {locs : List Loc} {cells slots c1 s1 : Nat} {Q : State → Prop}
variable {cc : ByteArray} {nL pc : Nat} {ls : Array Slot} {rest st : List Value} {Ts : List Cond} {own : String} {D : va_G} {cs : ClassId × ClassId × ClassId} {A : Nat → Prop} {H0 : Heap} {L : List Nat} {f : Nat → va_E} {lv lv' : List (Nat × Value)}
variable {y : MethodName} {ws : List Cond} {bytes : ByteArray} {maxL : Nat} {rm : Room} {index n : Nat} {As : List Value} {post : Option Value → List Nat → (Nat → va_E) → Prop}
theorem xw_push {q : Nat} {e : va_E} (hP : va_P D vwCl (va_pl L f ++ [(q, e)]) H) (hD : va_D A (va_pl L f ++ [(q, e)])) (hS : va_S A H0 H locs) : q ∉ L ∧ XW D A H0 (L ++ [q]) (va_up f q e) H locs := by
  have hq : q ∉ L := by
    intro hm
    obtain ⟨i, hi⟩ := va_pl_get (X := []) (f := f) hm
    rw [List.nil_append] at hi
    have hlt : i < (va_pl L f).length := (List.getElem?_eq_some_iff.mp hi).1
    have h1 : (va_pl L f ++ [(q, e)])[i]? = some (q, f q) := by rw [List.getElem?_append_left hlt]; exact hi
    have h2 : (va_pl L f ++ [(q, e)])[(va_pl L f).length]? = some (q, e) := by rw [List.getElem?_append_right (Nat.le_refl _), Nat.sub_self]; rfl
    have h3 := hD.1 i (va_pl L f).length _ _ h1 h2 rfl
    omega
  rw [va_pl_push hq] at hP hD
  exact ⟨hq, hP, hD, hS⟩
theorem x_newO {C : String} {T : u_T} {N ci : Nat} {fs : List Value} {ty0 : Nat → FieldType} (X : XX p m c cc nL s args Ts own D cs) (w : XW D A H0 L f H locs) (hA : ∀ q, H0.size ≤ q → A q) (hin : ∀ w ∈ u_ws C T N, w ∈ Ts) (hty : ∀ k, k < N → parseFieldDescriptor (T k).2.2.1 = some (ty0 k)) (h1 : Cond.classLink own index C ∈ Ts ∧ Cond.instantiable C N ∈ Ts ∧ Cond.initialized C ∈ Ts) (hc : vwCl[ci]? = some (C, T, N)) (hfs : ∀ j, j < N → defaultValue (ty0 j) = vp_V fs j) (hR : cells + 1 ≤ R.cells ∧ slots + N ≤ R.slots) (hc1 : cells + 1 = c1) (hs1 : slots + N = s1) (hdg : decode cc pc = .ok (.new index, 3))
    (kk : ∀ (q : Nat) (H : Heap) (locs : List Loc), q ∉ L → XW D A H0 (L ++ [q]) (va_up f q (.inr (ci, fs))) H locs → W p l e R s m args below meth c H locs c1 s1 Q (F0 m (pc + 3) ls (.ref q :: rest))) : W p l e R s m args below meth c H locs cells slots Q (F0 m pc ls rest) := by
  subst hc1; subst hs1
  have ht := X.1.2.2.2.2
  refine va_new X.1.1 X.1.2.1 ht hin ty0 hty X.1.2.2.2.1 (ht _ h1.1) (ht _ h1.2.1) (ht _ h1.2.2) X.2 w.1 w.2.1 w.2.2 hA hc hfs hR.1 hR.2 hdg (fun q H1 hP hD hS => ?_)
  obtain ⟨hq, w1⟩ := xw_push hP hD hS
  exact kk q H1 _ hq w1
theorem x_objI (X : XX p m c cc nL s args Ts own D cs) {a : Nat} (hl : lv_has ls nL lv) (h1 : Cond.methodLink own index objectInit ∈ Ts ∧ Cond.instanceMethod objectInit ∈ Ts ∧ Cond.code objectInit ⟨#[0xb1]⟩ 1 none ∈ Ts) (hR : 1 ≤ R.frames ∧ (rest.map fun v => v.category).sum + 12 ≤ R.locals) (hdg : decode cc pc = .ok (.invokespecial index, 3))
    (kk : W p l e R s m args below meth c H locs cells slots Q (F0 m (pc + 3) ls rest)) : W p l e R s m args below meth c H locs cells slots Q (F0 m pc ls (.ref a :: rest)) := by
  have ht := X.1.2.2.2.2
  refine W.objInit X.1.1 X.1.2.1 X.1.2.2.2.1 (ht _ h1.1) (ht _ h1.2.1) (ht _ h1.2.2) rfl (hl.1.trans X.1.2.2.1.symm) rfl hdg hR.1 (by have h9 := hR.2; show 2 * 0 + _ + 12 ≤ _; omega) ?_
  exact W.eq (g2 := F0 m (pc + 3) ls rest) rfl kk
def XI (Ts : List Cond) (own : String) (index : Nat) (y : MethodName) (bytes : ByteArray) (maxL : Nat) (ws : List Cond) (n : Nat) : Prop := GoodIn Ts ws ∧ (∃ ws', ws = Cond.code y bytes maxL none :: ws') ∧ (Cond.initialized y.cls ∈ Ts ∧ Cond.methodLink own index y ∈ Ts ∧ Cond.instanceMethod y ∈ Ts) ∧ y.name = "<init>" ∧ (y.cls ≠ "java/lang/invoke/MethodHandle" ∧ y.cls ≠ "java/lang/invoke/VarHandle" ∧ (parseMethodDescriptor y.desc).map (fun d => d.parameters.length) = some n)
theorem x_callI {b : Nat} (X : XX p m c cc nL s args Ts own D cs) (w : XW D A H0 L f H locs) (hA : ∀ q, H0.size ≤ q → A q) (hC : C0 l y ws rm D cs (.ref b :: As) L f post) (hk : XI Ts own index y bytes maxL ws n) (hR : rm.frames + 1 ≤ R.frames ∧ 8 + (maxL + 11) + rm.locals ≤ R.locals) (hn : As.length = n) (hl : lv_has ls nL lv) (hst : st = As.reverse ++ .ref b :: rest) (hrm : (rest.map fun v => v.category).sum ≤ 8) (hcs : cells + rm.cells ≤ R.cells ∧ slots + rm.slots ≤ R.slots) (hc1 : cells + rm.cells = c1) (hs1 : slots + rm.slots = s1) (hdg : decode cc pc = .ok (.invokespecial index, 3))
    (kk : ∀ (v : Option Value) (L : List Nat) (f : Nat → va_E) (H : Heap) (locs : List Loc), XW D A H0 L f H locs → post v L f → W p l e R s m args below meth c H locs c1 s1 Q (F0 m (pc + 3) ls (v.toList ++ rest))) : W p l e R s m args below meth c H locs cells slots Q (F0 m pc ls st) := by
  subst hst
  obtain ⟨hG, ⟨ws', hw⟩, hd1, hy, hd⟩ := hk
  have ht := X.1.2.2.2.2
  exact x_run w hA (va_runI (As := As) (rest := rest) X.1 (hC H.size) (cwI n ht hG hw rfl rfl (ht _ hd1.1) (ht _ hd1.2.1) (ht _ hd1.2.2) hy hd hR) ⟨cp_blind, x_pre X w⟩ rfl hn hl.1 rfl (lv_room hrm) hdg hcs) hc1 hs1 kk
end XNEW
theorem df_X0 : ∀ j, j < 5 → defaultValue (tyX0 j) = vp_V [.int (iI 0), .int (iI 0), .int (iI 0), .int (iI 0), .int (iI 0)] j := by
  intro j hj
  rcases (show j = 0 ∨ j = 1 ∨ j = 2 ∨ j = 3 ∨ j = 4 by omega) with rfl | rfl | rfl | rfl | rfl <;> rfl

theorem iw_X0_init_X0 : ∀ w ∈ wsX00, w ∈ wsX0_init := by decide +kernel
theorem fz_X0_init_9 : XG wsX0_init RX0 9 0 0 true (tyX0 0) := ⟨RX0, TX0, 5, tyX0, iw_X0_init_X0, rfl, by decide, by decide +kernel, tyX0_ok, nmX0, rfl, rfl, by decide +kernel⟩
theorem fz_X0_init_15 : XG wsX0_init RX0 15 0 1 true (tyX0 1) := ⟨RX0, TX0, 5, tyX0, iw_X0_init_X0, rfl, by decide, by decide +kernel, tyX0_ok, nmX0, rfl, rfl, by decide +kernel⟩
theorem fz_X0_init_18 : XG wsX0_init RX0 18 0 2 true (tyX0 2) := ⟨RX0, TX0, 5, tyX0, iw_X0_init_X0, rfl, by decide, by decide +kernel, tyX0_ok, nmX0, rfl, rfl, by decide +kernel⟩
theorem fz_X0_init_21 : XG wsX0_init RX0 21 0 3 true (tyX0 3) := ⟨RX0, TX0, 5, tyX0, iw_X0_init_X0, rfl, by decide, by decide +kernel, tyX0_ok, nmX0, rfl, rfl, by decide +kernel⟩
theorem fp_X0_init_24 : XGn wsX0_init RX0 24 0 4 (tyX0 4) := ⟨RX0, TX0, 5, tyX0, iw_X0_init_X0, rfl, by decide, by decide +kernel, tyX0_ok, nmX0, rfl, by decide +kernel⟩
set_option maxHeartbeats 4000000 in
set_option maxRecDepth 100000 in
theorem c_X0_init (l : Launch) (D : va_G) (cs : ClassId × ClassId × ClassId) (L : List Nat) (f0 : Nat → va_E) (a : Nat) (nu su sy pd : Int) (ma : a ∈ L) (fa : f0 a = .inr (0, [.int (iI 0), .int (iI 0), .int (iI 0), .int (iI 0), .int (iI 0)])) : C0 l yX0_init wsX0_init ({ frames := 1, cells := 0, slots := 0, locals := 21 } : Room) D cs [.ref a, .int (iI nu), .int (iI su), .int (iI sy), .int (iI pd)] L f0 (fun v L1 f1 => v = none ∧ L = L1 ∧ f1 a = bR (nR nu su sy pd) ∧ FR f0 f1 a a) := by
  refine C0.of (cc := cX0_init) (maxL := 5) (ret := none) (by decide) rfl (Nat.le_of_ble_eq_true rfl) ?_
  intro p e s m below meth c X hr hlk hin A hA w ls hl
  have hl : lv_has ls 5 [(0, .ref a), (1, .int (iI nu)), (2, .int (iI su)), (3, .int (iI sy)), (4, .int (iI pd))] := hl
  have fr : FR f0 f0 a a := FR.rf _ _ _
  refine x_al_n X hl 0 rfl rfl dX0_init_0 ?_
  refine x_objI X hl ⟨by decide +kernel, by decide +kernel, by decide +kernel⟩ ⟨by decide, (Nat.le_of_ble_eq_true rfl)⟩ dX0_init_1 ?_
  refine x_al_n X hl 0 rfl rfl dX0_init_4 ?_
  refine x_il_n X hl 1 rfl rfl dX0_init_5 ?_
  refine x_putF X w ma fa fz_X0_init_9 hin rfl rfl (Nat.le_of_ble_eq_true rfl) rfl dX0_init_6 (fun H locs w => ?_)
  obtain ⟨f9, w, fa, fr⟩ : ∃ f9, XW D A s.heap L f9 H locs ∧ f9 a = .inr (0, [.int (iI nu), .int (iI 0), .int (iI 0), .int (iI 0), .int (iI 0)]) ∧ FR f0 f9 a a := ⟨_, w, va_up_self _ _ _, fr.up1⟩
  refine x_al_n X hl 0 rfl rfl dX0_init_9 ?_
  refine x_il_n X hl 2 rfl rfl dX0_init_10 ?_
  refine x_putF X w ma fa fz_X0_init_15 hin rfl rfl (Nat.le_of_ble_eq_true rfl) rfl dX0_init_11 (fun H locs w => ?_)
  obtain ⟨f14, w, fa, fr⟩ : ∃ f9, XW D A s.heap L f9 H locs ∧ f9 a = .inr (0, [.int (iI nu), .int (iI su), .int (iI 0), .int (iI 0), .int (iI 0)]) ∧ FR f0 f9 a a := ⟨_, w, va_up_self _ _ _, fr.up1⟩
  refine x_al_n X hl 0 rfl rfl dX0_init_14 ?_
  refine x_il_n X hl 3 rfl rfl dX0_init_15 ?_
  refine x_putF X w ma fa fz_X0_init_18 hin rfl rfl (Nat.le_of_ble_eq_true rfl) rfl dX0_init_16 (fun H locs w => ?_)
  obtain ⟨f19, w, fa, fr⟩ : ∃ f9, XW D A s.heap L f9 H locs ∧ f9 a = .inr (0, [.int (iI nu), .int (iI su), .int (iI sy), .int (iI 0), .int (iI 0)]) ∧ FR f0 f9 a a := ⟨_, w, va_up_self _ _ _, fr.up1⟩
  refine x_al_n X hl 0 rfl rfl dX0_init_19 ?_
  refine x_il X hl 4 rfl dX0_init_20 ?_
  refine x_putF X w ma fa fz_X0_init_21 hin rfl rfl (Nat.le_of_ble_eq_true rfl) rfl dX0_init_22 (fun H locs w => ?_)
  obtain ⟨f25, w, fa, fr⟩ : ∃ f9, XW D A s.heap L f9 H locs ∧ f9 a = .inr (0, [.int (iI nu), .int (iI su), .int (iI sy), .int (iI pd), .int (iI 0)]) ∧ FR f0 f9 a a := ⟨_, w, va_up_self _ _ _, fr.up1⟩
  refine x_al_n X hl 0 rfl rfl dX0_init_25 ?_
  refine x_iconst X dX0_init_26 ?_
  refine x_put X w ma fa fp_X0_init_24 rfl rfl (Nat.le_of_ble_eq_true rfl) rfl dX0_init_27 (fun H locs w => ?_)
  obtain ⟨f30, w, fa, fr⟩ : ∃ f9, XW D A s.heap L f9 H locs ∧ f9 a = .inr (0, [.int (iI nu), .int (iI su), .int (iI sy), .int (iI pd), .int (iI (-1))]) ∧ FR f0 f9 a a := ⟨_, w, va_up_self _ _ _, fr.up1⟩
  refine x_vret X w hr hlk ⟨by decide, by decide⟩ dX0_init_30 ?_
  exact ⟨rfl, rfl, fa, fr⟩
