/-! contracts that read the script -/
def CPx (b LL : Nat) (xs : Nat → Int32) (D : va_G) (cs : ClassId × ClassId × ClassId) (args : List Value) (sz : Nat) (L : List Nat) (f : Nat → va_E) : Array Value → State → Prop := va_Pc args (fun U => U.heap.size = sz ∧ va_P D vwCl (va_pl L f) U.heap ∧ va_K D vwCl (ty3 cs) U ∧ va_D (fun _ => True) (va_pl L f) ∧ va_X b LL xs U U.heap ∧ b < sz ∧ b ∉ L)
def C0x (b LL : Nat) (xs : Nat → Int32) (l : Launch) (y : MethodName) (ws : List Cond) (rm : Room) (D : va_G) (cs : ClassId × ClassId × ClassId) (args : List Value) (L : List Nat) (f : Nat → va_E) (post : Option Value → List Nat → (Nat → va_E) → Prop) : Prop :=
  ∀ sz : Nat, Met l y ws rm (CPx b LL xs D cs args sz L f) (CQ D cs (va_A (va_pl L f) sz) post) rm.cells rm.slots (va_A (va_pl L f) sz)
section XSCR
variable {p : Program} {l : Launch} {e : Env} {R : Room} {s : State} {m : MethodId} {args : Array Value} {below : List Frame} {meth : Method} {c : Code} {H : Heap} {locs : List Loc} {cells slots c1 s1 : Nat} {Q : State → Prop}
variable {cc : ByteArray} {nL pc : Nat} {ls : Array Slot} {rest st : List Value} {Ts : List Cond} {own : String} {D : va_G} {cs : ClassId × ClassId × ClassId} {A : Nat → Prop} {L : List Nat} {f : Nat → va_E} {lv lv' : List (Nat × Value)}
variable {y : MethodName} {ws : List Cond} {bytes : ByteArray} {maxL : Nat} {ret : Option FieldType} {rm : Room} {index n : Nat} {As : List Value} {post : Option Value → List Nat → (Nat → va_E) → Prop} {b LL : Nat} {xs : Nat → Int32}
theorem cpx_blind {As : List Value} {sz : Nat} : FrameBlind (CPx b LL xs D cs As sz L f) := fun a U g mk h => by
  obtain ⟨h0, h1, hP, hK, hD, hX, hb⟩ := h
  exact ⟨h0, h1, hP, va_K.moved (u := U) (U := U.calling g mk a) (Vm.Alike.refl U.vm) hK, hD, va_X.moved (u := U) (U := U.calling g mk a) (Vm.Alike.refl U.vm) hX, hb⟩
theorem x_prex (X : XX p m c cc nL s args Ts own D cs) (w : XW D A s.heap L f H locs) (hX : va_X b LL xs s s.heap) (hbl : b < s.heap.size) (hbA : ¬ A b) {As : List Value} : ∀ U : State, U.heap = H → s.WarmedH U.vm → CPx b LL xs D cs As H.size L f As.toArray U :=
  fun U hU hW => ⟨rfl, by rw [hU], by rw [hU]; exact w.1, va_K.moved hW.alike X.2, w.2.1.weaken (fun _ _ _ _ => trivial), by rw [hU]; exact va_X.moved hW.alike (hX.kept (w.2.2.2.1 b hbl hbA)), Nat.lt_of_lt_of_le hbl w.2.2.1, fun h => hbA ((pl_D.mp w.2.1).2 b h)⟩
theorem C0x.of {ws' : List Cond} {al : List Value} (hy : plainName y.cls = true) (hw : ws = Cond.code y cc maxL ret :: ws') (hlen : (lg_sl al).length ≤ maxL)
    (body : ∀ (p : Program) (e : Env) (s : State) (m : MethodId) (below : List Frame) (meth : Method) (c : Code), XX p m c cc maxL s al.toArray ws y.cls D cs → meth.sig.returnType = ret → meth.locks = false → va_X b LL xs s s.heap → b < s.heap.size → ∀ (A : Nat → Prop), (∀ q, s.heap.size ≤ q → A q) → ¬ A b → XW D A s.heap L f s.heap [] → ∀ ls, lv_has ls maxL (lv_args 0 al) → W p l e rm s m al.toArray below meth c s.heap [] 0 0 (MQ below (CQ D cs A post) al.toArray s rm.cells rm.slots A) (F0 m 0 ls [])) : C0x b LL xs l y ws rm D cs al L f post := by
  intro sz
  refine Met.ofW (cc := cc) (maxL := maxL) (ret := ret) hy hw ?_
  intro p e s m args' below meth c s₁ B hml hv
  obtain ⟨rfl, hsz, hP, hK, hD0, hX, hbl, hbL⟩ := hv
  have hts := atoms_spec (ws := ws) B.pre
  have hown := findClass_of_methodNamed B.named
  subst hsz
  rw [lg_entry_eq]
  exact body p e s m below meth c ⟨⟨B.exec, B.bytes, hml, hown, hts⟩, hK⟩ B.returns B.notSynchronized hX hbl (va_A (va_pl L f) s.heap.size) (fun q h => Or.inr h) (fun h => (pl_A.mp h).elim hbL (fun h1 => by omega)) ⟨hP, hD0.self, va_S.rf⟩ _ (lv_entry al hlen)
theorem x_callSx (X : XX p m c cc nL s args Ts own D cs) (w : XW D A s.heap L f H locs) (hA : ∀ q, s.heap.size ≤ q → A q) (hX : va_X b LL xs s s.heap) (hbl : b < s.heap.size) (hbA : ¬ A b) (hC : C0x b LL xs l y ws rm D cs As L f post) (hk : XS Ts own index y bytes maxL ret ws n) (hR : rm.frames + 1 ≤ R.frames ∧ 8 + (maxL + 11) + rm.locals ≤ R.locals) (hn : As.length = n) (hl : lv_has ls nL lv) (hst : st = As.reverse ++ rest) (hrm : (rest.map fun v => v.category).sum ≤ 8) (hcs : cells + rm.cells ≤ R.cells ∧ slots + rm.slots ≤ R.slots) (hc1 : cells + rm.cells = c1) (hs1 : slots + rm.slots = s1) (hdg : decode cc pc = .ok (.invokestatic index, 3))
    (kk : ∀ (v : Option Value) (L : List Nat) (f : Nat → va_E) (H : Heap) (locs : List Loc), XW D A s.heap L f H locs → post v L f → W p l e R s m args below meth c H locs c1 s1 Q (F0 m (pc + 3) ls (v.toList ++ rest))) : W p l e R s m args below meth c H locs cells slots Q (F0 m pc ls st) := by
  subst hst
  obtain ⟨hG, ⟨ws', hw⟩, hd⟩ := hk
  exact x_run w hA (va_runS (As := As) (rest := rest) X.1 (hC H.size) (va_cwS n X.1.2.2.2.2 hG hw rfl rfl hd hR) ⟨cpx_blind, x_prex X w hX hbl hbA⟩ rfl hn hl.1 rfl (lv_room hrm) hdg hcs) hc1 hs1 kk
end XSCR
/-- the script's int, or what stands for it behind its end -/
def scl (xs : Nat → Int32) (LL : Nat) (k : Int) : Int := if k < (LL : Int) then sv xs k else mu (mu 7919 (k + 1061)) (k + 809)
theorem scl_rg (xs : Nat → Int32) (LL : Nat) (k : Int) : -2147483648 ≤ scl xs LL k ∧ scl xs LL k < 2147483648 := by
  unfold scl
  by_cases c : k < (LL : Int)
  · rw [if_pos c]; exact sv_rg _ _
  · rw [if_neg c]; exact mu_rg _ _

set_option maxHeartbeats 4000000 in
set_option maxRecDepth 100000 in
theorem c_L_cell (l : Launch) (D : va_G) (cs : ClassId × ClassId × ClassId) (L : List Nat) (f0 : Nat → va_E) {b LL : Nat} {xs : Nat → Int32} (k : Int) (hk : 0 ≤ k ∧ k < 1000) (hLL : LL ≤ 260) : C0x b LL xs l yL_cell wsL_cell ({ frames := 1, cells := 0, slots := 0, locals := 12 } : Room) D cs [.ref b, .int (iI k)] L f0 (fun v L1 f1 => L = L1 ∧ f0 = f1 ∧ v = some (.int (iI (scl xs LL k)))) := by
  refine C0x.of (cc := cL_cell) (maxL := 2) (ret := (some .int)) (by decide) rfl (Nat.le_of_ble_eq_true rfl) ?_
  intro p e s m below meth c X hr hlk hXs hbl A hA hbA w ls hl
  have hl : lv_has ls 2 [(0, .ref b), (1, .int (iI k))] := hl
  refine x_il_n X hl 1 rfl rfl dL_cell_0 ?_
  refine x_al_n X hl 0 rfl rfl dL_cell_1 ?_
  refine x_slen X w hXs hbl hbA dL_cell_2 ?_
  refine x_icmp_ge (tgt := 12) X (by omega) (by decide) dL_cell_3 (fun hb3 => ?_) (fun hb3 => ?_)
  · refine x_sipush X (by decide) dL_cell_12 ?_
    refine x_il_n X hl 1 rfl rfl dL_cell_15 ?_
    refine x_sipush X (by decide) dL_cell_16 ?_
    refine x_iadd X dL_cell_19 ?_
    refine x_imul X dL_cell_20 ?_
    refine x_il_n X hl 1 rfl rfl dL_cell_21 ?_
    refine x_sipush X (by decide) dL_cell_22 ?_
    refine x_iadd X dL_cell_25 ?_
    refine x_imul X dL_cell_26 ?_
    refine x_iret X w hr hlk ⟨by decide, by decide⟩ dL_cell_27 ?_
    have he9 : scl xs LL k = mu (mu 7919 (k + 1061)) (k + 809) := if_neg (by omega)
    rw [he9]
    exact ⟨rfl, rfl, rfl⟩
  · refine x_al_n X hl 0 rfl rfl dL_cell_6 ?_
    refine x_il_n X hl 1 rfl rfl dL_cell_7 ?_
    refine x_sld (xs := xs) X w hXs hbl hbA (by omega) dL_cell_8 ?_
    refine x_goto (tgt := 27) X (by decide) dL_cell_9 ?_
    refine x_iret X w hr hlk ⟨by decide, by decide⟩ dL_cell_27 ?_
    have he9 : scl xs LL k = sv xs (k) := if_pos (by omega)
    rw [he9]
    exact ⟨rfl, rfl, rfl⟩

set_option maxHeartbeats 4000000 in
set_option maxRecDepth 100000 in
theorem c_L_low (l : Launch) (D : va_G) (cs : ClassId × ClassId × ClassId) (L : List Nat) (f0 : Nat → va_E) (v n : Int) (hn : 1 ≤ n ∧ n < 2147483648) : C0 l yL_low wsL_low ({ frames := 1, cells := 0, slots := 0, locals := 12 } : Room) D cs [.int (iI v), .int (iI n)] L f0 (fun u L1 f1 => L = L1 ∧ f0 = f1 ∧ u = some (.int (iI (lw v n)))) := by
  refine C0.of (cc := cL_low) (maxL := 2) (ret := (some .int)) (by decide) rfl (Nat.le_of_ble_eq_true rfl) ?_
  intro p e s m below meth c X hr hlk hin A hA w ls hl
  have hl : lv_has ls 2 [(0, .int (iI v)), (1, .int (iI n))] := hl
  refine x_il_n X hl 0 rfl rfl dL_low_0 ?_
  refine x_ldc (z := 2147483647) (v := (2147483647 : Int32)) X (by decide +kernel) (by decide +kernel) dL_low_1 ?_
  refine x_iandL X dL_low_3 ?_
  refine x_il_n X hl 1 rfl rfl dL_low_4 ?_
  refine x_iremL X (by omega) dL_low_5 ?_
  refine x_iret X w hr hlk ⟨by decide, by decide⟩ dL_low_6 ?_
  exact ⟨rfl, rfl, rfl⟩

theorem k_L_number_L_low : XS wsL_number RL 50 yL_low cL_low 2 (some .int) wsL_low 2 := ⟨gL_number_L_low, ⟨_, rfl⟩, by decide, by decide, by decide +kernel⟩
theorem k_L_number_X3_pages : XV wsL_number RL 46 RX3 yX3_pages cX3_pages 1 (some .int) wsX3_pages 0 := ⟨gL_number_X3_pages, ⟨_, rfl⟩, rfl, by decide, by decide, by decide +kernel⟩
theorem k_L_number_X3_size : XV wsL_number RL 55 RX3 yX3_size cX3_size 2 (some .int) wsX3_size 1 := ⟨gL_number_X3_size, ⟨_, rfl⟩, rfl, by decide, by decide, by decide +kernel⟩
theorem k_L_number_X3_at : XV wsL_number RL 58 RX3 yX3_at cX3_at 3 (some .int) wsX3_at 2 := ⟨gL_number_X3_at, ⟨_, rfl⟩, rfl, by decide, by decide, by decide +kernel⟩
set_option maxHeartbeats 4000000 in
set_option maxRecDepth 100000 in
theorem c_L_number (l : Launch) (D : va_G) (cs : ClassId × ClassId × ClassId) (L : List Nat) (f0 : Nat → va_E) (x br ba pr sz lr : Nat) (σ : Sg) (v od : Int) (hC : CC cs L f0 x br ba pr sz lr σ) (hI : Inv σ) (hv : -2147483648 ≤ v ∧ v < 2147483648) (hod : od = 0 ∨ od = 1) : C0 l yL_number wsL_number ({ frames := 7, cells := 0, slots := 0, locals := 112 } : Room) D cs [.ref x, .int (iI v), .int (iI od)] L f0 (fun u L1 f1 => L = L1 ∧ f0 = f1 ∧ u = some (.int (iI (aNum v od σ)))) := by
  refine C0.of (cc := cL_number) (maxL := 4) (ret := (some .int)) (by decide) rfl (Nat.le_of_ble_eq_true rfl) ?_
  intro p e s m below meth c X hr hlk hin A hA w ls hl
  have hl : lv_has ls 4 [(0, .ref x), (1, .int (iI v)), (2, .int (iI od))] := hl
  have hk := hI.k
  refine x_il_n X hl 2 rfl rfl dL_number_0 ?_
  refine x_if_ne (tgt := 11) X (by omega) (by decide) dL_number_1 (fun hb1 => ?_) (fun hb1 => ?_)
  · refine x_il_n X hl 1 rfl rfl dL_number_11 ?_
    refine x_il_n X hl 2 rfl rfl dL_number_12 ?_
    refine x_ifF_eq (tgt := 22) X (by omega) (by omega) (by decide) dL_number_13 ?_
    refine x_sipush X (by decide) dL_number_16 ?_
    refine x_goto (tgt := 24) X (by decide) dL_number_19 ?_
    refine x_callS (As := [.int (iI v), .int (iI 1004)]) (rest := []) (c1 := 0) (s1 := 0) X w hA (c_L_low l D cs L f0 v 1004 (by omega)) k_L_number_L_low (by decide) rfl hl rfl (Nat.le_of_ble_eq_true rfl) (by decide) rfl rfl dL_number_24 (fun v L1 f1 H locs w hp => ?_)
    obtain ⟨rfl, rfl, hp⟩ := hp
    subst hp
    have hlw24 := lw_rg v (n := 1004) (by omega)
    show W p l e _ s m _ below meth c _ _ _ _ _ (F0 m 27 ls [.int (iI (lw v 1004))])
    refine x_il_n X hl 2 rfl rfl dL_number_27 ?_
    refine x_ifF_eq (tgt := 35) X (by omega) (by omega) (by decide) dL_number_28 ?_
    refine x_iconst X dL_number_31 ?_
    refine x_goto (tgt := 36) X (by decide) dL_number_32 ?_
    refine x_isub X dL_number_36 ?_
    refine x_iret X w hr hlk ⟨by decide, by decide⟩ dL_number_37 ?_
    have he9 : aNum v od σ = (lw v 1004) - 2 := by unfold aNum; rw [if_neg (by omega), if_neg (by omega), if_neg (by omega)]
    rw [he9]
    exact ⟨rfl, rfl, rfl⟩
  · refine x_al_n X hl 0 rfl rfl dL_number_4 ?_
    refine x_callV (As := []) (rest := []) (c1 := 0) (s1 := 0) X w hA (c_X3_pages l D cs L f0 x br ba pr sz lr σ hC) k_L_number_X3_pages (by decide) hC.mx hC.fx rfl rfl rfl hl rfl (Nat.le_of_ble_eq_true rfl) (by decide) rfl rfl dL_number_5 (fun v L1 f1 H locs w hp => ?_)
    obtain ⟨rfl, rfl, hp⟩ := hp
    subst hp
    show W p l e _ s m _ below meth c _ _ _ _ _ (F0 m 8 ls [.int (iI (gK σ))])
    refine x_if_ne (tgt := 38) X (by omega) (by decide) dL_number_8 (fun hb8 => ?_) (fun hb8 => ?_)
    · have hni := aNum_i hI v (by omega)
      have hz9 := hI.z1 _ hni.1.1 hni.1.2
      refine x_il_n X hl 1 rfl rfl dL_number_38 ?_
      refine x_al_n X hl 0 rfl rfl dL_number_39 ?_
      refine x_callV (As := []) (rest := [.int (iI v)]) (c1 := 0) (s1 := 0) X w hA (c_X3_pages l D cs L f0 x br ba pr sz lr σ hC) k_L_number_X3_pages (by decide) hC.mx hC.fx rfl rfl rfl hl rfl (Nat.le_of_ble_eq_true rfl) (by decide) rfl rfl dL_number_40 (fun v L1 f1 H locs w hp => ?_)
      obtain ⟨rfl, rfl, hp⟩ := hp
      subst hp
      show W p l e _ s m _ below meth c _ _ _ _ _ (F0 m 43 ls [.int (iI (gK σ)), .int (iI v)])
      refine x_callS (As := [.int (iI v), .int (iI (gK σ))]) (rest := []) (c1 := 0) (s1 := 0) X w hA (c_L_low l D cs L f0 v (gK σ) (by omega)) k_L_number_L_low (by decide) rfl hl rfl (Nat.le_of_ble_eq_true rfl) (by decide) rfl rfl dL_number_43 (fun v L1 f1 H locs w hp => ?_)
      obtain ⟨rfl, rfl, hp⟩ := hp
      subst hp
      have hlw43 := lw_rg v (n := (gK σ)) (by omega)
      show W p l e _ s m _ below meth c _ _ _ _ _ (F0 m 46 ls [.int (iI (lw v (gK σ)))])
      refine x_is_n (lv' := [(3, .int (iI (lw v (gK σ)))), (0, .ref x), (1, .int (iI v)), (2, .int (iI od))]) X hl rfl (by decide) rfl dL_number_46 (fun ls hl => ?_)
      refine x_al_n X hl 1 rfl rfl dL_number_47 ?_
      refine x_il_n X hl 0 rfl rfl dL_number_48 ?_
      refine x_il_n X hl 2 rfl rfl dL_number_49 ?_
      refine x_bipush X (by decide) dL_number_50 ?_
      refine x_ishr X dL_number_52 ?_
      have hsh52 := sh_rg v 6
      refine x_al_n X hl 1 rfl rfl dL_number_53 ?_
      refine x_il_n X hl 0 rfl rfl dL_number_54 ?_
      refine x_callV (As := [.int (iI (lw v (gK σ)))]) (rest := [.int (iI (sh v 6)), .int (iI (lw v (gK σ))), .ref x]) (c1 := 0) (s1 := 0) X w hA (c_X3_size0 l D cs L f0 x br ba pr sz lr σ (lw v (gK σ)) hC hI (by omega) (by omega)) k_L_number_X3_size (by decide) hC.mx hC.fx rfl rfl rfl hl rfl (Nat.le_of_ble_eq_true rfl) (by decide) rfl rfl dL_number_55 (fun v L1 f1 H locs w hp => ?_)
      obtain ⟨rfl, rfl, hp⟩ := hp
      subst hp
      show W p l e _ s m _ below meth c _ _ _ _ _ (F0 m 58 ls [.int (iI (gZ σ (lw v (gK σ)))), .int (iI (sh v 6)), .int (iI (lw v (gK σ))), .ref x])
      refine x_callS (As := [.int (iI (sh v 6)), .int (iI (gZ σ (lw v (gK σ))))]) (rest := [.int (iI (lw v (gK σ))), .ref x]) (c1 := 0) (s1 := 0) X w hA (c_L_low l D cs L f0 (sh v 6) (gZ σ (lw v (gK σ))) (by omega)) k_L_number_L_low (by decide) rfl hl rfl (Nat.le_of_ble_eq_true rfl) (by decide) rfl rfl dL_number_58 (fun v L1 f1 H locs w hp => ?_)
      obtain ⟨rfl, rfl, hp⟩ := hp
      subst hp
      have hlw58 := lw_rg (sh v 6) (n := (gZ σ (lw v (gK σ)))) (by omega)
      show W p l e _ s m _ below meth c _ _ _ _ _ (F0 m 61 ls [.int (iI (lw (sh v 6) (gZ σ (lw v (gK σ))))), .int (iI (lw v (gK σ))), .ref x])
      refine x_callV (As := [.int (iI (lw v (gK σ))), .int (iI (lw (sh v 6) (gZ σ (lw v (gK σ)))))]) (rest := []) (c1 := 0) (s1 := 0) X w hA (c_X3_at0 l D cs L f0 x br ba pr sz lr σ (lw v (gK σ)) (lw (sh v 6) (gZ σ (lw v (gK σ)))) hC hI ⟨(by omega), (by omega)⟩ (by omega) (by omega)) k_L_number_X3_at (by decide) hC.mx hC.fx rfl rfl rfl hl rfl (Nat.le_of_ble_eq_true rfl) (by decide) rfl rfl dL_number_61 (fun v L1 f1 H locs w hp => ?_)
      obtain ⟨rfl, rfl, hp⟩ := hp
      subst hp
      show W p l e _ s m _ below meth c _ _ _ _ _ (F0 m 64 ls [.int (iI (gR σ (sm (gZ σ) (lw v (gK σ)) + (lw (sh v 6) (gZ σ (lw v (gK σ))))) 0))])
      refine x_iret X w hr hlk ⟨by decide, by decide⟩ dL_number_64 ?_
      have he9 : aNum v od σ = gR σ (sm (gZ σ) (lw v (gK σ)) + (lw (sh v 6) (gZ σ (lw v (gK σ))))) 0 := if_pos (by omega)
      rw [he9]
      exact ⟨rfl, rfl, rfl⟩
    · refine x_il_n X hl 1 rfl rfl dL_number_11 ?_
      refine x_il_n X hl 2 rfl rfl dL_number_12 ?_
      refine x_ifT_eq (tgt := 22) X (by omega) (by omega) (by decide) dL_number_13 ?_
      refine x_bipush X (by decide) dL_number_22 ?_
      refine x_callS (As := [.int (iI v), .int (iI 60)]) (rest := []) (c1 := 0) (s1 := 0) X w hA (c_L_low l D cs L f0 v 60 (by omega)) k_L_number_L_low (by decide) rfl hl rfl (Nat.le_of_ble_eq_true rfl) (by decide) rfl rfl dL_number_24 (fun v L1 f1 H locs w hp => ?_)
      obtain ⟨rfl, rfl, hp⟩ := hp
      subst hp
      have hlw24 := lw_rg v (n := 60) (by omega)
      show W p l e _ s m _ below meth c _ _ _ _ _ (F0 m 27 ls [.int (iI (lw v 60))])
      refine x_il_n X hl 2 rfl rfl dL_number_27 ?_
      refine x_ifT_eq (tgt := 35) X (by omega) (by omega) (by decide) dL_number_28 ?_
      refine x_iconst X dL_number_35 ?_
      refine x_isub X dL_number_36 ?_
      refine x_iret X w hr hlk ⟨by decide, by decide⟩ dL_number_37 ?_
      have he9 : aNum v od σ = (lw v 60) - 0 := by unfold aNum; rw [if_neg (by omega), if_pos (by omega), if_pos (by omega)]
      rw [he9]
      exact ⟨rfl, rfl, rfl⟩

theorem k_L_act_L_low : XS wsL_act RL 50 yL_low cL_low 2 (some .int) wsL_low 2 := ⟨gL_act_L_low, ⟨_, rfl⟩, by decide, by decide, by decide +kernel⟩
theorem k_L_act_L_number : XS wsL_act RL 61 yL_number cL_number 4 (some .int) wsL_number 3 := ⟨gL_act_L_number, ⟨_, rfl⟩, by decide, by decide, by decide +kernel⟩
theorem k_L_act_L_payBack : XH wsL_act RL 65 yL_payBack cL_payBack 3 (some .int) [(0, 5, 6, 14), (0, 5, 10, 17)] wsL_payBack 2 := ⟨gL_act_L_payBack, ⟨_, rfl⟩, by decide, by decide, by decide +kernel⟩
theorem k_L_act_L_forfeit : XH wsL_act RL 68 yL_forfeit cL_forfeit 3 (some .int) [(0, 6, 7, 14), (0, 6, 11, 17)] wsL_forfeit 2 := ⟨gL_act_L_forfeit, ⟨_, rfl⟩, by decide, by decide, by decide +kernel⟩
theorem k_L_act_L_undo : XH wsL_act RL 70 yL_undo cL_undo 3 (some .int) [(0, 5, 6, 14), (0, 5, 10, 17)] wsL_undo 2 := ⟨gL_act_L_undo, ⟨_, rfl⟩, by decide, by decide, by decide +kernel⟩
theorem k_L_act_X3_today : XV wsL_act RL 72 RX3 yX3_today cX3_today 1 (some .int) wsX3_today 0 := ⟨gL_act_X3_today, ⟨_, rfl⟩, rfl, by decide, by decide, by decide +kernel⟩
theorem k_L_act_L_amnesty : XH wsL_act RL 75 yL_amnesty cL_amnesty 4 (some .int) [(0, 6, 7, 14)] wsL_amnesty 3 := ⟨gL_act_L_amnesty, ⟨_, rfl⟩, by decide, by decide, by decide +kernel⟩
theorem k_L_act_L_pass : XH wsL_act RL 78 yL_pass cL_pass 3 (some .int) [(0, 5, 6, 14), (0, 5, 10, 17)] wsL_pass 2 := ⟨gL_act_L_pass, ⟨_, rfl⟩, by decide, by decide, by decide +kernel⟩
theorem k_L_act_L_sweep : XH wsL_act RL 80 yL_sweep cL_sweep 2 (some .int) [(0, 5, 6, 17)] wsL_sweep 1 := ⟨gL_act_L_sweep, ⟨_, rfl⟩, by decide, by decide, by decide +kernel⟩
theorem k_L_act_L_step : XH wsL_act RL 83 yL_step cL_step 3 (some .int) [(0, 5, 6, 14), (0, 5, 10, 17)] wsL_step 2 := ⟨gL_act_L_step, ⟨_, rfl⟩, by decide, by decide, by decide +kernel⟩
theorem k_L_act_L_walk : XH wsL_act RL 85 yL_walk cL_walk 3 (some .int) [(0, 5, 6, 14)] wsL_walk 2 := ⟨gL_act_L_walk, ⟨_, rfl⟩, by decide, by decide, by decide +kernel⟩
theorem k_L_act_L_put : XH wsL_act RL 87 yL_put cL_put 5 (some .int) [(0, 7, 8, 14), (0, 7, 13, 17)] wsL_put 4 := ⟨gL_act_L_put, ⟨_, rfl⟩, by decide, by decide, by decide +kernel⟩
set_option maxHeartbeats 4000000 in
set_option maxRecDepth 100000 in
theorem c_L_act (l : Launch) (D : va_G) (cs : ClassId × ClassId × ClassId) (hl9 : l.stackTraces = false) (L : List Nat) (f0 : Nat → va_E) (x br ba pr sz lr : Nat) (σ : Sg) (v : Int) (hC : CC cs L f0 x br ba pr sz lr σ) (hI : Inv σ) (hv : -2147483648 ≤ v ∧ v < 2147483648) : C1 l yL_act wsL_act ({ frames := 10, cells := 2, slots := 12, locals := 209 } : Room) D cs [.ref x, .int (iI v)] L f0 (fun u L1 f1 => u = some (.int (iI (tv (aAct v σ)))) ∧ CC cs L1 f1 x br ba pr sz lr (aAct v σ).2.2) (fun _ => False) := by
  refine C1.of (cc := cL_act) (maxL := 3) (ret := (some .int)) (by decide) rfl (Nat.le_of_ble_eq_true rfl) ?_
  intro p e s m below meth c X hr hlk hout hV A hA hZ w ls hl
  have hl : lv_has ls 3 [(0, .ref x), (1, .int (iI v))] := hl
  have ht := hI.t
  refine x_il_n X hl 1 rfl rfl dL_act_0 ?_
  refine x_bipush X (by decide) dL_act_1 ?_
  refine x_ishr X dL_act_3 ?_
  have hsh3 := sh_rg v 24
  refine x_bipush X (by decide) dL_act_4 ?_
  refine x_callS (As := [.int (iI (sh v 24)), .int (iI 9)]) (rest := []) (c1 := 0) (s1 := 0) X w hA (c_L_low l D cs L f0 (sh v 24) 9 (by omega)) k_L_act_L_low (by decide) rfl hl rfl (Nat.le_of_ble_eq_true rfl) (by decide) rfl rfl dL_act_6 (fun v L1 f1 H locs w hp => ?_)
  obtain ⟨rfl, rfl, hp⟩ := hp
  subst hp
  have hlw6 := lw_rg (sh v 24) (n := 9) (by omega)
  show W p l e _ s m _ below meth c _ _ _ _ _ (F0 m 9 ls [.int (iI (lw (sh v 24) 9))])
  refine x_if_ne (tgt := 16) X (by omega) (by decide) dL_act_9 (fun hb9 => ?_) (fun hb9 => ?_)
  · refine x_iconst X dL_act_16 ?_
    refine x_is_n (lv' := [(2, .int (iI 0)), (0, .ref x), (1, .int (iI v))]) X hl rfl (by decide) rfl dL_act_17 (fun ls hl => ?_)
    refine x_il_n X hl 2 rfl rfl dL_act_18 ?_
    refine x_bipush X (by decide) dL_act_19 ?_
    refine x_callS (As := [.int (iI v), .int (iI 22)]) (rest := []) (c1 := 0) (s1 := 0) X w hA (c_L_low l D cs L f0 v 22 (by omega)) k_L_act_L_low (by decide) rfl hl rfl (Nat.le_of_ble_eq_true rfl) (by decide) rfl rfl dL_act_21 (fun v L1 f1 H locs w hp => ?_)
    obtain ⟨rfl, rfl, hp⟩ := hp
    subst hp
    have hlw21 := lw_rg v (n := 22) (by omega)
    show W p l e _ s m _ below meth c _ _ _ _ _ (F0 m 24 ls [.int (iI (lw v 22))])
    obtain ⟨u, hu⟩ : ∃ u : Int, lw v 22 = u := ⟨_, rfl⟩
    have hur := lw_rg v (n := 22) (by omega)
    rw [hu] at hur
    rw [hu]
    rcases (show u = 0 ∨ u = 1 ∨ u = 2 ∨ u = 3 ∨ u = 4 ∨ u = 5 ∨ u = 6 ∨ u = 7 ∨ u = 8 ∨ u = 9 ∨ u = 10 ∨ u = 11 ∨ u = 12 ∨ u = 13 ∨ 13 < u by omega) with rfl | rfl | rfl | rfl | rfl | rfl | rfl | rfl | rfl | rfl | rfl | rfl | rfl | rfl | hgt
    · refine lv_tableIn (tgt := 96) X.1.1 X.1.2.1 dL_act_24 (by decide +kernel) (by decide +kernel) (off := 72) (by decide +kernel) (by decide) ?_
      refine x_al_n X hl 1 rfl rfl dL_act_96 ?_
      refine x_al_n X hl 1 rfl rfl dL_act_97 ?_
      refine x_il_n X hl 2 rfl rfl dL_act_98 ?_
      refine x_iconst X dL_act_99 ?_
      refine x_ishr X dL_act_100 ?_
      have hsh100 := sh_rg v 4
      refine x_il_n X hl 0 rfl rfl dL_act_101 ?_
      refine x_callS (As := [.ref x, .int (iI (sh v 4)), .int (iI 0)]) (rest := [.ref x]) (c1 := 0) (s1 := 0) X w hA (c_L_number l D cs L f0 x br ba pr sz lr σ (sh v 4) 0 hC hI (by omega) (by omega)) k_L_act_L_number (by decide) rfl hl rfl (Nat.le_of_ble_eq_true rfl) (by decide) rfl rfl dL_act_102 (fun v L1 f1 H locs w hp => ?_)
      obtain ⟨rfl, rfl, hp⟩ := hp
      subst hp
      have hnb102 := aNum_b hI (sh v 4) (od := 0) (by omega)
      show W p l e _ s m _ below meth c _ _ _ _ _ (F0 m 105 ls [.int (iI (aNum (sh v 4) 0 σ)), .ref x])
      refine x_callH1 (As := [.ref x, .int (iI (aNum (sh v 4) 0 σ))]) (rest := []) (c1 := 2) (s1 := 12) X w hA hV hZ (c_L_payBack l D cs hl9 L f0 x br ba pr sz lr σ (aNum (sh v 4) 0 σ) hC hI (by omega)) k_L_act_L_payBack (by decide) rfl hl rfl (Nat.le_of_ble_eq_true rfl) (by decide) rfl rfl dL_act_105 (fun v L1 f1 H locs w hp => ?_)
      obtain ⟨rfl, hC⟩ := hp
      show W p l e _ s m _ below meth c _ _ _ _ _ (F0 m 108 ls [.int (iI (tv (oPay (aNum (sh v 4) 0 σ) σ)))])
      refine vx_ret ?_
      refine x_iret X w hr hlk ⟨by decide, by decide⟩ dL_act_108 ?_
      have hod : oD v = 0 := if_neg (by omega)
      have ha : aAct v σ = oPay (aNum (sh v 4) 0 σ) σ := by
        unfold aAct; rw [hod]; unfold aDo
        rw [if_pos (by omega)]
        first | done | rfl
      rw [ha]
      exact ⟨rfl, hC⟩
    · refine lv_tableIn (tgt := 96) X.1.1 X.1.2.1 dL_act_24 (by decide +kernel) (by decide +kernel) (off := 72) (by decide +kernel) (by decide) ?_
      refine x_al_n X hl 1 rfl rfl dL_act_96 ?_
      refine x_al_n X hl 1 rfl rfl dL_act_97 ?_
      refine x_il_n X hl 2 rfl rfl dL_act_98 ?_
      refine x_iconst X dL_act_99 ?_
      refine x_ishr X dL_act_100 ?_
      have hsh100 := sh_rg v 4
      refine x_il_n X hl 0 rfl rfl dL_act_101 ?_
      refine x_callS (As := [.ref x, .int (iI (sh v 4)), .int (iI 0)]) (rest := [.ref x]) (c1 := 0) (s1 := 0) X w hA (c_L_number l D cs L f0 x br ba pr sz lr σ (sh v 4) 0 hC hI (by omega) (by omega)) k_L_act_L_number (by decide) rfl hl rfl (Nat.le_of_ble_eq_true rfl) (by decide) rfl rfl dL_act_102 (fun v L1 f1 H locs w hp => ?_)
      obtain ⟨rfl, rfl, hp⟩ := hp
      subst hp
      have hnb102 := aNum_b hI (sh v 4) (od := 0) (by omega)
      show W p l e _ s m _ below meth c _ _ _ _ _ (F0 m 105 ls [.int (iI (aNum (sh v 4) 0 σ)), .ref x])
      refine x_callH1 (As := [.ref x, .int (iI (aNum (sh v 4) 0 σ))]) (rest := []) (c1 := 2) (s1 := 12) X w hA hV hZ (c_L_payBack l D cs hl9 L f0 x br ba pr sz lr σ (aNum (sh v 4) 0 σ) hC hI (by omega)) k_L_act_L_payBack (by decide) rfl hl rfl (Nat.le_of_ble_eq_true rfl) (by decide) rfl rfl dL_act_105 (fun v L1 f1 H locs w hp => ?_)
      obtain ⟨rfl, hC⟩ := hp
      show W p l e _ s m _ below meth c _ _ _ _ _ (F0 m 108 ls [.int (iI (tv (oPay (aNum (sh v 4) 0 σ) σ)))])
      refine vx_ret ?_
      refine x_iret X w hr hlk ⟨by decide, by decide⟩ dL_act_108 ?_
      have hod : oD v = 0 := if_neg (by omega)
      have ha : aAct v σ = oPay (aNum (sh v 4) 0 σ) σ := by
        unfold aAct; rw [hod]; unfold aDo
        rw [if_pos (by omega)]
        first | done | rfl
      rw [ha]
      exact ⟨rfl, hC⟩
    · refine lv_tableIn (tgt := 96) X.1.1 X.1.2.1 dL_act_24 (by decide +kernel) (by decide +kernel) (off := 72) (by decide +kernel) (by decide) ?_
      refine x_al_n X hl 1 rfl rfl dL_act_96 ?_
      refine x_al_n X hl 1 rfl rfl dL_act_97 ?_
      refine x_il_n X hl 2 rfl rfl dL_act_98 ?_
      refine x_iconst X dL_act_99 ?_
      refine x_ishr X dL_act_100 ?_
      have hsh100 := sh_rg v 4
      refine x_il_n X hl 0 rfl rfl dL_act_101 ?_
      refine x_callS (As := [.ref x, .int (iI (sh v 4)), .int (iI 0)]) (rest := [.ref x]) (c1 := 0) (s1 := 0) X w hA (c_L_number l D cs L f0 x br ba pr sz lr σ (sh v 4) 0 hC hI (by omega) (by omega)) k_L_act_L_number (by decide) rfl hl rfl (Nat.le_of_ble_eq_true rfl) (by decide) rfl rfl dL_act_102 (fun v L1 f1 H locs w hp => ?_)
      obtain ⟨rfl, rfl, hp⟩ := hp
      subst hp
      have hnb102 := aNum_b hI (sh v 4) (od := 0) (by omega)
      show W p l e _ s m _ below meth c _ _ _ _ _ (F0 m 105 ls [.int (iI (aNum (sh v 4) 0 σ)), .ref x])
      refine x_callH1 (As := [.ref x, .int (iI (aNum (sh v 4) 0 σ))]) (rest := []) (c1 := 2) (s1 := 12) X w hA hV hZ (c_L_payBack l D cs hl9 L f0 x br ba pr sz lr σ (aNum (sh v 4) 0 σ) hC hI (by omega)) k_L_act_L_payBack (by decide) rfl hl rfl (Nat.le_of_ble_eq_true rfl) (by decide) rfl rfl dL_act_105 (fun v L1 f1 H locs w hp => ?_)
      obtain ⟨rfl, hC⟩ := hp
      show W p l e _ s m _ below meth c _ _ _ _ _ (F0 m 108 ls [.int (iI (tv (oPay (aNum (sh v 4) 0 σ) σ)))])
      refine vx_ret ?_
      refine x_iret X w hr hlk ⟨by decide, by decide⟩ dL_act_108 ?_
      have hod : oD v = 0 := if_neg (by omega)
      have ha : aAct v σ = oPay (aNum (sh v 4) 0 σ) σ := by
        unfold aAct; rw [hod]; unfold aDo
        rw [if_pos (by omega)]
        first | done | rfl
      rw [ha]
      exact ⟨rfl, hC⟩
    · refine lv_tableIn (tgt := 96) X.1.1 X.1.2.1 dL_act_24 (by decide +kernel) (by decide +kernel) (off := 72) (by decide +kernel) (by decide) ?_
      refine x_al_n X hl 1 rfl rfl dL_act_96 ?_
      refine x_al_n X hl 1 rfl rfl dL_act_97 ?_
      refine x_il_n X hl 2 rfl rfl dL_act_98 ?_
      refine x_iconst X dL_act_99 ?_
      refine x_ishr X dL_act_100 ?_
      have hsh100 := sh_rg v 4
      refine x_il_n X hl 0 rfl rfl dL_act_101 ?_
      refine x_callS (As := [.ref x, .int (iI (sh v 4)), .int (iI 0)]) (rest := [.ref x]) (c1 := 0) (s1 := 0) X w hA (c_L_number l D cs L f0 x br ba pr sz lr σ (sh v 4) 0 hC hI (by omega) (by omega)) k_L_act_L_number (by decide) rfl hl rfl (Nat.le_of_ble_eq_true rfl) (by decide) rfl rfl dL_act_102 (fun v L1 f1 H locs w hp => ?_)
      obtain ⟨rfl, rfl, hp⟩ := hp
      subst hp
      have hnb102 := aNum_b hI (sh v 4) (od := 0) (by omega)
      show W p l e _ s m _ below meth c _ _ _ _ _ (F0 m 105 ls [.int (iI (aNum (sh v 4) 0 σ)), .ref x])
      refine x_callH1 (As := [.ref x, .int (iI (aNum (sh v 4) 0 σ))]) (rest := []) (c1 := 2) (s1 := 12) X w hA hV hZ (c_L_payBack l D cs hl9 L f0 x br ba pr sz lr σ (aNum (sh v 4) 0 σ) hC hI (by omega)) k_L_act_L_payBack (by decide) rfl hl rfl (Nat.le_of_ble_eq_true rfl) (by decide) rfl rfl dL_act_105 (fun v L1 f1 H locs w hp => ?_)
      obtain ⟨rfl, hC⟩ := hp
      show W p l e _ s m _ below meth c _ _ _ _ _ (F0 m 108 ls [.int (iI (tv (oPay (aNum (sh v 4) 0 σ) σ)))])
      refine vx_ret ?_
      refine x_iret X w hr hlk ⟨by decide, by decide⟩ dL_act_108 ?_
      have hod : oD v = 0 := if_neg (by omega)
      have ha : aAct v σ = oPay (aNum (sh v 4) 0 σ) σ := by
        unfold aAct; rw [hod]; unfold aDo
        rw [if_pos (by omega)]
        first | done | rfl
      rw [ha]
      exact ⟨rfl, hC⟩
    · refine lv_tableIn (tgt := 96) X.1.1 X.1.2.1 dL_act_24 (by decide +kernel) (by decide +kernel) (off := 72) (by decide +kernel) (by decide) ?_
      refine x_al_n X hl 1 rfl rfl dL_act_96 ?_
      refine x_al_n X hl 1 rfl rfl dL_act_97 ?_
      refine x_il_n X hl 2 rfl rfl dL_act_98 ?_
      refine x_iconst X dL_act_99 ?_
      refine x_ishr X dL_act_100 ?_
      have hsh100 := sh_rg v 4
      refine x_il_n X hl 0 rfl rfl dL_act_101 ?_
      refine x_callS (As := [.ref x, .int (iI (sh v 4)), .int (iI 0)]) (rest := [.ref x]) (c1 := 0) (s1 := 0) X w hA (c_L_number l D cs L f0 x br ba pr sz lr σ (sh v 4) 0 hC hI (by omega) (by omega)) k_L_act_L_number (by decide) rfl hl rfl (Nat.le_of_ble_eq_true rfl) (by decide) rfl rfl dL_act_102 (fun v L1 f1 H locs w hp => ?_)
      obtain ⟨rfl, rfl, hp⟩ := hp
      subst hp
      have hnb102 := aNum_b hI (sh v 4) (od := 0) (by omega)
      show W p l e _ s m _ below meth c _ _ _ _ _ (F0 m 105 ls [.int (iI (aNum (sh v 4) 0 σ)), .ref x])
      refine x_callH1 (As := [.ref x, .int (iI (aNum (sh v 4) 0 σ))]) (rest := []) (c1 := 2) (s1 := 12) X w hA hV hZ (c_L_payBack l D cs hl9 L f0 x br ba pr sz lr σ (aNum (sh v 4) 0 σ) hC hI (by omega)) k_L_act_L_payBack (by decide) rfl hl rfl (Nat.le_of_ble_eq_true rfl) (by decide) rfl rfl dL_act_105 (fun v L1 f1 H locs w hp => ?_)
      obtain ⟨rfl, hC⟩ := hp
      show W p l e _ s m _ below meth c _ _ _ _ _ (F0 m 108 ls [.int (iI (tv (oPay (aNum (sh v 4) 0 σ) σ)))])
      refine vx_ret ?_
      refine x_iret X w hr hlk ⟨by decide, by decide⟩ dL_act_108 ?_
      have hod : oD v = 0 := if_neg (by omega)
      have ha : aAct v σ = oPay (aNum (sh v 4) 0 σ) σ := by
        unfold aAct; rw [hod]; unfold aDo
        rw [if_pos (by omega)]
        first | done | rfl
      rw [ha]
      exact ⟨rfl, hC⟩
    · refine lv_tableIn (tgt := 109) X.1.1 X.1.2.1 dL_act_24 (by decide +kernel) (by decide +kernel) (off := 85) (by decide +kernel) (by decide) ?_
      refine x_al_n X hl 1 rfl rfl dL_act_109 ?_
      refine x_al_n X hl 1 rfl rfl dL_act_110 ?_
      refine x_il_n X hl 2 rfl rfl dL_act_111 ?_
      refine x_iconst X dL_act_112 ?_
      refine x_ishr X dL_act_113 ?_
      have hsh113 := sh_rg v 4
      refine x_il_n X hl 0 rfl rfl dL_act_114 ?_
      refine x_callS (As := [.ref x, .int (iI (sh v 4)), .int (iI 0)]) (rest := [.ref x]) (c1 := 0) (s1 := 0) X w hA (c_L_number l D cs L f0 x br ba pr sz lr σ (sh v 4) 0 hC hI (by omega) (by omega)) k_L_act_L_number (by decide) rfl hl rfl (Nat.le_of_ble_eq_true rfl) (by decide) rfl rfl dL_act_115 (fun v L1 f1 H locs w hp => ?_)
      obtain ⟨rfl, rfl, hp⟩ := hp
      subst hp
      have hnb115 := aNum_b hI (sh v 4) (od := 0) (by omega)
      show W p l e _ s m _ below meth c _ _ _ _ _ (F0 m 118 ls [.int (iI (aNum (sh v 4) 0 σ)), .ref x])
      refine x_callH1 (As := [.ref x, .int (iI (aNum (sh v 4) 0 σ))]) (rest := []) (c1 := 2) (s1 := 12) X w hA hV hZ (c_L_forfeit l D cs hl9 L f0 x br ba pr sz lr σ (aNum (sh v 4) 0 σ) hC hI (by omega)) k_L_act_L_forfeit (by decide) rfl hl rfl (Nat.le_of_ble_eq_true rfl) (by decide) rfl rfl dL_act_118 (fun v L1 f1 H locs w hp => ?_)
      obtain ⟨rfl, hC⟩ := hp
      show W p l e _ s m _ below meth c _ _ _ _ _ (F0 m 121 ls [.int (iI (tv (oFor (aNum (sh v 4) 0 σ) σ)))])
      refine vx_ret ?_
      refine x_iret X w hr hlk ⟨by decide, by decide⟩ dL_act_121 ?_
      have hod : oD v = 0 := if_neg (by omega)
      have ha : aAct v σ = oFor (aNum (sh v 4) 0 σ) σ := by
        unfold aAct; rw [hod]; unfold aDo
        rw [if_neg (by omega), if_pos (by omega)]
        first | done | rfl
      rw [ha]
      exact ⟨rfl, hC⟩
    · refine lv_tableIn (tgt := 109) X.1.1 X.1.2.1 dL_act_24 (by decide +kernel) (by decide +kernel) (off := 85) (by decide +kernel) (by decide) ?_
      refine x_al_n X hl 1 rfl rfl dL_act_109 ?_
      refine x_al_n X hl 1 rfl rfl dL_act_110 ?_
      refine x_il_n X hl 2 rfl rfl dL_act_111 ?_
      refine x_iconst X dL_act_112 ?_
      refine x_ishr X dL_act_113 ?_
      have hsh113 := sh_rg v 4
      refine x_il_n X hl 0 rfl rfl dL_act_114 ?_
      refine x_callS (As := [.ref x, .int (iI (sh v 4)), .int (iI 0)]) (rest := [.ref x]) (c1 := 0) (s1 := 0) X w hA (c_L_number l D cs L f0 x br ba pr sz lr σ (sh v 4) 0 hC hI (by omega) (by omega)) k_L_act_L_number (by decide) rfl hl rfl (Nat.le_of_ble_eq_true rfl) (by decide) rfl rfl dL_act_115 (fun v L1 f1 H locs w hp => ?_)
      obtain ⟨rfl, rfl, hp⟩ := hp
      subst hp
      have hnb115 := aNum_b hI (sh v 4) (od := 0) (by omega)
      show W p l e _ s m _ below meth c _ _ _ _ _ (F0 m 118 ls [.int (iI (aNum (sh v 4) 0 σ)), .ref x])
      refine x_callH1 (As := [.ref x, .int (iI (aNum (sh v 4) 0 σ))]) (rest := []) (c1 := 2) (s1 := 12) X w hA hV hZ (c_L_forfeit l D cs hl9 L f0 x br ba pr sz lr σ (aNum (sh v 4) 0 σ) hC hI (by omega)) k_L_act_L_forfeit (by decide) rfl hl rfl (Nat.le_of_ble_eq_true rfl) (by decide) rfl rfl dL_act_118 (fun v L1 f1 H locs w hp => ?_)
      obtain ⟨rfl, hC⟩ := hp
      show W p l e _ s m _ below meth c _ _ _ _ _ (F0 m 121 ls [.int (iI (tv (oFor (aNum (sh v 4) 0 σ) σ)))])
      refine vx_ret ?_
      refine x_iret X w hr hlk ⟨by decide, by decide⟩ dL_act_121 ?_
      have hod : oD v = 0 := if_neg (by omega)
      have ha : aAct v σ = oFor (aNum (sh v 4) 0 σ) σ := by
        unfold aAct; rw [hod]; unfold aDo
        rw [if_neg (by omega), if_pos (by omega)]
        first | done | rfl
      rw [ha]
      exact ⟨rfl, hC⟩
    · refine lv_tableIn (tgt := 122) X.1.1 X.1.2.1 dL_act_24 (by decide +kernel) (by decide +kernel) (off := 98) (by decide +kernel) (by decide) ?_
      refine x_al_n X hl 1 rfl rfl dL_act_122 ?_
      refine x_al_n X hl 1 rfl rfl dL_act_123 ?_
      refine x_il_n X hl 2 rfl rfl dL_act_124 ?_
      refine x_iconst X dL_act_125 ?_
      refine x_ishr X dL_act_126 ?_
      have hsh126 := sh_rg v 4
      refine x_il_n X hl 0 rfl rfl dL_act_127 ?_
      refine x_callS (As := [.ref x, .int (iI (sh v 4)), .int (iI 0)]) (rest := [.ref x]) (c1 := 0) (s1 := 0) X w hA (c_L_number l D cs L f0 x br ba pr sz lr σ (sh v 4) 0 hC hI (by omega) (by omega)) k_L_act_L_number (by decide) rfl hl rfl (Nat.le_of_ble_eq_true rfl) (by decide) rfl rfl dL_act_128 (fun v L1 f1 H locs w hp => ?_)
      obtain ⟨rfl, rfl, hp⟩ := hp
      subst hp
      have hnb128 := aNum_b hI (sh v 4) (od := 0) (by omega)
      show W p l e _ s m _ below meth c _ _ _ _ _ (F0 m 131 ls [.int (iI (aNum (sh v 4) 0 σ)), .ref x])
      refine x_callH1 (As := [.ref x, .int (iI (aNum (sh v 4) 0 σ))]) (rest := []) (c1 := 2) (s1 := 12) X w hA hV hZ (c_L_undo l D cs hl9 L f0 x br ba pr sz lr σ (aNum (sh v 4) 0 σ) hC hI (by omega)) k_L_act_L_undo (by decide) rfl hl rfl (Nat.le_of_ble_eq_true rfl) (by decide) rfl rfl dL_act_131 (fun v L1 f1 H locs w hp => ?_)
      obtain ⟨rfl, hC⟩ := hp
      show W p l e _ s m _ below meth c _ _ _ _ _ (F0 m 134 ls [.int (iI (tv (oUnd (aNum (sh v 4) 0 σ) σ)))])
      refine vx_ret ?_
      refine x_iret X w hr hlk ⟨by decide, by decide⟩ dL_act_134 ?_
      have hod : oD v = 0 := if_neg (by omega)
      have ha : aAct v σ = oUnd (aNum (sh v 4) 0 σ) σ := by
        unfold aAct; rw [hod]; unfold aDo
        rw [if_neg (by omega), if_neg (by omega), if_pos (by omega)]
        first | done | rfl
      rw [ha]
      exact ⟨rfl, hC⟩
    · refine lv_tableIn (tgt := 135) X.1.1 X.1.2.1 dL_act_24 (by decide +kernel) (by decide +kernel) (off := 111) (by decide +kernel) (by decide) ?_
      refine x_il_n X hl 2 rfl rfl dL_act_135 ?_
      refine x_bipush X (by decide) dL_act_136 ?_
      refine x_ishr X dL_act_138 ?_
      have hsh138 := sh_rg v 12
      refine x_iconst X dL_act_139 ?_
      refine x_callS (As := [.int (iI (sh v 12)), .int (iI 3)]) (rest := []) (c1 := 0) (s1 := 0) X w hA (c_L_low l D cs L f0 (sh v 12) 3 (by omega)) k_L_act_L_low (by decide) rfl hl rfl (Nat.le_of_ble_eq_true rfl) (by decide) rfl rfl dL_act_140 (fun v L1 f1 H locs w hp => ?_)
      obtain ⟨rfl, rfl, hp⟩ := hp
      subst hp
      have hlw140 := lw_rg (sh v 12) (n := 3) (by omega)
      show W p l e _ s m _ below meth c _ _ _ _ _ (F0 m 143 ls [.int (iI (lw (sh v 12) 3))])
      refine x_if_le (tgt := 161) X (by omega) (by decide) dL_act_143 (fun hb143 => ?_) (fun hb143 => ?_)
      · refine x_al_n X hl 1 rfl rfl dL_act_161 ?_
        refine x_il_n X hl 0 rfl rfl dL_act_162 ?_
        refine x_ifT_eq (tgt := 180) X (by decide) (by decide) (by decide) dL_act_163 ?_
        refine x_iconst X dL_act_180 ?_
        refine x_il_n X hl 2 rfl rfl dL_act_181 ?_
        refine x_iconst X dL_act_182 ?_
        refine x_ishr X dL_act_183 ?_
        have hsh183 := sh_rg v 4
        refine x_bipush X (by decide) dL_act_184 ?_
        refine x_callS (As := [.int (iI (sh v 4)), .int (iI 60)]) (rest := [.int (iI 1), .ref x]) (c1 := 0) (s1 := 0) X w hA (c_L_low l D cs L f0 (sh v 4) 60 (by omega)) k_L_act_L_low (by decide) rfl hl rfl (Nat.le_of_ble_eq_true rfl) (by decide) rfl rfl dL_act_186 (fun v L1 f1 H locs w hp => ?_)
        obtain ⟨rfl, rfl, hp⟩ := hp
        subst hp
        have hlw186 := lw_rg (sh v 4) (n := 60) (by omega)
        show W p l e _ s m _ below meth c _ _ _ _ _ (F0 m 189 ls [.int (iI (lw (sh v 4) 60)), .int (iI 1), .ref x])
        refine x_iadd X dL_act_189 ?_
        refine x_al_n X hl 1 rfl rfl dL_act_190 ?_
        refine x_callV (As := []) (rest := [.int (iI (1 + (lw (sh v 4) 60))), .ref x]) (c1 := 0) (s1 := 0) X w hA (c_X3_today l D cs L f0 x br ba pr sz lr σ hC) k_L_act_X3_today (by decide) hC.mx hC.fx rfl rfl rfl hl rfl (Nat.le_of_ble_eq_true rfl) (by decide) rfl rfl dL_act_191 (fun v L1 f1 H locs w hp => ?_)
        obtain ⟨rfl, rfl, hp⟩ := hp
        subst hp
        show W p l e _ s m _ below meth c _ _ _ _ _ (F0 m 194 ls [.int (iI (gT σ)), .int (iI (1 + (lw (sh v 4) 60))), .ref x])
        refine x_il_n X hl 2 rfl rfl dL_act_194 ?_
        refine x_bipush X (by decide) dL_act_195 ?_
        refine x_ishr X dL_act_197 ?_
        have hsh197 := sh_rg v 10
        refine x_bipush X (by decide) dL_act_198 ?_
        refine x_callS (As := [.int (iI (sh v 10)), .int (iI 9)]) (rest := [.int (iI (gT σ)), .int (iI (1 + (lw (sh v 4) 60))), .ref x]) (c1 := 0) (s1 := 0) X w hA (c_L_low l D cs L f0 (sh v 10) 9 (by omega)) k_L_act_L_low (by decide) rfl hl rfl (Nat.le_of_ble_eq_true rfl) (by decide) rfl rfl dL_act_200 (fun v L1 f1 H locs w hp => ?_)
        obtain ⟨rfl, rfl, hp⟩ := hp
        subst hp
        have hlw200 := lw_rg (sh v 10) (n := 9) (by omega)
        show W p l e _ s m _ below meth c _ _ _ _ _ (F0 m 203 ls [.int (iI (lw (sh v 10) 9)), .int (iI (gT σ)), .int (iI (1 + (lw (sh v 4) 60))), .ref x])
        refine x_isub X dL_act_203 ?_
        refine x_il_n X hl 0 rfl rfl dL_act_204 ?_
        refine x_ifT_eq (tgt := 212) X (by decide) (by decide) (by decide) dL_act_205 ?_
        refine x_iconst X dL_act_212 ?_
        refine x_iadd X dL_act_213 ?_
        refine x_callH1 (As := [.ref x, .int (iI (1 + (lw (sh v 4) 60))), .int (iI (((gT σ) - (lw (sh v 10) 9)) + 0))]) (rest := []) (c1 := 1) (s1 := 6) X w hA hV hZ (c_L_amnesty l D cs hl9 L f0 x br ba pr sz lr σ (1 + (lw (sh v 4) 60)) (((gT σ) - (lw (sh v 10) 9)) + 0) hC hI ⟨(by omega), (by omega)⟩) k_L_act_L_amnesty (by decide) rfl hl rfl (Nat.le_of_ble_eq_true rfl) (by decide) rfl rfl dL_act_214 (fun v L1 f1 H locs w hp => ?_)
        obtain ⟨rfl, hC⟩ := hp
        show W p l e _ s m _ below meth c _ _ _ _ _ (F0 m 217 ls [.int (iI (tv (oAmn (1 + (lw (sh v 4) 60)) (((gT σ) - (lw (sh v 10) 9)) + 0) σ)))])
        refine vx_ret ?_
        refine x_iret X w hr hlk ⟨by decide, by decide⟩ dL_act_217 ?_
        have hod : oD v = 0 := if_neg (by omega)
        have ha : aAct v σ = oAmn (1 + (lw (sh v 4) 60)) (((gT σ) - (lw (sh v 10) 9)) + 0) σ := by
          unfold aAct; rw [hod]; unfold aDo
          rw [if_neg (by omega), if_neg (by omega), if_neg (by omega), if_pos (by omega), if_neg (by omega)]
          first | done | rfl
        rw [ha]
        exact ⟨rfl, hC⟩
      · refine x_al_n X hl 1 rfl rfl dL_act_146 ?_
        refine x_al_n X hl 1 rfl rfl dL_act_147 ?_
        refine x_il_n X hl 2 rfl rfl dL_act_148 ?_
        refine x_iconst X dL_act_149 ?_
        refine x_ishr X dL_act_150 ?_
        have hsh150 := sh_rg v 4
        refine x_iconst X dL_act_151 ?_
        refine x_callS (As := [.ref x, .int (iI (sh v 4)), .int (iI 0)]) (rest := [.ref x]) (c1 := 0) (s1 := 0) X w hA (c_L_number l D cs L f0 x br ba pr sz lr σ (sh v 4) 0 hC hI (by omega) (by omega)) k_L_act_L_number (by decide) rfl hl rfl (Nat.le_of_ble_eq_true rfl) (by decide) rfl rfl dL_act_152 (fun v L1 f1 H locs w hp => ?_)
        obtain ⟨rfl, rfl, hp⟩ := hp
        subst hp
        have hnb152 := aNum_b hI (sh v 4) (od := 0) (by omega)
        show W p l e _ s m _ below meth c _ _ _ _ _ (F0 m 155 ls [.int (iI (aNum (sh v 4) 0 σ)), .ref x])
        refine x_callH1 (As := [.ref x, .int (iI (aNum (sh v 4) 0 σ))]) (rest := []) (c1 := 2) (s1 := 12) X w hA hV hZ (c_L_undo l D cs hl9 L f0 x br ba pr sz lr σ (aNum (sh v 4) 0 σ) hC hI (by omega)) k_L_act_L_undo (by decide) rfl hl rfl (Nat.le_of_ble_eq_true rfl) (by decide) rfl rfl dL_act_155 (fun v L1 f1 H locs w hp => ?_)
        obtain ⟨rfl, hC⟩ := hp
        show W p l e _ s m _ below meth c _ _ _ _ _ (F0 m 158 ls [.int (iI (tv (oUnd (aNum (sh v 4) 0 σ) σ)))])
        refine x_goto (tgt := 217) X (by decide) dL_act_158 ?_
        refine vx_ret ?_
        refine x_iret X w hr hlk ⟨by decide, by decide⟩ dL_act_217 ?_
        have hod : oD v = 0 := if_neg (by omega)
        have ha : aAct v σ = oUnd (aNum (sh v 4) 0 σ) σ := by
          unfold aAct; rw [hod]; unfold aDo
          rw [if_neg (by omega), if_neg (by omega), if_neg (by omega), if_pos (by omega), if_pos (by omega)]
          first | done | rfl
        rw [ha]
        exact ⟨rfl, hC⟩
    · refine lv_tableIn (tgt := 218) X.1.1 X.1.2.1 dL_act_24 (by decide +kernel) (by decide +kernel) (off := 194) (by decide +kernel) (by decide) ?_
      refine x_al_n X hl 1 rfl rfl dL_act_218 ?_
      refine x_il_n X hl 0 rfl rfl dL_act_219 ?_
      refine x_ifT_eq (tgt := 234) X (by decide) (by decide) (by decide) dL_act_220 ?_
      refine x_iconst X dL_act_234 ?_
      refine x_il_n X hl 2 rfl rfl dL_act_235 ?_
      refine x_iconst X dL_act_236 ?_
      refine x_ishr X dL_act_237 ?_
      have hsh237 := sh_rg v 4
      refine x_bipush X (by decide) dL_act_238 ?_
      refine x_callS (As := [.int (iI (sh v 4)), .int (iI 6)]) (rest := [.int (iI 1), .ref x]) (c1 := 0) (s1 := 0) X w hA (c_L_low l D cs L f0 (sh v 4) 6 (by omega)) k_L_act_L_low (by decide) rfl hl rfl (Nat.le_of_ble_eq_true rfl) (by decide) rfl rfl dL_act_240 (fun v L1 f1 H locs w hp => ?_)
      obtain ⟨rfl, rfl, hp⟩ := hp
      subst hp
      have hlw240 := lw_rg (sh v 4) (n := 6) (by omega)
      show W p l e _ s m _ below meth c _ _ _ _ _ (F0 m 243 ls [.int (iI (lw (sh v 4) 6)), .int (iI 1), .ref x])
      refine x_iadd X dL_act_243 ?_
      refine x_callH1 (As := [.ref x, .int (iI (1 + (lw (sh v 4) 6)))]) (rest := []) (c1 := 1) (s1 := 6) X w hA hV hZ (c_L_pass l D cs hl9 L f0 x br ba pr sz lr σ (1 + (lw (sh v 4) 6)) hC hI (by omega)) k_L_act_L_pass (by decide) rfl hl rfl (Nat.le_of_ble_eq_true rfl) (by decide) rfl rfl dL_act_244 (fun v L1 f1 H locs w hp => ?_)
      obtain ⟨rfl, hC⟩ := hp
      show W p l e _ s m _ below meth c _ _ _ _ _ (F0 m 247 ls [.int (iI (tv (oPas (1 + (lw (sh v 4) 6)) σ)))])
      refine vx_ret ?_
      refine x_iret X w hr hlk ⟨by decide, by decide⟩ dL_act_247 ?_
      have hod : oD v = 0 := if_neg (by omega)
      have ha : aAct v σ = oPas (1 + (lw (sh v 4) 6)) σ := by
        unfold aAct; rw [hod]; unfold aDo
        rw [if_neg (by omega), if_neg (by omega), if_neg (by omega), if_neg (by omega), if_pos (by omega)]
        first | done | rfl
      rw [ha]
      exact ⟨rfl, hC⟩
    · refine lv_tableIn (tgt := 248) X.1.1 X.1.2.1 dL_act_24 (by decide +kernel) (by decide +kernel) (off := 224) (by decide +kernel) (by decide) ?_
      refine x_al_n X hl 1 rfl rfl dL_act_248 ?_
      refine x_callH1 (As := [.ref x]) (rest := []) (c1 := 1) (s1 := 6) X w hA hV hZ (c_L_sweep l D cs hl9 L f0 x br ba pr sz lr σ hC hI) k_L_act_L_sweep (by decide) rfl hl rfl (Nat.le_of_ble_eq_true rfl) (by decide) rfl rfl dL_act_249 (fun v L1 f1 H locs w hp => ?_)
      obtain ⟨rfl, hC⟩ := hp
      show W p l e _ s m _ below meth c _ _ _ _ _ (F0 m 252 ls [.int (iI (tv (oSwe σ)))])
      refine vx_ret ?_
      refine x_iret X w hr hlk ⟨by decide, by decide⟩ dL_act_252 ?_
      have hod : oD v = 0 := if_neg (by omega)
      have ha : aAct v σ = oSwe σ := by
        unfold aAct; rw [hod]; unfold aDo
        rw [if_neg (by omega), if_neg (by omega), if_neg (by omega), if_neg (by omega), if_neg (by omega), if_pos (by omega)]
        first | done | rfl
      rw [ha]
      exact ⟨rfl, hC⟩
    · refine lv_tableIn (tgt := 253) X.1.1 X.1.2.1 dL_act_24 (by decide +kernel) (by decide +kernel) (off := 229) (by decide +kernel) (by decide) ?_
      refine x_al_n X hl 1 rfl rfl dL_act_253 ?_
      refine x_il_n X hl 0 rfl rfl dL_act_254 ?_
      refine x_ifT_eq (tgt := 269) X (by decide) (by decide) (by decide) dL_act_255 ?_
      refine x_iconst X dL_act_269 ?_
      refine x_il_n X hl 2 rfl rfl dL_act_270 ?_
      refine x_iconst X dL_act_271 ?_
      refine x_ishr X dL_act_272 ?_
      have hsh272 := sh_rg v 4
      refine x_iconst X dL_act_273 ?_
      refine x_callS (As := [.int (iI (sh v 4)), .int (iI 4)]) (rest := [.int (iI 1), .ref x]) (c1 := 0) (s1 := 0) X w hA (c_L_low l D cs L f0 (sh v 4) 4 (by omega)) k_L_act_L_low (by decide) rfl hl rfl (Nat.le_of_ble_eq_true rfl) (by decide) rfl rfl dL_act_274 (fun v L1 f1 H locs w hp => ?_)
      obtain ⟨rfl, rfl, hp⟩ := hp
      subst hp
      have hlw274 := lw_rg (sh v 4) (n := 4) (by omega)
      show W p l e _ s m _ below meth c _ _ _ _ _ (F0 m 277 ls [.int (iI (lw (sh v 4) 4)), .int (iI 1), .ref x])
      refine x_iadd X dL_act_277 ?_
      refine x_callH1 (As := [.ref x, .int (iI (1 + (lw (sh v 4) 4)))]) (rest := []) (c1 := 1) (s1 := 6) X w hA hV hZ (c_L_step l D cs hl9 L f0 x br ba pr sz lr σ (1 + (lw (sh v 4) 4)) hC hI (by omega)) k_L_act_L_step (by decide) rfl hl rfl (Nat.le_of_ble_eq_true rfl) (by decide) rfl rfl dL_act_278 (fun v L1 f1 H locs w hp => ?_)
      obtain ⟨rfl, hC⟩ := hp
      show W p l e _ s m _ below meth c _ _ _ _ _ (F0 m 281 ls [.int (iI (tv (oSte (1 + (lw (sh v 4) 4)) σ)))])
      refine vx_ret ?_
      refine x_iret X w hr hlk ⟨by decide, by decide⟩ dL_act_281 ?_
      have hod : oD v = 0 := if_neg (by omega)
      have ha : aAct v σ = oSte (1 + (lw (sh v 4) 4)) σ := by
        unfold aAct; rw [hod]; unfold aDo
        rw [if_neg (by omega), if_neg (by omega), if_neg (by omega), if_neg (by omega), if_neg (by omega), if_neg (by omega), if_pos (by omega)]
        first | done | rfl
      rw [ha]
      exact ⟨rfl, hC⟩
    · refine lv_tableIn (tgt := 253) X.1.1 X.1.2.1 dL_act_24 (by decide +kernel) (by decide +kernel) (off := 229) (by decide +kernel) (by decide) ?_
      refine x_al_n X hl 1 rfl rfl dL_act_253 ?_
      refine x_il_n X hl 0 rfl rfl dL_act_254 ?_
      refine x_ifT_eq (tgt := 269) X (by decide) (by decide) (by decide) dL_act_255 ?_
      refine x_iconst X dL_act_269 ?_
      refine x_il_n X hl 2 rfl rfl dL_act_270 ?_
      refine x_iconst X dL_act_271 ?_
      refine x_ishr X dL_act_272 ?_
      have hsh272 := sh_rg v 4
      refine x_iconst X dL_act_273 ?_
      refine x_callS (As := [.int (iI (sh v 4)), .int (iI 4)]) (rest := [.int (iI 1), .ref x]) (c1 := 0) (s1 := 0) X w hA (c_L_low l D cs L f0 (sh v 4) 4 (by omega)) k_L_act_L_low (by decide) rfl hl rfl (Nat.le_of_ble_eq_true rfl) (by decide) rfl rfl dL_act_274 (fun v L1 f1 H locs w hp => ?_)
      obtain ⟨rfl, rfl, hp⟩ := hp
      subst hp
      have hlw274 := lw_rg (sh v 4) (n := 4) (by omega)
      show W p l e _ s m _ below meth c _ _ _ _ _ (F0 m 277 ls [.int (iI (lw (sh v 4) 4)), .int (iI 1), .ref x])
      refine x_iadd X dL_act_277 ?_
      refine x_callH1 (As := [.ref x, .int (iI (1 + (lw (sh v 4) 4)))]) (rest := []) (c1 := 1) (s1 := 6) X w hA hV hZ (c_L_step l D cs hl9 L f0 x br ba pr sz lr σ (1 + (lw (sh v 4) 4)) hC hI (by omega)) k_L_act_L_step (by decide) rfl hl rfl (Nat.le_of_ble_eq_true rfl) (by decide) rfl rfl dL_act_278 (fun v L1 f1 H locs w hp => ?_)
      obtain ⟨rfl, hC⟩ := hp
      show W p l e _ s m _ below meth c _ _ _ _ _ (F0 m 281 ls [.int (iI (tv (oSte (1 + (lw (sh v 4) 4)) σ)))])
      refine vx_ret ?_
      refine x_iret X w hr hlk ⟨by decide, by decide⟩ dL_act_281 ?_
      have hod : oD v = 0 := if_neg (by omega)
      have ha : aAct v σ = oSte (1 + (lw (sh v 4) 4)) σ := by
        unfold aAct; rw [hod]; unfold aDo
        rw [if_neg (by omega), if_neg (by omega), if_neg (by omega), if_neg (by omega), if_neg (by omega), if_neg (by omega), if_pos (by omega)]
        first | done | rfl
      rw [ha]
      exact ⟨rfl, hC⟩
    · refine lv_tableIn (tgt := 282) X.1.1 X.1.2.1 dL_act_24 (by decide +kernel) (by decide +kernel) (off := 258) (by decide +kernel) (by decide) ?_
      refine x_al_n X hl 1 rfl rfl dL_act_282 ?_
      refine x_il_n X hl 0 rfl rfl dL_act_283 ?_
      refine x_ifT_eq (tgt := 300) X (by decide) (by decide) (by decide) dL_act_284 ?_
      refine x_il_n X hl 2 rfl rfl dL_act_300 ?_
      refine x_iconst X dL_act_301 ?_
      refine x_ishr X dL_act_302 ?_
      have hsh302 := sh_rg v 4
      refine x_iconst X dL_act_303 ?_
      refine x_callS (As := [.int (iI (sh v 4)), .int (iI 4)]) (rest := [.ref x]) (c1 := 0) (s1 := 0) X w hA (c_L_low l D cs L f0 (sh v 4) 4 (by omega)) k_L_act_L_low (by decide) rfl hl rfl (Nat.le_of_ble_eq_true rfl) (by decide) rfl rfl dL_act_304 (fun v L1 f1 H locs w hp => ?_)
      obtain ⟨rfl, rfl, hp⟩ := hp
      subst hp
      have hlw304 := lw_rg (sh v 4) (n := 4) (by omega)
      show W p l e _ s m _ below meth c _ _ _ _ _ (F0 m 307 ls [.int (iI (lw (sh v 4) 4)), .ref x])
      refine x_callH1 (As := [.ref x, .int (iI (lw (sh v 4) 4))]) (rest := []) (c1 := 1) (s1 := 6) X w hA hV hZ (c_L_walk l D cs hl9 L f0 x br ba pr sz lr σ (lw (sh v 4) 4) hC hI (by omega)) k_L_act_L_walk (by decide) rfl hl rfl (Nat.le_of_ble_eq_true rfl) (by decide) rfl rfl dL_act_307 (fun v L1 f1 H locs w hp => ?_)
      obtain ⟨rfl, hC⟩ := hp
      show W p l e _ s m _ below meth c _ _ _ _ _ (F0 m 310 ls [.int (iI (tv (oWal (lw (sh v 4) 4) σ)))])
      refine vx_ret ?_
      refine x_iret X w hr hlk ⟨by decide, by decide⟩ dL_act_310 ?_
      have hod : oD v = 0 := if_neg (by omega)
      have ha : aAct v σ = oWal (lw (sh v 4) 4) σ := by
        unfold aAct; rw [hod]; unfold aDo
        rw [if_neg (by omega), if_neg (by omega), if_neg (by omega), if_neg (by omega), if_neg (by omega), if_neg (by omega), if_neg (by omega), if_pos (by omega)]
        first | done | rfl
      rw [ha]
      exact ⟨rfl, hC⟩
    · refine lv_tableOut (tgt := 311) X.1.1 X.1.2.1 dL_act_24 (Or.inr (by rw [iI_toInt (by omega)]; exact hgt)) (by decide) ?_
      refine x_al_n X hl 1 rfl rfl dL_act_311 ?_
      refine x_il_n X hl 0 rfl rfl dL_act_312 ?_
      refine x_ifT_eq (tgt := 330) X (by decide) (by decide) (by decide) dL_act_313 ?_
      refine x_il_n X hl 2 rfl rfl dL_act_330 ?_
      refine x_iconst X dL_act_331 ?_
      refine x_ishr X dL_act_332 ?_
      have hsh332 := sh_rg v 4
      refine x_bipush X (by decide) dL_act_333 ?_
      refine x_callS (As := [.int (iI (sh v 4)), .int (iI 60)]) (rest := [.ref x]) (c1 := 0) (s1 := 0) X w hA (c_L_low l D cs L f0 (sh v 4) 60 (by omega)) k_L_act_L_low (by decide) rfl hl rfl (Nat.le_of_ble_eq_true rfl) (by decide) rfl rfl dL_act_335 (fun v L1 f1 H locs w hp => ?_)
      obtain ⟨rfl, rfl, hp⟩ := hp
      subst hp
      have hlw335 := lw_rg (sh v 4) (n := 60) (by omega)
      show W p l e _ s m _ below meth c _ _ _ _ _ (F0 m 338 ls [.int (iI (lw (sh v 4) 60)), .ref x])
      refine x_il_n X hl 0 rfl rfl dL_act_338 ?_
      refine x_ifT_eq (tgt := 357) X (by decide) (by decide) (by decide) dL_act_339 ?_
      refine x_iconst X dL_act_357 ?_
      refine x_il_n X hl 2 rfl rfl dL_act_358 ?_
      refine x_bipush X (by decide) dL_act_359 ?_
      refine x_ishr X dL_act_361 ?_
      have hsh361 := sh_rg v 9
      refine x_bipush X (by decide) dL_act_362 ?_
      refine x_callS (As := [.int (iI (sh v 9)), .int (iI 90)]) (rest := [.int (iI 1), .int (iI (lw (sh v 4) 60)), .ref x]) (c1 := 0) (s1 := 0) X w hA (c_L_low l D cs L f0 (sh v 9) 90 (by omega)) k_L_act_L_low (by decide) rfl hl rfl (Nat.le_of_ble_eq_true rfl) (by decide) rfl rfl dL_act_364 (fun v L1 f1 H locs w hp => ?_)
      obtain ⟨rfl, rfl, hp⟩ := hp
      subst hp
      have hlw364 := lw_rg (sh v 9) (n := 90) (by omega)
      show W p l e _ s m _ below meth c _ _ _ _ _ (F0 m 367 ls [.int (iI (lw (sh v 9) 90)), .int (iI 1), .int (iI (lw (sh v 4) 60)), .ref x])
      refine x_iadd X dL_act_367 ?_
      refine x_il_n X hl 0 rfl rfl dL_act_368 ?_
      refine x_ifT_eq (tgt := 385) X (by decide) (by decide) (by decide) dL_act_369 ?_
      refine x_il_n X hl 2 rfl rfl dL_act_385 ?_
      refine x_bipush X (by decide) dL_act_386 ?_
      refine x_ishr X dL_act_388 ?_
      have hsh388 := sh_rg v 11
      refine x_bipush X (by decide) dL_act_389 ?_
      refine x_callS (As := [.int (iI (sh v 11)), .int (iI 10)]) (rest := [.int (iI (1 + (lw (sh v 9) 90))), .int (iI (lw (sh v 4) 60)), .ref x]) (c1 := 0) (s1 := 0) X w hA (c_L_low l D cs L f0 (sh v 11) 10 (by omega)) k_L_act_L_low (by decide) rfl hl rfl (Nat.le_of_ble_eq_true rfl) (by decide) rfl rfl dL_act_391 (fun v L1 f1 H locs w hp => ?_)
      obtain ⟨rfl, rfl, hp⟩ := hp
      subst hp
      have hlw391 := lw_rg (sh v 11) (n := 10) (by omega)
      show W p l e _ s m _ below meth c _ _ _ _ _ (F0 m 394 ls [.int (iI (lw (sh v 11) 10)), .int (iI (1 + (lw (sh v 9) 90))), .int (iI (lw (sh v 4) 60)), .ref x])
      refine x_callH1 (As := [.ref x, .int (iI (lw (sh v 4) 60)), .int (iI (1 + (lw (sh v 9) 90))), .int (iI (lw (sh v 11) 10))]) (rest := []) (c1 := 2) (s1 := 12) X w hA hV hZ (c_L_put l D cs hl9 L f0 x br ba pr sz lr σ (lw (sh v 4) 60) (1 + (lw (sh v 9) 90)) (lw (sh v 11) 10) hC hI ⟨(by omega), (by omega), (by omega)⟩) k_L_act_L_put (by decide) rfl hl rfl (Nat.le_of_ble_eq_true rfl) (by decide) rfl rfl dL_act_394 (fun v L1 f1 H locs w hp => ?_)
      obtain ⟨rfl, hC⟩ := hp
      show W p l e _ s m _ below meth c _ _ _ _ _ (F0 m 397 ls [.int (iI (tv (oPut (lw (sh v 4) 60) (1 + (lw (sh v 9) 90)) (lw (sh v 11) 10) σ)))])
      refine vx_ret ?_
      refine x_iret X w hr hlk ⟨by decide, by decide⟩ dL_act_397 ?_
      have hod : oD v = 0 := if_neg (by omega)
      have ha : aAct v σ = oPut (lw (sh v 4) 60) (1 + (lw (sh v 9) 90)) (lw (sh v 11) 10) σ := by
        unfold aAct; rw [hod]; unfold aDo
        rw [if_neg (by omega), if_neg (by omega), if_neg (by omega), if_neg (by omega), if_neg (by omega), if_neg (by omega), if_neg (by omega), if_neg (by omega)]
        first | done | rfl
      rw [ha]
      exact ⟨rfl, hC⟩
  · refine x_iconst X dL_act_12 ?_
    refine x_goto (tgt := 17) X (by decide) dL_act_13 ?_
    refine x_is_n (lv' := [(2, .int (iI 1)), (0, .ref x), (1, .int (iI v))]) X hl rfl (by decide) rfl dL_act_17 (fun ls hl => ?_)
    refine x_il_n X hl 2 rfl rfl dL_act_18 ?_
    refine x_bipush X (by decide) dL_act_19 ?_
    refine x_callS (As := [.int (iI v), .int (iI 22)]) (rest := []) (c1 := 0) (s1 := 0) X w hA (c_L_low l D cs L f0 v 22 (by omega)) k_L_act_L_low (by decide) rfl hl rfl (Nat.le_of_ble_eq_true rfl) (by decide) rfl rfl dL_act_21 (fun v L1 f1 H locs w hp => ?_)
    obtain ⟨rfl, rfl, hp⟩ := hp
    subst hp
    have hlw21 := lw_rg v (n := 22) (by omega)
    show W p l e _ s m _ below meth c _ _ _ _ _ (F0 m 24 ls [.int (iI (lw v 22))])
    obtain ⟨u, hu⟩ : ∃ u : Int, lw v 22 = u := ⟨_, rfl⟩
    have hur := lw_rg v (n := 22) (by omega)
    rw [hu] at hur
    rw [hu]
    rcases (show u = 0 ∨ u = 1 ∨ u = 2 ∨ u = 3 ∨ u = 4 ∨ u = 5 ∨ u = 6 ∨ u = 7 ∨ u = 8 ∨ u = 9 ∨ u = 10 ∨ u = 11 ∨ u = 12 ∨ u = 13 ∨ 13 < u by omega) with rfl | rfl | rfl | rfl | rfl | rfl | rfl | rfl | rfl | rfl | rfl | rfl | rfl | rfl | hgt
    · refine lv_tableIn (tgt := 96) X.1.1 X.1.2.1 dL_act_24 (by decide +kernel) (by decide +kernel) (off := 72) (by decide +kernel) (by decide) ?_
      refine x_al_n X hl 1 rfl rfl dL_act_96 ?_
      refine x_al_n X hl 1 rfl rfl dL_act_97 ?_
      refine x_il_n X hl 2 rfl rfl dL_act_98 ?_
      refine x_iconst X dL_act_99 ?_
      refine x_ishr X dL_act_100 ?_
      have hsh100 := sh_rg v 4
      refine x_il_n X hl 0 rfl rfl dL_act_101 ?_
      refine x_callS (As := [.ref x, .int (iI (sh v 4)), .int (iI 1)]) (rest := [.ref x]) (c1 := 0) (s1 := 0) X w hA (c_L_number l D cs L f0 x br ba pr sz lr σ (sh v 4) 1 hC hI (by omega) (by omega)) k_L_act_L_number (by decide) rfl hl rfl (Nat.le_of_ble_eq_true rfl) (by decide) rfl rfl dL_act_102 (fun v L1 f1 H locs w hp => ?_)
      obtain ⟨rfl, rfl, hp⟩ := hp
      subst hp
      have hnb102 := aNum_b hI (sh v 4) (od := 1) (by omega)
      show W p l e _ s m _ below meth c _ _ _ _ _ (F0 m 105 ls [.int (iI (aNum (sh v 4) 1 σ)), .ref x])
      refine x_callH1 (As := [.ref x, .int (iI (aNum (sh v 4) 1 σ))]) (rest := []) (c1 := 2) (s1 := 12) X w hA hV hZ (c_L_payBack l D cs hl9 L f0 x br ba pr sz lr σ (aNum (sh v 4) 1 σ) hC hI (by omega)) k_L_act_L_payBack (by decide) rfl hl rfl (Nat.le_of_ble_eq_true rfl) (by decide) rfl rfl dL_act_105 (fun v L1 f1 H locs w hp => ?_)
      obtain ⟨rfl, hC⟩ := hp
      show W p l e _ s m _ below meth c _ _ _ _ _ (F0 m 108 ls [.int (iI (tv (oPay (aNum (sh v 4) 1 σ) σ)))])
      refine vx_ret ?_
      refine x_iret X w hr hlk ⟨by decide, by decide⟩ dL_act_108 ?_
      have hod : oD v = 1 := if_pos (by omega)
      have ha : aAct v σ = oPay (aNum (sh v 4) 1 σ) σ := by
        unfold aAct; rw [hod]; unfold aDo
        rw [if_pos (by omega)]
        first | done | rfl
      rw [ha]
      exact ⟨rfl, hC⟩
    · refine lv_tableIn (tgt := 96) X.1.1 X.1.2.1 dL_act_24 (by decide +kernel) (by decide +kernel) (off := 72) (by decide +kernel) (by decide) ?_
      refine x_al_n X hl 1 rfl rfl dL_act_96 ?_
      refine x_al_n X hl 1 rfl rfl dL_act_97 ?_
      refine x_il_n X hl 2 rfl rfl dL_act_98 ?_
      refine x_iconst X dL_act_99 ?_
      refine x_ishr X dL_act_100 ?_
      have hsh100 := sh_rg v 4
      refine x_il_n X hl 0 rfl rfl dL_act_101 ?_
      refine x_callS (As := [.ref x, .int (iI (sh v 4)), .int (iI 1)]) (rest := [.ref x]) (c1 := 0) (s1 := 0) X w hA (c_L_number l D cs L f0 x br ba pr sz lr σ (sh v 4) 1 hC hI (by omega) (by omega)) k_L_act_L_number (by decide) rfl hl rfl (Nat.le_of_ble_eq_true rfl) (by decide) rfl rfl dL_act_102 (fun v L1 f1 H locs w hp => ?_)
      obtain ⟨rfl, rfl, hp⟩ := hp
      subst hp
      have hnb102 := aNum_b hI (sh v 4) (od := 1) (by omega)
      show W p l e _ s m _ below meth c _ _ _ _ _ (F0 m 105 ls [.int (iI (aNum (sh v 4) 1 σ)), .ref x])
      refine x_callH1 (As := [.ref x, .int (iI (aNum (sh v 4) 1 σ))]) (rest := []) (c1 := 2) (s1 := 12) X w hA hV hZ (c_L_payBack l D cs hl9 L f0 x br ba pr sz lr σ (aNum (sh v 4) 1 σ) hC hI (by omega)) k_L_act_L_payBack (by decide) rfl hl rfl (Nat.le_of_ble_eq_true rfl) (by decide) rfl rfl dL_act_105 (fun v L1 f1 H locs w hp => ?_)
      obtain ⟨rfl, hC⟩ := hp
      show W p l e _ s m _ below meth c _ _ _ _ _ (F0 m 108 ls [.int (iI (tv (oPay (aNum (sh v 4) 1 σ) σ)))])
      refine vx_ret ?_
      refine x_iret X w hr hlk ⟨by decide, by decide⟩ dL_act_108 ?_
      have hod : oD v = 1 := if_pos (by omega)
      have ha : aAct v σ = oPay (aNum (sh v 4) 1 σ) σ := by
        unfold aAct; rw [hod]; unfold aDo
        rw [if_pos (by omega)]
        first | done | rfl
      rw [ha]
      exact ⟨rfl, hC⟩
    · refine lv_tableIn (tgt := 96) X.1.1 X.1.2.1 dL_act_24 (by decide +kernel) (by decide +kernel) (off := 72) (by decide +kernel) (by decide) ?_
      refine x_al_n X hl 1 rfl rfl dL_act_96 ?_
      refine x_al_n X hl 1 rfl rfl dL_act_97 ?_
      refine x_il_n X hl 2 rfl rfl dL_act_98 ?_
      refine x_iconst X dL_act_99 ?_
      refine x_ishr X dL_act_100 ?_
      have hsh100 := sh_rg v 4
      refine x_il_n X hl 0 rfl rfl dL_act_101 ?_
      refine x_callS (As := [.ref x, .int (iI (sh v 4)), .int (iI 1)]) (rest := [.ref x]) (c1 := 0) (s1 := 0) X w hA (c_L_number l D cs L f0 x br ba pr sz lr σ (sh v 4) 1 hC hI (by omega) (by omega)) k_L_act_L_number (by decide) rfl hl rfl (Nat.le_of_ble_eq_true rfl) (by decide) rfl rfl dL_act_102 (fun v L1 f1 H locs w hp => ?_)
      obtain ⟨rfl, rfl, hp⟩ := hp
      subst hp
      have hnb102 := aNum_b hI (sh v 4) (od := 1) (by omega)
      show W p l e _ s m _ below meth c _ _ _ _ _ (F0 m 105 ls [.int (iI (aNum (sh v 4) 1 σ)), .ref x])
      refine x_callH1 (As := [.ref x, .int (iI (aNum (sh v 4) 1 σ))]) (rest := []) (c1 := 2) (s1 := 12) X w hA hV hZ (c_L_payBack l D cs hl9 L f0 x br ba pr sz lr σ (aNum (sh v 4) 1 σ) hC hI (by omega)) k_L_act_L_payBack (by decide) rfl hl rfl (Nat.le_of_ble_eq_true rfl) (by decide) rfl rfl dL_act_105 (fun v L1 f1 H locs w hp => ?_)
      obtain ⟨rfl, hC⟩ := hp
      show W p l e _ s m _ below meth c _ _ _ _ _ (F0 m 108 ls [.int (iI (tv (oPay (aNum (sh v 4) 1 σ) σ)))])
      refine vx_ret ?_
      refine x_iret X w hr hlk ⟨by decide, by decide⟩ dL_act_108 ?_
      have hod : oD v = 1 := if_pos (by omega)
      have ha : aAct v σ = oPay (aNum (sh v 4) 1 σ) σ := by
        unfold aAct; rw [hod]; unfold aDo
        rw [if_pos (by omega)]
        first | done | rfl
      rw [ha]
      exact ⟨rfl, hC⟩
    · refine lv_tableIn (tgt := 96) X.1.1 X.1.2.1 dL_act_24 (by decide +kernel) (by decide +kernel) (off := 72) (by decide +kernel) (by decide) ?_
      refine x_al_n X hl 1 rfl rfl dL_act_96 ?_
      refine x_al_n X hl 1 rfl rfl dL_act_97 ?_
      refine x_il_n X hl 2 rfl rfl dL_act_98 ?_
      refine x_iconst X dL_act_99 ?_
      refine x_ishr X dL_act_100 ?_
      have hsh100 := sh_rg v 4
      refine x_il_n X hl 0 rfl rfl dL_act_101 ?_
      refine x_callS (As := [.ref x, .int (iI (sh v 4)), .int (iI 1)]) (rest := [.ref x]) (c1 := 0) (s1 := 0) X w hA (c_L_number l D cs L f0 x br ba pr sz lr σ (sh v 4) 1 hC hI (by omega) (by omega)) k_L_act_L_number (by decide) rfl hl rfl (Nat.le_of_ble_eq_true rfl) (by decide) rfl rfl dL_act_102 (fun v L1 f1 H locs w hp => ?_)
      obtain ⟨rfl, rfl, hp⟩ := hp
      subst hp
      have hnb102 := aNum_b hI (sh v 4) (od := 1) (by omega)
      show W p l e _ s m _ below meth c _ _ _ _ _ (F0 m 105 ls [.int (iI (aNum (sh v 4) 1 σ)), .ref x])
      refine x_callH1 (As := [.ref x, .int (iI (aNum (sh v 4) 1 σ))]) (rest := []) (c1 := 2) (s1 := 12) X w hA hV hZ (c_L_payBack l D cs hl9 L f0 x br ba pr sz lr σ (aNum (sh v 4) 1 σ) hC hI (by omega)) k_L_act_L_payBack (by decide) rfl hl rfl (Nat.le_of_ble_eq_true rfl) (by decide) rfl rfl dL_act_105 (fun v L1 f1 H locs w hp => ?_)
      obtain ⟨rfl, hC⟩ := hp
      show W p l e _ s m _ below meth c _ _ _ _ _ (F0 m 108 ls [.int (iI (tv (oPay (aNum (sh v 4) 1 σ) σ)))])
      refine vx_ret ?_
      refine x_iret X w hr hlk ⟨by decide, by decide⟩ dL_act_108 ?_
      have hod : oD v = 1 := if_pos (by omega)
      have ha : aAct v σ = oPay (aNum (sh v 4) 1 σ) σ := by
        unfold aAct; rw [hod]; unfold aDo
        rw [if_pos (by omega)]
        first | done | rfl
      rw [ha]
      exact ⟨rfl, hC⟩
    · refine lv_tableIn (tgt := 96) X.1.1 X.1.2.1 dL_act_24 (by decide +kernel) (by decide +kernel) (off := 72) (by decide +kernel) (by decide) ?_
      refine x_al_n X hl 1 rfl rfl dL_act_96 ?_
      refine x_al_n X hl 1 rfl rfl dL_act_97 ?_
      refine x_il_n X hl 2 rfl rfl dL_act_98 ?_
      refine x_iconst X dL_act_99 ?_
      refine x_ishr X dL_act_100 ?_
      have hsh100 := sh_rg v 4
      refine x_il_n X hl 0 rfl rfl dL_act_101 ?_
      refine x_callS (As := [.ref x, .int (iI (sh v 4)), .int (iI 1)]) (rest := [.ref x]) (c1 := 0) (s1 := 0) X w hA (c_L_number l D cs L f0 x br ba pr sz lr σ (sh v 4) 1 hC hI (by omega) (by omega)) k_L_act_L_number (by decide) rfl hl rfl (Nat.le_of_ble_eq_true rfl) (by decide) rfl rfl dL_act_102 (fun v L1 f1 H locs w hp => ?_)
      obtain ⟨rfl, rfl, hp⟩ := hp
      subst hp
      have hnb102 := aNum_b hI (sh v 4) (od := 1) (by omega)
      show W p l e _ s m _ below meth c _ _ _ _ _ (F0 m 105 ls [.int (iI (aNum (sh v 4) 1 σ)), .ref x])
      refine x_callH1 (As := [.ref x, .int (iI (aNum (sh v 4) 1 σ))]) (rest := []) (c1 := 2) (s1 := 12) X w hA hV hZ (c_L_payBack l D cs hl9 L f0 x br ba pr sz lr σ (aNum (sh v 4) 1 σ) hC hI (by omega)) k_L_act_L_payBack (by decide) rfl hl rfl (Nat.le_of_ble_eq_true rfl) (by decide) rfl rfl dL_act_105 (fun v L1 f1 H locs w hp => ?_)
      obtain ⟨rfl, hC⟩ := hp
      show W p l e _ s m _ below meth c _ _ _ _ _ (F0 m 108 ls [.int (iI (tv (oPay (aNum (sh v 4) 1 σ) σ)))])
      refine vx_ret ?_
      refine x_iret X w hr hlk ⟨by decide, by decide⟩ dL_act_108 ?_
      have hod : oD v = 1 := if_pos (by omega)
      have ha : aAct v σ = oPay (aNum (sh v 4) 1 σ) σ := by
        unfold aAct; rw [hod]; unfold aDo
        rw [if_pos (by omega)]
        first | done | rfl
      rw [ha]
      exact ⟨rfl, hC⟩
    · refine lv_tableIn (tgt := 109) X.1.1 X.1.2.1 dL_act_24 (by decide +kernel) (by decide +kernel) (off := 85) (by decide +kernel) (by decide) ?_
      refine x_al_n X hl 1 rfl rfl dL_act_109 ?_
      refine x_al_n X hl 1 rfl rfl dL_act_110 ?_
      refine x_il_n X hl 2 rfl rfl dL_act_111 ?_
      refine x_iconst X dL_act_112 ?_
      refine x_ishr X dL_act_113 ?_
      have hsh113 := sh_rg v 4
      refine x_il_n X hl 0 rfl rfl dL_act_114 ?_
      refine x_callS (As := [.ref x, .int (iI (sh v 4)), .int (iI 1)]) (rest := [.ref x]) (c1 := 0) (s1 := 0) X w hA (c_L_number l D cs L f0 x br ba pr sz lr σ (sh v 4) 1 hC hI (by omega) (by omega)) k_L_act_L_number (by decide) rfl hl rfl (Nat.le_of_ble_eq_true rfl) (by decide) rfl rfl dL_act_115 (fun v L1 f1 H locs w hp => ?_)
      obtain ⟨rfl, rfl, hp⟩ := hp
      subst hp
      have hnb115 := aNum_b hI (sh v 4) (od := 1) (by omega)
      show W p l e _ s m _ below meth c _ _ _ _ _ (F0 m 118 ls [.int (iI (aNum (sh v 4) 1 σ)), .ref x])
      refine x_callH1 (As := [.ref x, .int (iI (aNum (sh v 4) 1 σ))]) (rest := []) (c1 := 2) (s1 := 12) X w hA hV hZ (c_L_forfeit l D cs hl9 L f0 x br ba pr sz lr σ (aNum (sh v 4) 1 σ) hC hI (by omega)) k_L_act_L_forfeit (by decide) rfl hl rfl (Nat.le_of_ble_eq_true rfl) (by decide) rfl rfl dL_act_118 (fun v L1 f1 H locs w hp => ?_)
      obtain ⟨rfl, hC⟩ := hp
      show W p l e _ s m _ below meth c _ _ _ _ _ (F0 m 121 ls [.int (iI (tv (oFor (aNum (sh v 4) 1 σ) σ)))])
      refine vx_ret ?_
      refine x_iret X w hr hlk ⟨by decide, by decide⟩ dL_act_121 ?_
      have hod : oD v = 1 := if_pos (by omega)
      have ha : aAct v σ = oFor (aNum (sh v 4) 1 σ) σ := by
        unfold aAct; rw [hod]; unfold aDo
        rw [if_neg (by omega), if_pos (by omega)]
        first | done | rfl
      rw [ha]
      exact ⟨rfl, hC⟩
    · refine lv_tableIn (tgt := 109) X.1.1 X.1.2.1 dL_act_24 (by decide +kernel) (by decide +kernel) (off := 85) (by decide +kernel) (by decide) ?_
      refine x_al_n X hl 1 rfl rfl dL_act_109 ?_
      refine x_al_n X hl 1 rfl rfl dL_act_110 ?_
      refine x_il_n X hl 2 rfl rfl dL_act_111 ?_
      refine x_iconst X dL_act_112 ?_
      refine x_ishr X dL_act_113 ?_
      have hsh113 := sh_rg v 4
      refine x_il_n X hl 0 rfl rfl dL_act_114 ?_
      refine x_callS (As := [.ref x, .int (iI (sh v 4)), .int (iI 1)]) (rest := [.ref x]) (c1 := 0) (s1 := 0) X w hA (c_L_number l D cs L f0 x br ba pr sz lr σ (sh v 4) 1 hC hI (by omega) (by omega)) k_L_act_L_number (by decide) rfl hl rfl (Nat.le_of_ble_eq_true rfl) (by decide) rfl rfl dL_act_115 (fun v L1 f1 H locs w hp => ?_)
      obtain ⟨rfl, rfl, hp⟩ := hp
      subst hp
      have hnb115 := aNum_b hI (sh v 4) (od := 1) (by omega)
      show W p l e _ s m _ below meth c _ _ _ _ _ (F0 m 118 ls [.int (iI (aNum (sh v 4) 1 σ)), .ref x])
      refine x_callH1 (As := [.ref x, .int (iI (aNum (sh v 4) 1 σ))]) (rest := []) (c1 := 2) (s1 := 12) X w hA hV hZ (c_L_forfeit l D cs hl9 L f0 x br ba pr sz lr σ (aNum (sh v 4) 1 σ) hC hI (by omega)) k_L_act_L_forfeit (by decide) rfl hl rfl (Nat.le_of_ble_eq_true rfl) (by decide) rfl rfl dL_act_118 (fun v L1 f1 H locs w hp => ?_)
      obtain ⟨rfl, hC⟩ := hp
      show W p l e _ s m _ below meth c _ _ _ _ _ (F0 m 121 ls [.int (iI (tv (oFor (aNum (sh v 4) 1 σ) σ)))])
      refine vx_ret ?_
      refine x_iret X w hr hlk ⟨by decide, by decide⟩ dL_act_121 ?_
      have hod : oD v = 1 := if_pos (by omega)
      have ha : aAct v σ = oFor (aNum (sh v 4) 1 σ) σ := by
        unfold aAct; rw [hod]; unfold aDo
        rw [if_neg (by omega), if_pos (by omega)]
        first | done | rfl
      rw [ha]
      exact ⟨rfl, hC⟩
    · refine lv_tableIn (tgt := 122) X.1.1 X.1.2.1 dL_act_24 (by decide +kernel) (by decide +kernel) (off := 98) (by decide +kernel) (by decide) ?_
      refine x_al_n X hl 1 rfl rfl dL_act_122 ?_
      refine x_al_n X hl 1 rfl rfl dL_act_123 ?_
      refine x_il_n X hl 2 rfl rfl dL_act_124 ?_
      refine x_iconst X dL_act_125 ?_
      refine x_ishr X dL_act_126 ?_
      have hsh126 := sh_rg v 4
      refine x_il_n X hl 0 rfl rfl dL_act_127 ?_
      refine x_callS (As := [.ref x, .int (iI (sh v 4)), .int (iI 1)]) (rest := [.ref x]) (c1 := 0) (s1 := 0) X w hA (c_L_number l D cs L f0 x br ba pr sz lr σ (sh v 4) 1 hC hI (by omega) (by omega)) k_L_act_L_number (by decide) rfl hl rfl (Nat.le_of_ble_eq_true rfl) (by decide) rfl rfl dL_act_128 (fun v L1 f1 H locs w hp => ?_)
      obtain ⟨rfl, rfl, hp⟩ := hp
      subst hp
      have hnb128 := aNum_b hI (sh v 4) (od := 1) (by omega)
      show W p l e _ s m _ below meth c _ _ _ _ _ (F0 m 131 ls [.int (iI (aNum (sh v 4) 1 σ)), .ref x])
      refine x_callH1 (As := [.ref x, .int (iI (aNum (sh v 4) 1 σ))]) (rest := []) (c1 := 2) (s1 := 12) X w hA hV hZ (c_L_undo l D cs hl9 L f0 x br ba pr sz lr σ (aNum (sh v 4) 1 σ) hC hI (by omega)) k_L_act_L_undo (by decide) rfl hl rfl (Nat.le_of_ble_eq_true rfl) (by decide) rfl rfl dL_act_131 (fun v L1 f1 H locs w hp => ?_)
      obtain ⟨rfl, hC⟩ := hp
      show W p l e _ s m _ below meth c _ _ _ _ _ (F0 m 134 ls [.int (iI (tv (oUnd (aNum (sh v 4) 1 σ) σ)))])
      refine vx_ret ?_
      refine x_iret X w hr hlk ⟨by decide, by decide⟩ dL_act_134 ?_
      have hod : oD v = 1 := if_pos (by omega)
      have ha : aAct v σ = oUnd (aNum (sh v 4) 1 σ) σ := by
        unfold aAct; rw [hod]; unfold aDo
        rw [if_neg (by omega), if_neg (by omega), if_pos (by omega)]
        first | done | rfl
      rw [ha]
      exact ⟨rfl, hC⟩
    · refine lv_tableIn (tgt := 135) X.1.1 X.1.2.1 dL_act_24 (by decide +kernel) (by decide +kernel) (off := 111) (by decide +kernel) (by decide) ?_
      refine x_il_n X hl 2 rfl rfl dL_act_135 ?_
      refine x_bipush X (by decide) dL_act_136 ?_
      refine x_ishr X dL_act_138 ?_
      have hsh138 := sh_rg v 12
      refine x_iconst X dL_act_139 ?_
      refine x_callS (As := [.int (iI (sh v 12)), .int (iI 3)]) (rest := []) (c1 := 0) (s1 := 0) X w hA (c_L_low l D cs L f0 (sh v 12) 3 (by omega)) k_L_act_L_low (by decide) rfl hl rfl (Nat.le_of_ble_eq_true rfl) (by decide) rfl rfl dL_act_140 (fun v L1 f1 H locs w hp => ?_)
      obtain ⟨rfl, rfl, hp⟩ := hp
      subst hp
      have hlw140 := lw_rg (sh v 12) (n := 3) (by omega)
      show W p l e _ s m _ below meth c _ _ _ _ _ (F0 m 143 ls [.int (iI (lw (sh v 12) 3))])
      refine x_if_le (tgt := 161) X (by omega) (by decide) dL_act_143 (fun hb143 => ?_) (fun hb143 => ?_)
      · refine x_al_n X hl 1 rfl rfl dL_act_161 ?_
        refine x_il_n X hl 0 rfl rfl dL_act_162 ?_
        refine x_ifF_eq (tgt := 180) X (by decide) (by decide) (by decide) dL_act_163 ?_
        refine x_il_n X hl 2 rfl rfl dL_act_166 ?_
        refine x_iconst X dL_act_167 ?_
        refine x_ishr X dL_act_168 ?_
        have hsh168 := sh_rg v 4
        refine x_sipush X (by decide) dL_act_169 ?_
        refine x_callS (As := [.int (iI (sh v 4)), .int (iI 10003)]) (rest := [.ref x]) (c1 := 0) (s1 := 0) X w hA (c_L_low l D cs L f0 (sh v 4) 10003 (by omega)) k_L_act_L_low (by decide) rfl hl rfl (Nat.le_of_ble_eq_true rfl) (by decide) rfl rfl dL_act_172 (fun v L1 f1 H locs w hp => ?_)
        obtain ⟨rfl, rfl, hp⟩ := hp
        subst hp
        have hlw172 := lw_rg (sh v 4) (n := 10003) (by omega)
        show W p l e _ s m _ below meth c _ _ _ _ _ (F0 m 175 ls [.int (iI (lw (sh v 4) 10003)), .ref x])
        refine x_iconst X dL_act_175 ?_
        refine x_isub X dL_act_176 ?_
        refine x_goto (tgt := 190) X (by decide) dL_act_177 ?_
        refine x_al_n X hl 1 rfl rfl dL_act_190 ?_
        refine x_callV (As := []) (rest := [.int (iI ((lw (sh v 4) 10003) - 1)), .ref x]) (c1 := 0) (s1 := 0) X w hA (c_X3_today l D cs L f0 x br ba pr sz lr σ hC) k_L_act_X3_today (by decide) hC.mx hC.fx rfl rfl rfl hl rfl (Nat.le_of_ble_eq_true rfl) (by decide) rfl rfl dL_act_191 (fun v L1 f1 H locs w hp => ?_)
        obtain ⟨rfl, rfl, hp⟩ := hp
        subst hp
        show W p l e _ s m _ below meth c _ _ _ _ _ (F0 m 194 ls [.int (iI (gT σ)), .int (iI ((lw (sh v 4) 10003) - 1)), .ref x])
        refine x_il_n X hl 2 rfl rfl dL_act_194 ?_
        refine x_bipush X (by decide) dL_act_195 ?_
        refine x_ishr X dL_act_197 ?_
        have hsh197 := sh_rg v 10
        refine x_bipush X (by decide) dL_act_198 ?_
        refine x_callS (As := [.int (iI (sh v 10)), .int (iI 9)]) (rest := [.int (iI (gT σ)), .int (iI ((lw (sh v 4) 10003) - 1)), .ref x]) (c1 := 0) (s1 := 0) X w hA (c_L_low l D cs L f0 (sh v 10) 9 (by omega)) k_L_act_L_low (by decide) rfl hl rfl (Nat.le_of_ble_eq_true rfl) (by decide) rfl rfl dL_act_200 (fun v L1 f1 H locs w hp => ?_)
        obtain ⟨rfl, rfl, hp⟩ := hp
        subst hp
        have hlw200 := lw_rg (sh v 10) (n := 9) (by omega)
        show W p l e _ s m _ below meth c _ _ _ _ _ (F0 m 203 ls [.int (iI (lw (sh v 10) 9)), .int (iI (gT σ)), .int (iI ((lw (sh v 4) 10003) - 1)), .ref x])
        refine x_isub X dL_act_203 ?_
        refine x_il_n X hl 0 rfl rfl dL_act_204 ?_
        refine x_ifF_eq (tgt := 212) X (by decide) (by decide) (by decide) dL_act_205 ?_
        refine x_iconst X dL_act_208 ?_
        refine x_goto (tgt := 213) X (by decide) dL_act_209 ?_
        refine x_iadd X dL_act_213 ?_
        refine x_callH1 (As := [.ref x, .int (iI ((lw (sh v 4) 10003) - 1)), .int (iI (((gT σ) - (lw (sh v 10) 9)) + 2))]) (rest := []) (c1 := 1) (s1 := 6) X w hA hV hZ (c_L_amnesty l D cs hl9 L f0 x br ba pr sz lr σ ((lw (sh v 4) 10003) - 1) (((gT σ) - (lw (sh v 10) 9)) + 2) hC hI ⟨(by omega), (by omega)⟩) k_L_act_L_amnesty (by decide) rfl hl rfl (Nat.le_of_ble_eq_true rfl) (by decide) rfl rfl dL_act_214 (fun v L1 f1 H locs w hp => ?_)
        obtain ⟨rfl, hC⟩ := hp
        show W p l e _ s m _ below meth c _ _ _ _ _ (F0 m 217 ls [.int (iI (tv (oAmn ((lw (sh v 4) 10003) - 1) (((gT σ) - (lw (sh v 10) 9)) + 2) σ)))])
        refine vx_ret ?_
        refine x_iret X w hr hlk ⟨by decide, by decide⟩ dL_act_217 ?_
        have hod : oD v = 1 := if_pos (by omega)
        have ha : aAct v σ = oAmn ((lw (sh v 4) 10003) - 1) (((gT σ) - (lw (sh v 10) 9)) + 2) σ := by
          unfold aAct; rw [hod]; unfold aDo
          rw [if_neg (by omega), if_neg (by omega), if_neg (by omega), if_pos (by omega), if_neg (by omega)]
          first | done | rfl
        rw [ha]
        exact ⟨rfl, hC⟩
      · refine x_al_n X hl 1 rfl rfl dL_act_146 ?_
        refine x_al_n X hl 1 rfl rfl dL_act_147 ?_
        refine x_il_n X hl 2 rfl rfl dL_act_148 ?_
        refine x_iconst X dL_act_149 ?_
        refine x_ishr X dL_act_150 ?_
        have hsh150 := sh_rg v 4
        refine x_iconst X dL_act_151 ?_
        refine x_callS (As := [.ref x, .int (iI (sh v 4)), .int (iI 0)]) (rest := [.ref x]) (c1 := 0) (s1 := 0) X w hA (c_L_number l D cs L f0 x br ba pr sz lr σ (sh v 4) 0 hC hI (by omega) (by omega)) k_L_act_L_number (by decide) rfl hl rfl (Nat.le_of_ble_eq_true rfl) (by decide) rfl rfl dL_act_152 (fun v L1 f1 H locs w hp => ?_)
        obtain ⟨rfl, rfl, hp⟩ := hp
        subst hp
        have hnb152 := aNum_b hI (sh v 4) (od := 0) (by omega)
        show W p l e _ s m _ below meth c _ _ _ _ _ (F0 m 155 ls [.int (iI (aNum (sh v 4) 0 σ)), .ref x])
        refine x_callH1 (As := [.ref x, .int (iI (aNum (sh v 4) 0 σ))]) (rest := []) (c1 := 2) (s1 := 12) X w hA hV hZ (c_L_undo l D cs hl9 L f0 x br ba pr sz lr σ (aNum (sh v 4) 0 σ) hC hI (by omega)) k_L_act_L_undo (by decide) rfl hl rfl (Nat.le_of_ble_eq_true rfl) (by decide) rfl rfl dL_act_155 (fun v L1 f1 H locs w hp => ?_)
        obtain ⟨rfl, hC⟩ := hp
        show W p l e _ s m _ below meth c _ _ _ _ _ (F0 m 158 ls [.int (iI (tv (oUnd (aNum (sh v 4) 0 σ) σ)))])
        refine x_goto (tgt := 217) X (by decide) dL_act_158 ?_
        refine vx_ret ?_
        refine x_iret X w hr hlk ⟨by decide, by decide⟩ dL_act_217 ?_
        have hod : oD v = 1 := if_pos (by omega)
        have ha : aAct v σ = oUnd (aNum (sh v 4) 0 σ) σ := by
          unfold aAct; rw [hod]; unfold aDo
          rw [if_neg (by omega), if_neg (by omega), if_neg (by omega), if_pos (by omega), if_pos (by omega)]
          first | done | rfl
        rw [ha]
        exact ⟨rfl, hC⟩
    · refine lv_tableIn (tgt := 218) X.1.1 X.1.2.1 dL_act_24 (by decide +kernel) (by decide +kernel) (off := 194) (by decide +kernel) (by decide) ?_
      refine x_al_n X hl 1 rfl rfl dL_act_218 ?_
      refine x_il_n X hl 0 rfl rfl dL_act_219 ?_
      refine x_ifF_eq (tgt := 234) X (by decide) (by decide) (by decide) dL_act_220 ?_
      refine x_il_n X hl 2 rfl rfl dL_act_223 ?_
      refine x_iconst X dL_act_224 ?_
      refine x_ishr X dL_act_225 ?_
      have hsh225 := sh_rg v 4
      refine x_bipush X (by decide) dL_act_226 ?_
      refine x_callS (As := [.int (iI (sh v 4)), .int (iI 103)]) (rest := [.ref x]) (c1 := 0) (s1 := 0) X w hA (c_L_low l D cs L f0 (sh v 4) 103 (by omega)) k_L_act_L_low (by decide) rfl hl rfl (Nat.le_of_ble_eq_true rfl) (by decide) rfl rfl dL_act_228 (fun v L1 f1 H locs w hp => ?_)
      obtain ⟨rfl, rfl, hp⟩ := hp
      subst hp
      have hlw228 := lw_rg (sh v 4) (n := 103) (by omega)
      show W p l e _ s m _ below meth c _ _ _ _ _ (F0 m 231 ls [.int (iI (lw (sh v 4) 103)), .ref x])
      refine x_goto (tgt := 244) X (by decide) dL_act_231 ?_
      refine x_callH1 (As := [.ref x, .int (iI (lw (sh v 4) 103))]) (rest := []) (c1 := 1) (s1 := 6) X w hA hV hZ (c_L_pass l D cs hl9 L f0 x br ba pr sz lr σ (lw (sh v 4) 103) hC hI (by omega)) k_L_act_L_pass (by decide) rfl hl rfl (Nat.le_of_ble_eq_true rfl) (by decide) rfl rfl dL_act_244 (fun v L1 f1 H locs w hp => ?_)
      obtain ⟨rfl, hC⟩ := hp
      show W p l e _ s m _ below meth c _ _ _ _ _ (F0 m 247 ls [.int (iI (tv (oPas (lw (sh v 4) 103) σ)))])
      refine vx_ret ?_
      refine x_iret X w hr hlk ⟨by decide, by decide⟩ dL_act_247 ?_
      have hod : oD v = 1 := if_pos (by omega)
      have ha : aAct v σ = oPas (lw (sh v 4) 103) σ := by
        unfold aAct; rw [hod]; unfold aDo
        rw [if_neg (by omega), if_neg (by omega), if_neg (by omega), if_neg (by omega), if_pos (by omega)]
        first | done | rfl
      rw [ha]
      exact ⟨rfl, hC⟩
    · refine lv_tableIn (tgt := 248) X.1.1 X.1.2.1 dL_act_24 (by decide +kernel) (by decide +kernel) (off := 224) (by decide +kernel) (by decide) ?_
      refine x_al_n X hl 1 rfl rfl dL_act_248 ?_
      refine x_callH1 (As := [.ref x]) (rest := []) (c1 := 1) (s1 := 6) X w hA hV hZ (c_L_sweep l D cs hl9 L f0 x br ba pr sz lr σ hC hI) k_L_act_L_sweep (by decide) rfl hl rfl (Nat.le_of_ble_eq_true rfl) (by decide) rfl rfl dL_act_249 (fun v L1 f1 H locs w hp => ?_)
      obtain ⟨rfl, hC⟩ := hp
      show W p l e _ s m _ below meth c _ _ _ _ _ (F0 m 252 ls [.int (iI (tv (oSwe σ)))])
      refine vx_ret ?_
      refine x_iret X w hr hlk ⟨by decide, by decide⟩ dL_act_252 ?_
      have hod : oD v = 1 := if_pos (by omega)
      have ha : aAct v σ = oSwe σ := by
        unfold aAct; rw [hod]; unfold aDo
        rw [if_neg (by omega), if_neg (by omega), if_neg (by omega), if_neg (by omega), if_neg (by omega), if_pos (by omega)]
        first | done | rfl
      rw [ha]
      exact ⟨rfl, hC⟩
    · refine lv_tableIn (tgt := 253) X.1.1 X.1.2.1 dL_act_24 (by decide +kernel) (by decide +kernel) (off := 229) (by decide +kernel) (by decide) ?_
      refine x_al_n X hl 1 rfl rfl dL_act_253 ?_
      refine x_il_n X hl 0 rfl rfl dL_act_254 ?_
      refine x_ifF_eq (tgt := 269) X (by decide) (by decide) (by decide) dL_act_255 ?_
      refine x_il_n X hl 2 rfl rfl dL_act_258 ?_
      refine x_iconst X dL_act_259 ?_
      refine x_ishr X dL_act_260 ?_
      have hsh260 := sh_rg v 4
      refine x_bipush X (by decide) dL_act_261 ?_
      refine x_callS (As := [.int (iI (sh v 4)), .int (iI 103)]) (rest := [.ref x]) (c1 := 0) (s1 := 0) X w hA (c_L_low l D cs L f0 (sh v 4) 103 (by omega)) k_L_act_L_low (by decide) rfl hl rfl (Nat.le_of_ble_eq_true rfl) (by decide) rfl rfl dL_act_263 (fun v L1 f1 H locs w hp => ?_)
      obtain ⟨rfl, rfl, hp⟩ := hp
      subst hp
      have hlw263 := lw_rg (sh v 4) (n := 103) (by omega)
      show W p l e _ s m _ below meth c _ _ _ _ _ (F0 m 266 ls [.int (iI (lw (sh v 4) 103)), .ref x])
      refine x_goto (tgt := 278) X (by decide) dL_act_266 ?_
      refine x_callH1 (As := [.ref x, .int (iI (lw (sh v 4) 103))]) (rest := []) (c1 := 1) (s1 := 6) X w hA hV hZ (c_L_step l D cs hl9 L f0 x br ba pr sz lr σ (lw (sh v 4) 103) hC hI (by omega)) k_L_act_L_step (by decide) rfl hl rfl (Nat.le_of_ble_eq_true rfl) (by decide) rfl rfl dL_act_278 (fun v L1 f1 H locs w hp => ?_)
      obtain ⟨rfl, hC⟩ := hp
      show W p l e _ s m _ below meth c _ _ _ _ _ (F0 m 281 ls [.int (iI (tv (oSte (lw (sh v 4) 103) σ)))])
      refine vx_ret ?_
      refine x_iret X w hr hlk ⟨by decide, by decide⟩ dL_act_281 ?_
      have hod : oD v = 1 := if_pos (by omega)
      have ha : aAct v σ = oSte (lw (sh v 4) 103) σ := by
        unfold aAct; rw [hod]; unfold aDo
        rw [if_neg (by omega), if_neg (by omega), if_neg (by omega), if_neg (by omega), if_neg (by omega), if_neg (by omega), if_pos (by omega)]
        first | done | rfl
      rw [ha]
      exact ⟨rfl, hC⟩
    · refine lv_tableIn (tgt := 253) X.1.1 X.1.2.1 dL_act_24 (by decide +kernel) (by decide +kernel) (off := 229) (by decide +kernel) (by decide) ?_
      refine x_al_n X hl 1 rfl rfl dL_act_253 ?_
      refine x_il_n X hl 0 rfl rfl dL_act_254 ?_
      refine x_ifF_eq (tgt := 269) X (by decide) (by decide) (by decide) dL_act_255 ?_
      refine x_il_n X hl 2 rfl rfl dL_act_258 ?_
      refine x_iconst X dL_act_259 ?_
      refine x_ishr X dL_act_260 ?_
      have hsh260 := sh_rg v 4
      refine x_bipush X (by decide) dL_act_261 ?_
      refine x_callS (As := [.int (iI (sh v 4)), .int (iI 103)]) (rest := [.ref x]) (c1 := 0) (s1 := 0) X w hA (c_L_low l D cs L f0 (sh v 4) 103 (by omega)) k_L_act_L_low (by decide) rfl hl rfl (Nat.le_of_ble_eq_true rfl) (by decide) rfl rfl dL_act_263 (fun v L1 f1 H locs w hp => ?_)
      obtain ⟨rfl, rfl, hp⟩ := hp
      subst hp
      have hlw263 := lw_rg (sh v 4) (n := 103) (by omega)
      show W p l e _ s m _ below meth c _ _ _ _ _ (F0 m 266 ls [.int (iI (lw (sh v 4) 103)), .ref x])
      refine x_goto (tgt := 278) X (by decide) dL_act_266 ?_
      refine x_callH1 (As := [.ref x, .int (iI (lw (sh v 4) 103))]) (rest := []) (c1 := 1) (s1 := 6) X w hA hV hZ (c_L_step l D cs hl9 L f0 x br ba pr sz lr σ (lw (sh v 4) 103) hC hI (by omega)) k_L_act_L_step (by decide) rfl hl rfl (Nat.le_of_ble_eq_true rfl) (by decide) rfl rfl dL_act_278 (fun v L1 f1 H locs w hp => ?_)
      obtain ⟨rfl, hC⟩ := hp
      show W p l e _ s m _ below meth c _ _ _ _ _ (F0 m 281 ls [.int (iI (tv (oSte (lw (sh v 4) 103) σ)))])
      refine vx_ret ?_
      refine x_iret X w hr hlk ⟨by decide, by decide⟩ dL_act_281 ?_
      have hod : oD v = 1 := if_pos (by omega)
      have ha : aAct v σ = oSte (lw (sh v 4) 103) σ := by
        unfold aAct; rw [hod]; unfold aDo
        rw [if_neg (by omega), if_neg (by omega), if_neg (by omega), if_neg (by omega), if_neg (by omega), if_neg (by omega), if_pos (by omega)]
        first | done | rfl
      rw [ha]
      exact ⟨rfl, hC⟩
    · refine lv_tableIn (tgt := 282) X.1.1 X.1.2.1 dL_act_24 (by decide +kernel) (by decide +kernel) (off := 258) (by decide +kernel) (by decide) ?_
      refine x_al_n X hl 1 rfl rfl dL_act_282 ?_
      refine x_il_n X hl 0 rfl rfl dL_act_283 ?_
      refine x_ifF_eq (tgt := 300) X (by decide) (by decide) (by decide) dL_act_284 ?_
      refine x_il_n X hl 2 rfl rfl dL_act_287 ?_
      refine x_iconst X dL_act_288 ?_
      refine x_ishr X dL_act_289 ?_
      have hsh289 := sh_rg v 4
      refine x_bipush X (by decide) dL_act_290 ?_
      refine x_callS (As := [.int (iI (sh v 4)), .int (iI 6)]) (rest := [.ref x]) (c1 := 0) (s1 := 0) X w hA (c_L_low l D cs L f0 (sh v 4) 6 (by omega)) k_L_act_L_low (by decide) rfl hl rfl (Nat.le_of_ble_eq_true rfl) (by decide) rfl rfl dL_act_292 (fun v L1 f1 H locs w hp => ?_)
      obtain ⟨rfl, rfl, hp⟩ := hp
      subst hp
      have hlw292 := lw_rg (sh v 4) (n := 6) (by omega)
      show W p l e _ s m _ below meth c _ _ _ _ _ (F0 m 295 ls [.int (iI (lw (sh v 4) 6)), .ref x])
      refine x_iconst X dL_act_295 ?_
      refine x_isub X dL_act_296 ?_
      refine x_goto (tgt := 307) X (by decide) dL_act_297 ?_
      refine x_callH1 (As := [.ref x, .int (iI ((lw (sh v 4) 6) - 1))]) (rest := []) (c1 := 1) (s1 := 6) X w hA hV hZ (c_L_walk l D cs hl9 L f0 x br ba pr sz lr σ ((lw (sh v 4) 6) - 1) hC hI (by omega)) k_L_act_L_walk (by decide) rfl hl rfl (Nat.le_of_ble_eq_true rfl) (by decide) rfl rfl dL_act_307 (fun v L1 f1 H locs w hp => ?_)
      obtain ⟨rfl, hC⟩ := hp
      show W p l e _ s m _ below meth c _ _ _ _ _ (F0 m 310 ls [.int (iI (tv (oWal ((lw (sh v 4) 6) - 1) σ)))])
      refine vx_ret ?_
      refine x_iret X w hr hlk ⟨by decide, by decide⟩ dL_act_310 ?_
      have hod : oD v = 1 := if_pos (by omega)
      have ha : aAct v σ = oWal ((lw (sh v 4) 6) - 1) σ := by
        unfold aAct; rw [hod]; unfold aDo
        rw [if_neg (by omega), if_neg (by omega), if_neg (by omega), if_neg (by omega), if_neg (by omega), if_neg (by omega), if_neg (by omega), if_pos (by omega)]
        first | done | rfl
      rw [ha]
      exact ⟨rfl, hC⟩
    · refine lv_tableOut (tgt := 311) X.1.1 X.1.2.1 dL_act_24 (Or.inr (by rw [iI_toInt (by omega)]; exact hgt)) (by decide) ?_
      refine x_al_n X hl 1 rfl rfl dL_act_311 ?_
      refine x_il_n X hl 0 rfl rfl dL_act_312 ?_
      refine x_ifF_eq (tgt := 330) X (by decide) (by decide) (by decide) dL_act_313 ?_
      refine x_il_n X hl 2 rfl rfl dL_act_316 ?_
      refine x_iconst X dL_act_317 ?_
      refine x_ishr X dL_act_318 ?_
      have hsh318 := sh_rg v 4
      refine x_sipush X (by decide) dL_act_319 ?_
      refine x_callS (As := [.int (iI (sh v 4)), .int (iI 1004)]) (rest := [.ref x]) (c1 := 0) (s1 := 0) X w hA (c_L_low l D cs L f0 (sh v 4) 1004 (by omega)) k_L_act_L_low (by decide) rfl hl rfl (Nat.le_of_ble_eq_true rfl) (by decide) rfl rfl dL_act_322 (fun v L1 f1 H locs w hp => ?_)
      obtain ⟨rfl, rfl, hp⟩ := hp
      subst hp
      have hlw322 := lw_rg (sh v 4) (n := 1004) (by omega)
      show W p l e _ s m _ below meth c _ _ _ _ _ (F0 m 325 ls [.int (iI (lw (sh v 4) 1004)), .ref x])
      refine x_iconst X dL_act_325 ?_
      refine x_isub X dL_act_326 ?_
      refine x_goto (tgt := 338) X (by decide) dL_act_327 ?_
      refine x_il_n X hl 0 rfl rfl dL_act_338 ?_
      refine x_ifF_eq (tgt := 357) X (by decide) (by decide) (by decide) dL_act_339 ?_
      refine x_il_n X hl 2 rfl rfl dL_act_342 ?_
      refine x_bipush X (by decide) dL_act_343 ?_
      refine x_ishr X dL_act_345 ?_
      have hsh345 := sh_rg v 7
      refine x_sipush X (by decide) dL_act_346 ?_
      refine x_callS (As := [.int (iI (sh v 7)), .int (iI 10004)]) (rest := [.int (iI ((lw (sh v 4) 1004) - 2)), .ref x]) (c1 := 0) (s1 := 0) X w hA (c_L_low l D cs L f0 (sh v 7) 10004 (by omega)) k_L_act_L_low (by decide) rfl hl rfl (Nat.le_of_ble_eq_true rfl) (by decide) rfl rfl dL_act_349 (fun v L1 f1 H locs w hp => ?_)
      obtain ⟨rfl, rfl, hp⟩ := hp
      subst hp
      have hlw349 := lw_rg (sh v 7) (n := 10004) (by omega)
      show W p l e _ s m _ below meth c _ _ _ _ _ (F0 m 352 ls [.int (iI (lw (sh v 7) 10004)), .int (iI ((lw (sh v 4) 1004) - 2)), .ref x])
      refine x_iconst X dL_act_352 ?_
      refine x_isub X dL_act_353 ?_
      refine x_goto (tgt := 368) X (by decide) dL_act_354 ?_
      refine x_il_n X hl 0 rfl rfl dL_act_368 ?_
      refine x_ifF_eq (tgt := 385) X (by decide) (by decide) (by decide) dL_act_369 ?_
      refine x_il_n X hl 2 rfl rfl dL_act_372 ?_
      refine x_iconst X dL_act_373 ?_
      refine x_ishr X dL_act_374 ?_
      have hsh374 := sh_rg v 4
      refine x_bipush X (by decide) dL_act_375 ?_
      refine x_callS (As := [.int (iI (sh v 4)), .int (iI 12)]) (rest := [.int (iI ((lw (sh v 7) 10004) - 1)), .int (iI ((lw (sh v 4) 1004) - 2)), .ref x]) (c1 := 0) (s1 := 0) X w hA (c_L_low l D cs L f0 (sh v 4) 12 (by omega)) k_L_act_L_low (by decide) rfl hl rfl (Nat.le_of_ble_eq_true rfl) (by decide) rfl rfl dL_act_377 (fun v L1 f1 H locs w hp => ?_)
      obtain ⟨rfl, rfl, hp⟩ := hp
      subst hp
      have hlw377 := lw_rg (sh v 4) (n := 12) (by omega)
      show W p l e _ s m _ below meth c _ _ _ _ _ (F0 m 380 ls [.int (iI (lw (sh v 4) 12)), .int (iI ((lw (sh v 7) 10004) - 1)), .int (iI ((lw (sh v 4) 1004) - 2)), .ref x])
      refine x_iconst X dL_act_380 ?_
      refine x_isub X dL_act_381 ?_
      refine x_goto (tgt := 394) X (by decide) dL_act_382 ?_
      refine x_callH1 (As := [.ref x, .int (iI ((lw (sh v 4) 1004) - 2)), .int (iI ((lw (sh v 7) 10004) - 1)), .int (iI ((lw (sh v 4) 12) - 1))]) (rest := []) (c1 := 2) (s1 := 12) X w hA hV hZ (c_L_put l D cs hl9 L f0 x br ba pr sz lr σ ((lw (sh v 4) 1004) - 2) ((lw (sh v 7) 10004) - 1) ((lw (sh v 4) 12) - 1) hC hI ⟨(by omega), (by omega), (by omega)⟩) k_L_act_L_put (by decide) rfl hl rfl (Nat.le_of_ble_eq_true rfl) (by decide) rfl rfl dL_act_394 (fun v L1 f1 H locs w hp => ?_)
      obtain ⟨rfl, hC⟩ := hp
      show W p l e _ s m _ below meth c _ _ _ _ _ (F0 m 397 ls [.int (iI (tv (oPut ((lw (sh v 4) 1004) - 2) ((lw (sh v 7) 10004) - 1) ((lw (sh v 4) 12) - 1) σ)))])
      refine vx_ret ?_
      refine x_iret X w hr hlk ⟨by decide, by decide⟩ dL_act_397 ?_
      have hod : oD v = 1 := if_pos (by omega)
      have ha : aAct v σ = oPut ((lw (sh v 4) 1004) - 2) ((lw (sh v 7) 10004) - 1) ((lw (sh v 4) 12) - 1) σ := by
        unfold aAct; rw [hod]; unfold aDo
        rw [if_neg (by omega), if_neg (by omega), if_neg (by omega), if_neg (by omega), if_neg (by omega), if_neg (by omega), if_neg (by omega), if_neg (by omega)]
        first | done | rfl
      rw [ha]
      exact ⟨rfl, hC⟩
