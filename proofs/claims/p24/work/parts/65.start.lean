/-! THE CLAIM OUT OF ONE WALK OF THE LAW'S BODY. Your part is whole_start (and what it stands on); all else here is the same for every law, but numbers. -/
def R_law : String := "PageBailLaw"
def lw_P (b : Addr) (xs : List Int32) (args : Array Value) (s : State) : Prop := args = #[.ref b] ∧ s.IntsAt b xs ∧ xs.length ≤ 260 ∧ (Jvm.Cond.and given_1 narrow_1).before args s = true
def lw_Q (_ : Array Value) (s : State) (o : Outcome) (t : State) : Prop := o = .returned (some (.int 1)) ∧ Framed s o t [] 721309 6937540
def lw_Z (below : List Frame) (a : Array Value) (s : State) : State → Prop := fun t => ∃ o, t.status = .running ∧ Ended t below o ∧ lw_Q a s o t
/-- the law's own end, with 1 on the stack, nothing written that was there before, its room as the claim has it -/
theorem lw_ret {p : Program} {l : Launch} {e : Env} {s : State} {m : MethodId} {below : List Frame} {meth : Method} {c : Code} {b : Nat} (hx : p.tables.exec = Jvm.exec) (hb : c.code = code) (hr : meth.sig.returnType = ret) (hlocks : meth.locks = false) {pc : Nat} {H : Heap} {ls : Array Slot} (hdg : decode code pc = .ok (.ireturn, 1)) : W p l e room_1 s m #[Value.ref b] below meth c H [] 721309 6937540 (lw_Z below #[Value.ref b] s) (F0 m pc ls [.int 1]) := by
  intro T hT X
  obtain ⟨fs, hret, hrun, hended, hW, hframe⟩ := X.leave (v := some (.int 1)) (hlocks := hlocks) (fun h => by rw [hr] at h; cases h)
  have hmeth' : T.vm.method? m = some meth := X.method'
  refine ⟨T.setFrames fs, ?_, .returned (some (.int 1)), hrun, hended, rfl, ⟨_, rfl⟩, hW, hframe⟩
  jvm_step X.here [X.here.top, hx, hb, hdg, hmeth', hr, ret, narrow_b1]
  (try refine ⟨rfl, ?_⟩); (try refine ⟨rfl, ?_⟩)
  first | (intro acts; rw [hret _ acts rfl rfl rfl]) | rw [hret _ _ rfl rfl rfl]
  exact Steps.refl _
/-- what holds at the law's entry: the machine, the code, the tables' words (any of lw_tbl by 'hts w (by decide +kernel)'), the script of L ints xs at the cell b, what the Statement gives of the start (any of its parts by flat_of_before) -/
def lw_At (p : Program) (s : State) (m : MethodId) (meth : Method) (c : Code) (b L : Nat) (xs : Nat → Int32) : Prop :=
  p.tables.exec = Jvm.exec ∧ c.code = code ∧ meth.sig.returnType = ret ∧ c.maxLocals = 8 ∧ s.vm.findClass R_law = some m.cls ∧ (∀ w ∈ lw_tbl, w.before #[Value.ref b] s = true) ∧ va_X b L xs s s.heap ∧ b < s.heap.size ∧ meth.locks = false ∧ (Jvm.Cond.and given_1 narrow_1).before #[Value.ref b] s = true

section LLAW
variable {p : Program} {l : Launch} {e : Env} {s : State} {m : MethodId} {below : List Frame} {meth : Method} {c : Code} {H : Heap} {locs : List Loc} {cells slots : Nat} {ls : Array Slot}
variable {D : va_G} {cs : ClassId × ClassId × ClassId} {A : Nat → Prop} {L Lo Lp : List Nat} {f0 : Nat → va_E} {b LL : Nat} {xs : Nat → Int32} {x br ba pr sz lr y yb yc yd ye yf : Nat} {σ τ : Sg} {fi pt bv e9 v : Int}

theorem k_L_law_X3_sweeping : XV wsL_law RL 99 RX3 yX3_sweeping cX3_sweeping 1 (some .int) wsX3_sweeping 0 := ⟨gL_law_X3_sweeping, ⟨_, rfl⟩, rfl, by decide, by decide, by decide +kernel⟩
theorem k_L_law_X3_pages : XV wsL_law RL 46 RX3 yX3_pages cX3_pages 1 (some .int) wsX3_pages 0 := ⟨gL_law_X3_pages, ⟨_, rfl⟩, rfl, by decide, by decide, by decide +kernel⟩
theorem k_L_law_X3_records : XV wsL_law RL 90 RX3 yX3_records cX3_records 1 (some .int) wsX3_records 0 := ⟨gL_law_X3_records, ⟨_, rfl⟩, rfl, by decide, by decide, by decide +kernel⟩
theorem k_L_law_L_arePagesSo : XS wsL_law RL 123 yL_arePagesSo cL_arePagesSo 9 (some .boolean) wsL_arePagesSo 1 := ⟨gL_law_L_arePagesSo, ⟨_, rfl⟩, by decide, by decide, by decide +kernel⟩
theorem k_L_law_X3_size : XV wsL_law RL 55 RX3 yX3_size cX3_size 2 (some .int) wsX3_size 1 := ⟨gL_law_X3_size, ⟨_, rfl⟩, rfl, by decide, by decide, by decide +kernel⟩
theorem k_L_law_X3_step : XV wsL_law RL 40 RX3 yX3_step cX3_step 4 (some .int) wsX3_step 1 := ⟨gL_law_X3_step, ⟨_, rfl⟩, rfl, by decide, by decide, by decide +kernel⟩
set_option maxHeartbeats 4000000 in
set_option maxRecDepth 100000 in
theorem law_end2 (X : XX p m c cL_law 8 s #[Value.ref b] wsL_law RL D cs) (hr : meth.sig.returnType = ret) (hlk : meth.locks = false) (hA : ∀ q, s.heap.size ≤ q → A q) (hAA : ∀ q, A q → s.heap.size ≤ q) (hC : CC cs L f0 x br ba pr sz lr σ) (hI : Inv σ) (hSW : SW fi σ) (hfi : 0 ≤ fi ∧ fi ≤ 80) (hpt : gN σ ≤ pt ∧ pt ≤ 1000) (w : XW D A s.heap L f0 H locs) (hcs : cells ≤ 20000 ∧ slots ≤ 200000) (hl : lv_has ls 8 [(1, .ref x), (3, .int (iI pt)), (6, .int (iI fi))]) : W p l e room_1 s m #[Value.ref b] below meth c H locs cells slots (lw_Z below #[Value.ref b] s) (F0 m 183 ls []) := by
  have loop183 : ∀ (N9 : Nat) (τ : Sg) (L5 : List Nat) (f5 : Nat → va_E) (H : Heap) (locs : List Loc) (ls : Array Slot), msr τ < N9 → (Inv τ) → (SW fi τ) → (gN τ = gN σ) → (CC cs L5 f5 x br ba pr sz lr τ) → XW D A s.heap L5 f5 H locs → lv_has ls 8 [(1, .ref x), (3, .int (iI pt)), (6, .int (iI fi))] → W p l e room_1 s m ([.ref b] : List Value).toArray below meth c H locs cells slots (lw_Z below #[Value.ref b] s) (F0 m 183 ls []) := by
    intro N9
    induction N9 with
    | zero => intro τ L5 f5 H locs ls h9; exact absurd h9 (Nat.not_lt_zero _)
    | succ N9 ih183 =>
      intro τ L5 f5 H locs ls h9 hI5 hS5 hN5 hC w hl
      have hk := hI5.k; have hs := hI5.s; have hn := hI5.n
      refine x_al_n X hl 0 rfl rfl dL_law_183 ?_
      refine x_callV (As := []) (rest := []) (c1 := cells) (s1 := slots) X w hA (c_X3_sweeping l D cs L5 f5 x br ba pr sz lr τ hC) k_L_law_X3_sweeping (by decide) hC.mx hC.fx rfl rfl rfl hl rfl (Nat.le_of_ble_eq_true rfl) ⟨by show cells + 0 ≤ 721309; omega, by show slots + 0 ≤ 6937540; omega⟩ rfl rfl dL_law_184 (fun v L1 f1 H locs w hp => ?_)
      obtain ⟨rfl, rfl, hp⟩ := hp
      subst hp
      show W p l e _ s m _ below meth c _ _ _ _ _ (F0 m 187 ls [.int (iI (gS τ))])
      refine x_if_lt (tgt := 201) X (by omega) (by decide) dL_law_187 (fun hb187 => ?_) (fun hb187 => ?_)
      · have hz9 := hS5.1 (by omega)
        refine x_il X hl 2 rfl dL_law_201 ?_
        refine x_is (lv' := [(7, .int (iI fi)), (1, .ref x), (3, .int (iI pt)), (6, .int (iI fi))]) X hl (by decide) rfl dL_law_203 (fun ls hl => ?_)
        have loop205 : ∀ (N9 : Nat) (pg : Int) (H : Heap) (locs : List Loc) (ls : Array Slot), (gK τ - pg).toNat < N9 → (fi ≤ pg ∧ pg ≤ 100) → XW D A s.heap L5 f5 H locs → lv_has ls 8 [(1, .ref x), (3, .int (iI pt)), (7, .int (iI pg))] → W p l e room_1 s m ([.ref b] : List Value).toArray below meth c H locs cells slots (lw_Z below #[Value.ref b] s) (F0 m 205 ls []) := by
          intro N9
          induction N9 with
          | zero => intro pg H locs ls h9; exact absurd h9 (Nat.not_lt_zero _)
          | succ N9 ih205 =>
            intro pg H locs ls h9 hpg w hl
            refine x_il X hl 2 rfl dL_law_205 ?_
            refine x_iconst X dL_law_207 ?_
            refine x_iadd X dL_law_208 ?_
            refine x_al_n X hl 0 rfl rfl dL_law_209 ?_
            refine x_callV (As := []) (rest := [.int (iI (pg + 1))]) (c1 := cells) (s1 := slots) X w hA (c_X3_pages l D cs L5 f5 x br ba pr sz lr τ hC) k_L_law_X3_pages (by decide) hC.mx hC.fx rfl rfl rfl hl rfl (Nat.le_of_ble_eq_true rfl) ⟨by show cells + 0 ≤ 721309; omega, by show slots + 0 ≤ 6937540; omega⟩ rfl rfl dL_law_210 (fun v L1 f1 H locs w hp => ?_)
            obtain ⟨rfl, rfl, hp⟩ := hp
            subst hp
            show W p l e _ s m _ below meth c _ _ _ _ _ (F0 m 213 ls [.int (iI (gK τ)), .int (iI (pg + 1))])
            refine x_icmp_ge (tgt := 234) X (by omega) (by decide) dL_law_213 (fun hb213 => ?_) (fun hb213 => ?_)
            · refine x_il_n X hl 1 rfl rfl dL_law_234 ?_
              refine x_al_n X hl 0 rfl rfl dL_law_235 ?_
              refine x_callV (As := []) (rest := [.int (iI pt)]) (c1 := cells) (s1 := slots) X w hA (c_X3_records l D cs L5 f5 x br ba pr sz lr τ hC) k_L_law_X3_records (by decide) hC.mx hC.fx rfl rfl rfl hl rfl (Nat.le_of_ble_eq_true rfl) ⟨by show cells + 0 ≤ 721309; omega, by show slots + 0 ≤ 6937540; omega⟩ rfl rfl dL_law_236 (fun v L1 f1 H locs w hp => ?_)
              obtain ⟨rfl, rfl, hp⟩ := hp
              subst hp
              show W p l e _ s m _ below meth c _ _ _ _ _ (F0 m 239 ls [.int (iI (gN τ)), .int (iI pt)])
              refine x_icmpF_lt (tgt := 253) X (by omega) (by omega) (by decide) dL_law_239 ?_
              refine x_al_n X hl 0 rfl rfl dL_law_242 ?_
              refine x_callS (As := [.ref x]) (rest := []) (c1 := cells) (s1 := slots) X w hA (c_L_arePagesSo l D cs L5 f5 x br ba pr sz lr τ hC hI5) k_L_law_L_arePagesSo (by decide) rfl hl rfl (Nat.le_of_ble_eq_true rfl) ⟨by show cells + 0 ≤ 721309; omega, by show slots + 0 ≤ 6937540; omega⟩ rfl rfl dL_law_243 (fun v L1 f1 H locs w hp => ?_)
              obtain ⟨rfl, rfl, rfl⟩ := hp
              show W p l e _ s m _ below meth c _ _ _ _ _ (F0 m 246 ls [.int (iI 1)])
              refine x_ifF_eq (tgt := 253) X (by decide) (by decide) (by decide) dL_law_246 ?_
              refine x_iconst X dL_law_249 ?_
              refine x_goto (tgt := 254) X (by decide) dL_law_250 ?_
              refine va_forget (fun q hq => hAA _ (w.2.2.2.2 q hq)) ?_
              refine W.widen (k := 721309) (n := 6937540) (by omega) (by omega) ?_
              rw [show iI 1 = 1 by decide]
              exact lw_ret X.1.1 X.1.2.1 hr hlk dL_law_254
            · refine x_al_n X hl 0 rfl rfl dL_law_216 ?_
              refine x_il X hl 2 rfl dL_law_217 ?_
              refine x_callV (As := [.int (iI pg)]) (rest := []) (c1 := cells) (s1 := slots) X w hA (c_X3_size0 l D cs L5 f5 x br ba pr sz lr τ pg hC hI5 (by omega) (by omega)) k_L_law_X3_size (by decide) hC.mx hC.fx rfl rfl rfl hl rfl (Nat.le_of_ble_eq_true rfl) ⟨by show cells + 0 ≤ 721309; omega, by show slots + 0 ≤ 6937540; omega⟩ rfl rfl dL_law_219 (fun v L1 f1 H locs w hp => ?_)
              obtain ⟨rfl, rfl, hp⟩ := hp
              subst hp
              show W p l e _ s m _ below meth c _ _ _ _ _ (F0 m 222 ls [.int (iI (gZ τ pg))])
              rw [show gZ τ pg = 4 from hz9 pg hpg.1 (by omega)]
              refine x_iconst X dL_law_222 ?_
              refine x_icmpT_eq (tgt := 228) X (by decide) (by decide) (by decide) dL_law_223 ?_
              refine x_iinc (lv' := [(7, .int (iI (pg + 1))), (1, .ref x), (3, .int (iI pt))]) X hl 2 rfl (by decide) rfl dL_law_228 (fun ls hl => ?_)
              refine x_goto (tgt := 205) X (by decide) dL_law_231 ?_
              refine ih205 (pg + 1) _ _ _ (by omega) (by omega) w (lv_sub hl [1, 2, 0] rfl)
        refine loop205 _ fi _ _ _ (Nat.lt_succ_self _) (by omega) w (lv_sub hl [1, 2, 0] rfl)
      · refine x_al_n X hl 0 rfl rfl dL_law_190 ?_
        refine x_bipush X (by decide) dL_law_191 ?_
        refine x_callV (As := [.int (iI 10)]) (rest := []) (c1 := cells) (s1 := slots) X w hA (c_X3_step0 l D cs L5 f5 x br ba pr sz lr τ 10 hC hI5 (by omega) (by omega) (by omega)) k_L_law_X3_step (by decide) hC.mx hC.fx rfl rfl rfl hl rfl (Nat.le_of_ble_eq_true rfl) ⟨by show cells + 0 ≤ 721309; omega, by show slots + 0 ≤ 6937540; omega⟩ rfl rfl dL_law_193 (fun v L1 f1 H locs w hp => ?_)
        obtain ⟨h7, hv, hC2⟩ := hp
        subst h7
        subst hv
        show W p l e _ s m _ below meth c _ _ _ _ _ (F0 m 196 ls [.int (iI ((oSteps (10 : Int).toNat τ).1))])
        refine x_is (lv' := [(7, .int (iI ((oSteps (10 : Int).toNat τ).1))), (1, .ref x), (3, .int (iI pt)), (6, .int (iI fi))]) X hl (by decide) rfl dL_law_196 (fun ls hl => ?_)
        refine x_goto (tgt := 183) X (by decide) dL_law_198 ?_
        refine ih183 ((oSteps (10 : Int).toNat τ).2) L5 f1 _ _ _ ((by have h8 : msr (oSteps (10 : Int).toNat τ).2 < msr τ := (sw_st1 hfi.1 9 hI5 hS5 (by omega)).2; omega)) (hI5.steps _) ((sw_st1 hfi.1 9 hI5 hS5 (by omega)).1) ((steps_b _).2.trans hN5) hC2 w (lv_sub hl [1, 2, 3] rfl)
  refine loop183 _ σ L f0 _ _ _ (Nat.lt_succ_self _) hI hSW rfl hC w (lv_sub hl [0, 1, 2] rfl)

theorem k_L_law_L_sweep : XH wsL_law RL 80 yL_sweep cL_sweep 2 (some .int) [(0, 5, 6, 17)] wsL_sweep 1 := ⟨gL_law_L_sweep, ⟨_, rfl⟩, by decide, by decide, by decide +kernel⟩
set_option maxHeartbeats 4000000 in
set_option maxRecDepth 100000 in
theorem law_end (X : XX p m c cL_law 8 s #[Value.ref b] wsL_law RL D cs) (hr : meth.sig.returnType = ret) (hlk : meth.locks = false) (hl9 : l.stackTraces = false) (hV : EV s) (hZ : EZ A s s.heap) (hA : ∀ q, s.heap.size ≤ q → A q) (hAA : ∀ q, A q → s.heap.size ≤ q) (hC : CC cs L f0 x br ba pr sz lr σ) (hI : Inv σ) (hpt : gN σ ≤ pt ∧ pt ≤ 1000) (w : XW D A s.heap L f0 H locs) (hcs : cells ≤ 19000 ∧ slots ≤ 190000) (hl : lv_has ls 8 [(1, .ref x), (3, .int (iI pt))]) : W p l e room_1 s m #[Value.ref b] below meth c H locs cells slots (lw_Z below #[Value.ref b] s) (F0 m 156 ls []) := by
  have hs := hI.s
  refine x_al_n X hl 0 rfl rfl dL_law_156 ?_
  refine x_callV (As := []) (rest := []) (c1 := cells) (s1 := slots) X w hA (c_X3_sweeping l D cs L f0 x br ba pr sz lr σ hC) k_L_law_X3_sweeping (by decide) hC.mx hC.fx rfl rfl rfl hl rfl (Nat.le_of_ble_eq_true rfl) ⟨by show cells + 0 ≤ 721309; omega, by show slots + 0 ≤ 6937540; omega⟩ rfl rfl dL_law_157 (fun v L1 f1 H locs w hp => ?_)
  obtain ⟨rfl, rfl, hp⟩ := hp
  subst hp
  show W p l e _ s m _ below meth c _ _ _ _ _ (F0 m 160 ls [.int (iI (gS σ))])
  refine x_is (lv' := [(4, .int (iI (gS σ))), (1, .ref x), (3, .int (iI pt))]) X hl (by decide) rfl dL_law_160 (fun ls hl => ?_)
  refine x_il X hl 0 rfl dL_law_162 ?_
  refine x_if_ge (tgt := 174) X (by omega) (by decide) dL_law_164 (fun hb164 => ?_) (fun hb164 => ?_)
  · refine x_iconst X dL_law_174 ?_
    refine x_is (lv' := [(5, .int (iI 0)), (4, .int (iI (gS σ))), (1, .ref x), (3, .int (iI pt))]) X hl (by decide) rfl dL_law_175 (fun ls hl => ?_)
    refine x_al_n X hl 2 rfl rfl dL_law_177 ?_
    refine x_callV (As := []) (rest := []) (c1 := cells) (s1 := slots) X w hA (c_X3_sweeping l D cs L f0 x br ba pr sz lr σ hC) k_L_law_X3_sweeping (by decide) hC.mx hC.fx rfl rfl rfl hl rfl (Nat.le_of_ble_eq_true rfl) ⟨by show cells + 0 ≤ 721309; omega, by show slots + 0 ≤ 6937540; omega⟩ rfl rfl dL_law_178 (fun v L1 f1 H locs w hp => ?_)
    obtain ⟨rfl, rfl, hp⟩ := hp
    subst hp
    show W p l e _ s m _ below meth c _ _ _ _ _ (F0 m 181 ls [.int (iI (gS σ))])
    refine x_is (lv' := [(6, .int (iI (gS σ))), (5, .int (iI 0)), (4, .int (iI (gS σ))), (1, .ref x), (3, .int (iI pt))]) X hl (by decide) rfl dL_law_181 (fun ls hl => ?_)
    exact law_end2 (σ := σ) (fi := gS σ) (pt := pt) X hr hlk hA hAA hC hI ⟨fun h9 => absurd h9 (by omega), fun _ => ⟨Int.le_refl _, fun j a b _ => absurd b (by omega)⟩⟩ (by omega) hpt w (by omega) (lv_sub hl [3, 4, 0] rfl)
  · refine x_al_n X hl 1 rfl rfl dL_law_167 ?_
    refine x_callH1 (As := [.ref x]) (rest := []) (c1 := cells + 1) (s1 := slots + 6) X w hA hV hZ (c_L_sweep l D cs hl9 L f0 x br ba pr sz lr σ hC hI) k_L_law_L_sweep (by decide) rfl hl rfl (Nat.le_of_ble_eq_true rfl) ⟨by show cells + 1 ≤ 721309; omega, by show slots + 6 ≤ 6937540; omega⟩ rfl rfl dL_law_168 (fun v L1 f1 H locs w hp => ?_)
    obtain ⟨rfl, hC⟩ := hp
    show W p l e _ s m _ below meth c _ _ _ _ _ (F0 m 171 ls [.int (iI (tv (oSwe σ)))])
    have hsw : (oSwe σ).2.2 = oSetS 0 σ := by unfold oSwe; rw [if_pos (by omega)]
    rw [hsw] at hC
    refine x_goto (tgt := 175) X (by decide) dL_law_171 ?_
    refine x_is (lv' := [(5, .int (iI (tv (oSwe σ)))), (4, .int (iI (gS σ))), (1, .ref x), (3, .int (iI pt))]) X hl (by decide) rfl dL_law_175 (fun ls hl => ?_)
    refine x_al_n X hl 2 rfl rfl dL_law_177 ?_
    refine x_callV (As := []) (rest := []) (c1 := cells + 1) (s1 := slots + 6) X w hA (c_X3_sweeping l D cs L1 f1 x br ba pr sz lr (oSetS 0 σ) hC) k_L_law_X3_sweeping (by decide) hC.mx hC.fx rfl rfl rfl hl rfl (Nat.le_of_ble_eq_true rfl) ⟨by show cells + 1 + 0 ≤ 721309; omega, by show slots + 6 + 0 ≤ 6937540; omega⟩ rfl rfl dL_law_178 (fun v L1 f1 H locs w hp => ?_)
    obtain ⟨rfl, rfl, hp⟩ := hp
    subst hp
    show W p l e _ s m _ below meth c _ _ _ _ _ (F0 m 181 ls [.int (iI (gS (oSetS 0 σ)))])
    rw [show gS (oSetS 0 σ) = 0 from rfl]
    refine x_is (lv' := [(6, .int (iI 0)), (5, .int (iI (tv (oSwe σ)))), (4, .int (iI (gS σ))), (1, .ref x), (3, .int (iI pt))]) X hl (by decide) rfl dL_law_181 (fun ls hl => ?_)
    exact law_end2 (σ := oSetS 0 σ) (fi := 0) (pt := pt) X hr hlk hA hAA hC (hI.setS (by omega)) ⟨fun h9 => absurd h9 (by show ¬ (0 : Int) = -1; decide), fun _ => ⟨Int.le_refl _, fun j a b _ => absurd b (by show ¬ j < 0; omega)⟩⟩ (by omega) hpt w (by omega) (lv_sub hl [3, 4, 0] rfl)

theorem k_L_law_L_areAlike : XS wsL_law RL 119 yL_areAlike cL_areAlike 4 (some .boolean) wsL_areAlike 2 := ⟨gL_law_L_areAlike, ⟨_, rfl⟩, by decide, by decide, by decide +kernel⟩
theorem k_L_law_L_low : XS wsL_law RL 50 yL_low cL_low 2 (some .int) wsL_low 2 := ⟨gL_law_L_low, ⟨_, rfl⟩, by decide, by decide, by decide +kernel⟩
theorem k_L_law_L_isWalked : XS wsL_law RL 127 yL_isWalked cL_isWalked 7 (some .boolean) wsL_isWalked 3 := ⟨gL_law_L_isWalked, ⟨_, rfl⟩, by decide, by decide, by decide +kernel⟩
set_option maxHeartbeats 4000000 in
set_option maxRecDepth 100000 in
theorem law_tail (X : XX p m c cL_law 8 s #[Value.ref b] wsL_law RL D cs) (hA : ∀ q, s.heap.size ≤ q → A q) (hC : CC cs Lo f0 x br ba pr sz lr τ) (hD : CC cs Lp f0 y yb yc yd ye yf τ) (hI : Inv τ) (hgb : gN τ ≤ bv + 1) (hpt : 0 ≤ bv ∧ bv ≤ pt ∧ pt ≤ 200) (he : 0 ≤ e9 ∧ e9 < 110) (hv : -2147483648 ≤ v ∧ v < 2147483648) (hcs : cells ≤ 19000 ∧ slots ≤ 190000) (w : XW D A s.heap (Lo ++ Lp) f0 H locs) (hl : lv_has ls 8 [(0, .ref b), (1, .ref x), (2, .ref y), (3, .int (iI pt)), (4, .int (iI e9)), (5, .int (iI v)), (6, .int (iI bv))])
  (K : ∀ (τ2 : Sg) (L2 L3 : List Nat) (f2 : Nat → va_E) (H2 : Heap) (locs2 : List Loc) (ls2 : Array Slot) (pt2 : Int), CC cs L2 f2 x br ba pr sz lr τ2 → CC cs L3 f2 y yb yc yd ye yf τ2 → Inv τ2 → (gN τ2 ≤ pt2 ∧ pt2 ≤ pt + 1) → XW D A s.heap (L2 ++ L3) f2 H2 locs2 → lv_has ls2 8 [(4, .int (iI e9)), (3, .int (iI pt2)), (2, .ref y), (1, .ref x), (0, .ref b)] → W p l e room_1 s m #[Value.ref b] below meth c H2 locs2 cells slots (lw_Z below #[Value.ref b] s) (F0 m 150 ls2 [])) :
  W p l e room_1 s m #[Value.ref b] below meth c H locs cells slots (lw_Z below #[Value.ref b] s) (F0 m 68 ls []) := by
  have hk := hI.k; have hn := hI.n
  refine x_al_n X hl 1 rfl rfl dL_law_68 ?_
  refine x_al_n X hl 2 rfl rfl dL_law_69 ?_
  refine x_callS (As := [.ref x, .ref y]) (rest := []) (c1 := cells) (s1 := slots) X w hA (c_L_areAlike l D cs Lo Lp f0 x br ba pr sz lr y yb yc yd ye yf τ hC hD hI) k_L_law_L_areAlike (by decide) rfl hl rfl (Nat.le_of_ble_eq_true rfl) ⟨by show cells + 0 ≤ 721309; omega, by show slots + 0 ≤ 6937540; omega⟩ rfl rfl dL_law_70 (fun v L1 f1 H locs w hp => ?_)
  obtain ⟨rfl, rfl, rfl⟩ := hp
  show W p l e _ s m _ below meth c _ _ _ _ _ (F0 m 73 ls [.int (iI 1)])
  refine x_ifF_eq (tgt := 87) X (by decide) (by decide) (by decide) dL_law_73 ?_
  refine x_al_n X hl 1 rfl rfl dL_law_76 ?_
  refine x_callV (As := []) (rest := []) (c1 := cells) (s1 := slots) X w hA (c_X3_records l D cs (Lo ++ Lp) f0 x br ba pr sz lr τ (CX.inL hC Lp)) k_L_law_X3_records (by decide) (CX.inL hC Lp).mx (CX.inL hC Lp).fx rfl rfl rfl hl rfl (Nat.le_of_ble_eq_true rfl) ⟨by show cells + 0 ≤ 721309; omega, by show slots + 0 ≤ 6937540; omega⟩ rfl rfl dL_law_77 (fun v L1 f1 H locs w hp => ?_)
  obtain ⟨rfl, rfl, hp⟩ := hp
  subst hp
  show W p l e _ s m _ below meth c _ _ _ _ _ (F0 m 80 ls [.int (iI (gN τ))])
  refine x_il X hl 6 rfl dL_law_80 ?_
  refine x_iconst X dL_law_82 ?_
  refine x_iadd X dL_law_83 ?_
  refine x_icmpT_le (tgt := 89) X (by omega) (by omega) (by decide) dL_law_84 ?_
  refine x_il_n X hl 3 rfl rfl dL_law_89 ?_
  refine x_al_n X hl 1 rfl rfl dL_law_90 ?_
  refine x_callV (As := []) (rest := [.int (iI pt)]) (c1 := cells) (s1 := slots) X w hA (c_X3_records l D cs (Lo ++ Lp) f0 x br ba pr sz lr τ (CX.inL hC Lp)) k_L_law_X3_records (by decide) (CX.inL hC Lp).mx (CX.inL hC Lp).fx rfl rfl rfl hl rfl (Nat.le_of_ble_eq_true rfl) ⟨by show cells + 0 ≤ 721309; omega, by show slots + 0 ≤ 6937540; omega⟩ rfl rfl dL_law_91 (fun v L1 f1 H locs w hp => ?_)
  obtain ⟨rfl, rfl, hp⟩ := hp
  subst hp
  show W p l e _ s m _ below meth c _ _ _ _ _ (F0 m 94 ls [.int (iI (gN τ)), .int (iI pt)])
  refine x_il X hl 6 rfl dL_law_94 ?_
  refine x_icmp_le (tgt := 103) X (by omega) (by decide) dL_law_96 (fun hb96 => ?_) (fun hb96 => ?_)
  · refine x_iconst X dL_law_103 ?_
    refine x_iadd X dL_law_104 ?_
    refine x_is_n (lv' := [(3, .int (iI (pt + 0))), (0, .ref b), (1, .ref x), (2, .ref y), (4, .int (iI e9)), (5, .int (iI v)), (6, .int (iI bv))]) X hl rfl (by decide) rfl dL_law_105 (fun ls hl => ?_)
    refine x_il X hl 4 rfl dL_law_106 ?_
    refine x_bipush X (by decide) dL_law_108 ?_
    refine x_irem X (by omega) dL_law_110 ?_
    have hre110 := re_rg e9 6
    refine x_iconst X dL_law_111 ?_
    refine x_icmp_ne (tgt := 122) X (by omega) (by decide) dL_law_112 (fun hb112 => ?_) (fun hb112 => ?_)
    · refine x_il X hl 4 rfl dL_law_122 ?_
      refine x_bipush X (by decide) dL_law_124 ?_
      refine x_irem X (by omega) dL_law_126 ?_
      have hre126 := re_rg e9 30
      refine x_bipush X (by decide) dL_law_127 ?_
      refine x_icmp_ne (tgt := 150) X (by omega) (by decide) dL_law_129 (fun hb129 => ?_) (fun hb129 => ?_)
      · exact K (τ) Lo Lp _ _ _ _ (pt + 0) hC hD hI ⟨show gN τ ≤ pt + 0 from by omega, by omega⟩ w (lv_sub hl [4, 0, 3, 2, 1] rfl)
      · refine x_al_n X hl 2 rfl rfl dL_law_132 ?_
        refine x_al_n X hl 3 rfl rfl dL_law_133 ?_
        refine x_il X hl 5 rfl dL_law_134 ?_
        refine x_iconst X dL_law_136 ?_
        refine x_ishr X dL_law_137 ?_
        have hsh137 := sh_rg v 5
        refine x_iconst X dL_law_138 ?_
        refine x_callS (As := [.int (iI (sh v 5)), .int (iI 4)]) (rest := [.ref y, .ref x]) (c1 := cells) (s1 := slots) X w hA (c_L_low l D cs (Lo ++ Lp) f0 (sh v 5) 4 (by omega)) k_L_law_L_low (by decide) rfl hl rfl (Nat.le_of_ble_eq_true rfl) ⟨by show cells + 0 ≤ 721309; omega, by show slots + 0 ≤ 6937540; omega⟩ rfl rfl dL_law_139 (fun v L1 f1 H locs w hp => ?_)
        obtain ⟨rfl, rfl, hp⟩ := hp
        subst hp
        have hlw139 := lw_rg (sh v 5) (n := 4) (by omega)
        show W p l e _ s m _ below meth c _ _ _ _ _ (F0 m 142 ls [.int (iI (lw (sh v 5) 4)), .ref y, .ref x])
        refine x_callS (As := [.ref x, .ref y, .int (iI (lw (sh v 5) 4))]) (rest := []) (c1 := cells) (s1 := slots) X w hA (c_L_isWalked l D cs Lo Lp f0 x br ba pr sz lr y yb yc yd ye yf τ (lw (sh v 5) 4) hC hD hI (by omega)) k_L_law_L_isWalked (by decide) rfl hl rfl (Nat.le_of_ble_eq_true rfl) ⟨by show cells + 0 ≤ 721309; omega, by show slots + 0 ≤ 6937540; omega⟩ rfl rfl dL_law_142 (fun v L1 f1 H locs w hp => ?_)
        obtain ⟨rfl, Lo, Lp, hL9, hC, hD⟩ := hp
        subst hL9
        show W p l e _ s m _ below meth c _ _ _ _ _ (F0 m 145 ls [.int (iI 1)])
        refine x_ifT_ne (tgt := 150) X (by decide) (by decide) (by decide) dL_law_145 ?_
        exact K (swk (lw (sh v 5) 4) (-1) τ) Lo Lp _ _ _ _ (pt + 0) hC hD (hI.swk (by omega)) ⟨show gN τ ≤ pt + 0 from by omega, by omega⟩ w (lv_sub hl [4, 0, 3, 2, 1] rfl)
    · refine x_al_n X hl 2 rfl rfl dL_law_115 ?_
      refine x_callS (As := [.ref x]) (rest := []) (c1 := cells) (s1 := slots) X w hA (c_L_arePagesSo l D cs (Lo ++ Lp) f0 x br ba pr sz lr τ (CX.inL hC Lp) hI) k_L_law_L_arePagesSo (by decide) rfl hl rfl (Nat.le_of_ble_eq_true rfl) ⟨by show cells + 0 ≤ 721309; omega, by show slots + 0 ≤ 6937540; omega⟩ rfl rfl dL_law_116 (fun v L1 f1 H locs w hp => ?_)
      obtain ⟨rfl, rfl, rfl⟩ := hp
      show W p l e _ s m _ below meth c _ _ _ _ _ (F0 m 119 ls [.int (iI 1)])
      refine x_ifF_eq (tgt := 148) X (by decide) (by decide) (by decide) dL_law_119 ?_
      refine x_il X hl 4 rfl dL_law_122 ?_
      refine x_bipush X (by decide) dL_law_124 ?_
      refine x_irem X (by omega) dL_law_126 ?_
      have hre126 := re_rg e9 30
      refine x_bipush X (by decide) dL_law_127 ?_
      refine x_icmp_ne (tgt := 150) X (by omega) (by decide) dL_law_129 (fun hb129 => ?_) (fun hb129 => ?_)
      · exact K (τ) Lo Lp _ _ _ _ (pt + 0) hC hD hI ⟨show gN τ ≤ pt + 0 from by omega, by omega⟩ w (lv_sub hl [4, 0, 3, 2, 1] rfl)
      · refine x_al_n X hl 2 rfl rfl dL_law_132 ?_
        refine x_al_n X hl 3 rfl rfl dL_law_133 ?_
        refine x_il X hl 5 rfl dL_law_134 ?_
        refine x_iconst X dL_law_136 ?_
        refine x_ishr X dL_law_137 ?_
        have hsh137 := sh_rg v 5
        refine x_iconst X dL_law_138 ?_
        refine x_callS (As := [.int (iI (sh v 5)), .int (iI 4)]) (rest := [.ref y, .ref x]) (c1 := cells) (s1 := slots) X w hA (c_L_low l D cs (Lo ++ Lp) f0 (sh v 5) 4 (by omega)) k_L_law_L_low (by decide) rfl hl rfl (Nat.le_of_ble_eq_true rfl) ⟨by show cells + 0 ≤ 721309; omega, by show slots + 0 ≤ 6937540; omega⟩ rfl rfl dL_law_139 (fun v L1 f1 H locs w hp => ?_)
        obtain ⟨rfl, rfl, hp⟩ := hp
        subst hp
        have hlw139 := lw_rg (sh v 5) (n := 4) (by omega)
        show W p l e _ s m _ below meth c _ _ _ _ _ (F0 m 142 ls [.int (iI (lw (sh v 5) 4)), .ref y, .ref x])
        refine x_callS (As := [.ref x, .ref y, .int (iI (lw (sh v 5) 4))]) (rest := []) (c1 := cells) (s1 := slots) X w hA (c_L_isWalked l D cs Lo Lp f0 x br ba pr sz lr y yb yc yd ye yf τ (lw (sh v 5) 4) hC hD hI (by omega)) k_L_law_L_isWalked (by decide) rfl hl rfl (Nat.le_of_ble_eq_true rfl) ⟨by show cells + 0 ≤ 721309; omega, by show slots + 0 ≤ 6937540; omega⟩ rfl rfl dL_law_142 (fun v L1 f1 H locs w hp => ?_)
        obtain ⟨rfl, Lo, Lp, hL9, hC, hD⟩ := hp
        subst hL9
        show W p l e _ s m _ below meth c _ _ _ _ _ (F0 m 145 ls [.int (iI 1)])
        refine x_ifT_ne (tgt := 150) X (by decide) (by decide) (by decide) dL_law_145 ?_
        exact K (swk (lw (sh v 5) 4) (-1) τ) Lo Lp _ _ _ _ (pt + 0) hC hD (hI.swk (by omega)) ⟨show gN τ ≤ pt + 0 from by omega, by omega⟩ w (lv_sub hl [4, 0, 3, 2, 1] rfl)
  · refine x_iconst X dL_law_99 ?_
    refine x_goto (tgt := 104) X (by decide) dL_law_100 ?_
    refine x_iadd X dL_law_104 ?_
    refine x_is_n (lv' := [(3, .int (iI (pt + 1))), (0, .ref b), (1, .ref x), (2, .ref y), (4, .int (iI e9)), (5, .int (iI v)), (6, .int (iI bv))]) X hl rfl (by decide) rfl dL_law_105 (fun ls hl => ?_)
    refine x_il X hl 4 rfl dL_law_106 ?_
    refine x_bipush X (by decide) dL_law_108 ?_
    refine x_irem X (by omega) dL_law_110 ?_
    have hre110 := re_rg e9 6
    refine x_iconst X dL_law_111 ?_
    refine x_icmp_ne (tgt := 122) X (by omega) (by decide) dL_law_112 (fun hb112 => ?_) (fun hb112 => ?_)
    · refine x_il X hl 4 rfl dL_law_122 ?_
      refine x_bipush X (by decide) dL_law_124 ?_
      refine x_irem X (by omega) dL_law_126 ?_
      have hre126 := re_rg e9 30
      refine x_bipush X (by decide) dL_law_127 ?_
      refine x_icmp_ne (tgt := 150) X (by omega) (by decide) dL_law_129 (fun hb129 => ?_) (fun hb129 => ?_)
      · exact K (τ) Lo Lp _ _ _ _ (pt + 1) hC hD hI ⟨show gN τ ≤ pt + 1 from by omega, by omega⟩ w (lv_sub hl [4, 0, 3, 2, 1] rfl)
      · refine x_al_n X hl 2 rfl rfl dL_law_132 ?_
        refine x_al_n X hl 3 rfl rfl dL_law_133 ?_
        refine x_il X hl 5 rfl dL_law_134 ?_
        refine x_iconst X dL_law_136 ?_
        refine x_ishr X dL_law_137 ?_
        have hsh137 := sh_rg v 5
        refine x_iconst X dL_law_138 ?_
        refine x_callS (As := [.int (iI (sh v 5)), .int (iI 4)]) (rest := [.ref y, .ref x]) (c1 := cells) (s1 := slots) X w hA (c_L_low l D cs (Lo ++ Lp) f0 (sh v 5) 4 (by omega)) k_L_law_L_low (by decide) rfl hl rfl (Nat.le_of_ble_eq_true rfl) ⟨by show cells + 0 ≤ 721309; omega, by show slots + 0 ≤ 6937540; omega⟩ rfl rfl dL_law_139 (fun v L1 f1 H locs w hp => ?_)
        obtain ⟨rfl, rfl, hp⟩ := hp
        subst hp
        have hlw139 := lw_rg (sh v 5) (n := 4) (by omega)
        show W p l e _ s m _ below meth c _ _ _ _ _ (F0 m 142 ls [.int (iI (lw (sh v 5) 4)), .ref y, .ref x])
        refine x_callS (As := [.ref x, .ref y, .int (iI (lw (sh v 5) 4))]) (rest := []) (c1 := cells) (s1 := slots) X w hA (c_L_isWalked l D cs Lo Lp f0 x br ba pr sz lr y yb yc yd ye yf τ (lw (sh v 5) 4) hC hD hI (by omega)) k_L_law_L_isWalked (by decide) rfl hl rfl (Nat.le_of_ble_eq_true rfl) ⟨by show cells + 0 ≤ 721309; omega, by show slots + 0 ≤ 6937540; omega⟩ rfl rfl dL_law_142 (fun v L1 f1 H locs w hp => ?_)
        obtain ⟨rfl, Lo, Lp, hL9, hC, hD⟩ := hp
        subst hL9
        show W p l e _ s m _ below meth c _ _ _ _ _ (F0 m 145 ls [.int (iI 1)])
        refine x_ifT_ne (tgt := 150) X (by decide) (by decide) (by decide) dL_law_145 ?_
        exact K (swk (lw (sh v 5) 4) (-1) τ) Lo Lp _ _ _ _ (pt + 1) hC hD (hI.swk (by omega)) ⟨show gN τ ≤ pt + 1 from by omega, by omega⟩ w (lv_sub hl [4, 0, 3, 2, 1] rfl)
    · refine x_al_n X hl 2 rfl rfl dL_law_115 ?_
      refine x_callS (As := [.ref x]) (rest := []) (c1 := cells) (s1 := slots) X w hA (c_L_arePagesSo l D cs (Lo ++ Lp) f0 x br ba pr sz lr τ (CX.inL hC Lp) hI) k_L_law_L_arePagesSo (by decide) rfl hl rfl (Nat.le_of_ble_eq_true rfl) ⟨by show cells + 0 ≤ 721309; omega, by show slots + 0 ≤ 6937540; omega⟩ rfl rfl dL_law_116 (fun v L1 f1 H locs w hp => ?_)
      obtain ⟨rfl, rfl, rfl⟩ := hp
      show W p l e _ s m _ below meth c _ _ _ _ _ (F0 m 119 ls [.int (iI 1)])
      refine x_ifF_eq (tgt := 148) X (by decide) (by decide) (by decide) dL_law_119 ?_
      refine x_il X hl 4 rfl dL_law_122 ?_
      refine x_bipush X (by decide) dL_law_124 ?_
      refine x_irem X (by omega) dL_law_126 ?_
      have hre126 := re_rg e9 30
      refine x_bipush X (by decide) dL_law_127 ?_
      refine x_icmp_ne (tgt := 150) X (by omega) (by decide) dL_law_129 (fun hb129 => ?_) (fun hb129 => ?_)
      · exact K (τ) Lo Lp _ _ _ _ (pt + 1) hC hD hI ⟨show gN τ ≤ pt + 1 from by omega, by omega⟩ w (lv_sub hl [4, 0, 3, 2, 1] rfl)
      · refine x_al_n X hl 2 rfl rfl dL_law_132 ?_
        refine x_al_n X hl 3 rfl rfl dL_law_133 ?_
        refine x_il X hl 5 rfl dL_law_134 ?_
        refine x_iconst X dL_law_136 ?_
        refine x_ishr X dL_law_137 ?_
        have hsh137 := sh_rg v 5
        refine x_iconst X dL_law_138 ?_
        refine x_callS (As := [.int (iI (sh v 5)), .int (iI 4)]) (rest := [.ref y, .ref x]) (c1 := cells) (s1 := slots) X w hA (c_L_low l D cs (Lo ++ Lp) f0 (sh v 5) 4 (by omega)) k_L_law_L_low (by decide) rfl hl rfl (Nat.le_of_ble_eq_true rfl) ⟨by show cells + 0 ≤ 721309; omega, by show slots + 0 ≤ 6937540; omega⟩ rfl rfl dL_law_139 (fun v L1 f1 H locs w hp => ?_)
        obtain ⟨rfl, rfl, hp⟩ := hp
        subst hp
        have hlw139 := lw_rg (sh v 5) (n := 4) (by omega)
        show W p l e _ s m _ below meth c _ _ _ _ _ (F0 m 142 ls [.int (iI (lw (sh v 5) 4)), .ref y, .ref x])
        refine x_callS (As := [.ref x, .ref y, .int (iI (lw (sh v 5) 4))]) (rest := []) (c1 := cells) (s1 := slots) X w hA (c_L_isWalked l D cs Lo Lp f0 x br ba pr sz lr y yb yc yd ye yf τ (lw (sh v 5) 4) hC hD hI (by omega)) k_L_law_L_isWalked (by decide) rfl hl rfl (Nat.le_of_ble_eq_true rfl) ⟨by show cells + 0 ≤ 721309; omega, by show slots + 0 ≤ 6937540; omega⟩ rfl rfl dL_law_142 (fun v L1 f1 H locs w hp => ?_)
        obtain ⟨rfl, Lo, Lp, hL9, hC, hD⟩ := hp
        subst hL9
        show W p l e _ s m _ below meth c _ _ _ _ _ (F0 m 145 ls [.int (iI 1)])
        refine x_ifT_ne (tgt := 150) X (by decide) (by decide) (by decide) dL_law_145 ?_
        exact K (swk (lw (sh v 5) 4) (-1) τ) Lo Lp _ _ _ _ (pt + 1) hC hD (hI.swk (by omega)) ⟨show gN τ ≤ pt + 1 from by omega, by omega⟩ w (lv_sub hl [4, 0, 3, 2, 1] rfl)

theorem k_L_law_L_cell : XS wsL_law RL 112 yL_cell cL_cell 2 (some .int) wsL_cell 2 := ⟨gL_law_L_cell, ⟨_, rfl⟩, by decide, by decide, by decide +kernel⟩
theorem k_L_law_L_act : XS wsL_law RL 116 yL_act cL_act 3 (some .int) wsL_act 2 := ⟨gL_law_L_act, ⟨_, rfl⟩, by decide, by decide, by decide +kernel⟩
set_option maxHeartbeats 4000000 in
set_option maxRecDepth 100000 in
theorem law_loop (X : XX p m c cL_law 8 s #[Value.ref b] wsL_law RL D cs) (hr : meth.sig.returnType = ret) (hlk : meth.locks = false) (hl9 : l.stackTraces = false) (hV : EV s) (hZ : EZ A s s.heap) (hA : ∀ q, s.heap.size ≤ q → A q) (hAA : ∀ q, A q → s.heap.size ≤ q) (hXs : va_X b LL xs s s.heap) (hbl : b < s.heap.size) (hbA : ¬ A b) (hLL : LL ≤ 260) :
  ∀ (N9 : Nat) (e9 : Int) (σ : Sg) (Lo Lp : List Nat) (f0 : Nat → va_E) (pt : Int) (H : Heap) (locs : List Loc) (cells slots : Nat) (ls : Array Slot), (110 - e9).toNat < N9 → (0 ≤ e9 ∧ e9 ≤ 110) → ((cells : Int) + 4 * (110 - e9) ≤ 10000 ∧ (slots : Int) + 24 * (110 - e9) ≤ 100000) → CC cs Lo f0 x br ba pr sz lr σ → CC cs Lp f0 y yb yc yd ye yf σ → Inv σ → (gN σ ≤ pt ∧ pt ≤ e9) → XW D A s.heap (Lo ++ Lp) f0 H locs → lv_has ls 8 [(4, .int (iI e9)), (3, .int (iI pt)), (2, .ref y), (1, .ref x), (0, .ref b)] → W p l e room_1 s m #[Value.ref b] below meth c H locs cells slots (lw_Z below #[Value.ref b] s) (F0 m 21 ls []) := by
  intro N9
  induction N9 with
  | zero => intro e9 σ Lo Lp f0 pt H locs cells slots ls h9; exact absurd h9 (Nat.not_lt_zero _)
  | succ N9 ih =>
    intro e9 σ Lo Lp f0 pt H locs cells slots ls h9 hi hcs hC hD hI hpt w hl
    have hn := hI.n
    refine x_il X hl 0 rfl dL_law_21 ?_
    refine x_bipush X (by decide) dL_law_23 ?_
    refine x_icmp_ge (tgt := 156) X (by omega) (by decide) dL_law_25 (fun hb25 => ?_) (fun hb25 => ?_)
    · exact law_end (σ := σ) (pt := pt) X hr hlk hl9 hV hZ hA hAA (CX.inL hC Lp) hI (by omega) w (by omega) (lv_sub hl [3, 1] rfl)
    · have K : ∀ (cells2 slots2 : Nat), (cells2 ≤ cells + 4 ∧ slots2 ≤ slots + 24) → ∀ (τ2 : Sg) (L2 L3 : List Nat) (f2 : Nat → va_E) (H2 : Heap) (locs2 : List Loc) (ls2 : Array Slot) (pt2 : Int), CC cs L2 f2 x br ba pr sz lr τ2 → CC cs L3 f2 y yb yc yd ye yf τ2 → Inv τ2 → (gN τ2 ≤ pt2 ∧ pt2 ≤ pt + 1) → XW D A s.heap (L2 ++ L3) f2 H2 locs2 → lv_has ls2 8 [(4, .int (iI e9)), (3, .int (iI pt2)), (2, .ref y), (1, .ref x), (0, .ref b)] → W p l e room_1 s m #[Value.ref b] below meth c H2 locs2 cells2 slots2 (lw_Z below #[Value.ref b] s) (F0 m 150 ls2 []) := by
        intro cells2 slots2 hc2 τ2 L2 L3 f2 H2 locs2 ls2 pt2 hC2 hD2 hI2 hp2 w2 hl2
        refine x_iinc (lv' := [(4, .int (iI (e9 + 1))), (3, .int (iI pt2)), (2, .ref y), (1, .ref x), (0, .ref b)]) X hl2 0 rfl (by decide) rfl dL_law_150 (fun ls hl => ?_)
        refine x_goto (tgt := 21) X (by decide) dL_law_153 ?_
        exact ih (e9 + 1) τ2 L2 L3 f2 pt2 H2 locs2 cells2 slots2 ls (by omega) (by omega) (by omega) hC2 hD2 hI2 (by omega) w2 hl
      refine x_al_n X hl 4 rfl rfl dL_law_28 ?_
      refine x_il X hl 0 rfl dL_law_29 ?_
      refine x_callSx (As := [.ref b, .int (iI e9)]) (rest := []) (c1 := cells) (s1 := slots) X w hA hXs hbl hbA (c_L_cell l D cs (Lo ++ Lp) f0 (b := b) (LL := LL) (xs := xs) e9 (by omega) hLL) k_L_law_L_cell (by decide) rfl hl rfl (Nat.le_of_ble_eq_true rfl) ⟨by show cells + 0 ≤ 721309; omega, by show slots + 0 ≤ 6937540; omega⟩ rfl rfl dL_law_31 (fun v L1 f1 H locs w hp => ?_)
      obtain ⟨rfl, rfl, hp⟩ := hp
      subst hp
      have hvr := scl_rg xs LL e9
      generalize scl xs LL e9 = v at hvr ⊢
      show W p l e _ s m _ below meth c _ _ _ _ _ (F0 m 34 ls [.int (iI v)])
      refine x_is (lv' := [(5, .int (iI v)), (4, .int (iI e9)), (3, .int (iI pt)), (2, .ref y), (1, .ref x), (0, .ref b)]) X hl (by decide) rfl dL_law_34 (fun ls hl => ?_)
      refine x_al_n X hl 4 rfl rfl dL_law_36 ?_
      refine x_callV (As := []) (rest := []) (c1 := cells) (s1 := slots) X w hA (c_X3_records l D cs (Lo ++ Lp) f0 x br ba pr sz lr σ (CX.inL hC Lp)) k_L_law_X3_records (by decide) (CX.inL hC Lp).mx (CX.inL hC Lp).fx rfl rfl rfl hl rfl (Nat.le_of_ble_eq_true rfl) ⟨by show cells + 0 ≤ 721309; omega, by show slots + 0 ≤ 6937540; omega⟩ rfl rfl dL_law_37 (fun v L1 f1 H locs w hp => ?_)
      obtain ⟨rfl, rfl, hp⟩ := hp
      subst hp
      show W p l e _ s m _ below meth c _ _ _ _ _ (F0 m 40 ls [.int (iI (gN σ))])
      refine x_is (lv' := [(6, .int (iI (gN σ))), (5, .int (iI v)), (4, .int (iI e9)), (3, .int (iI pt)), (2, .ref y), (1, .ref x), (0, .ref b)]) X hl (by decide) rfl dL_law_40 (fun ls hl => ?_)
      refine x_al_n X hl 5 rfl rfl dL_law_42 ?_
      refine x_il X hl 1 rfl dL_law_43 ?_
      refine x_callS1 (As := [.ref x, .int (iI v)]) (rest := []) (c1 := cells + 2) (s1 := slots + 12) X w hA hV hZ (C1.fL Lp (c_L_act l D cs hl9 Lo f0 x br ba pr sz lr σ v hC hI hvr)) k_L_law_L_act (by decide) rfl hl rfl (Nat.le_of_ble_eq_true rfl) ⟨by show cells + 2 ≤ 721309; omega, by show slots + 12 ≤ 6937540; omega⟩ rfl rfl dL_law_45 (fun E ce a9 H locs w hpx hce hcv hcl => ?_) (fun v L1 f1 H locs w hp => ?_)
      · exact hpx.elim
      · obtain ⟨La, fa, hLa, ⟨rfl, hCa⟩, he1, he2⟩ := hp
        obtain rfl : L1 = La ++ Lp := hLa
        have hC : CC cs La f1 x br ba pr sz lr (aAct v σ).2.2 := CX.ext hCa (fun _ q => q) he1
        have hD : CC cs Lp f1 y yb yc yd ye yf σ := CX.ext hD (fun _ q => q) he2
        have hat := aAct_t hI v
        show W p l e _ s m _ below meth c _ _ _ _ _ (F0 m 48 ls [.int (iI (tv (aAct v σ)))])
        refine x_is (lv' := [(7, .int (iI (tv (aAct v σ)))), (6, .int (iI (gN σ))), (5, .int (iI v)), (4, .int (iI e9)), (3, .int (iI pt)), (2, .ref y), (1, .ref x), (0, .ref b)]) X hl (by decide) rfl dL_law_48 (fun ls hl => ?_)
        refine x_il X hl 0 rfl dL_law_50 ?_
        refine x_ldc (z := -99999) (v := (-99999 : Int32)) X (by decide +kernel) (by decide +kernel) dL_law_52 ?_
        refine x_icmp_eq (tgt := 68) X (by omega) (by decide) dL_law_54 (fun hb54 => ?_) (fun hb54 => ?_)
        · have hD : CC cs Lp f1 y yb yc yd ye yf (aAct v σ).2.2 := by rw [hat.2 (by omega)]; exact hD
          exact law_tail (τ := (aAct v σ).2.2) (pt := pt) (bv := gN σ) (v := v) (e9 := e9) X hA hC hD (aAct_g hI v).2.1 (aAct_g hI v).2.2.2 (by omega) (by omega) hvr (by omega) w (lv_sub hl [7, 6, 5, 4, 3, 2, 1] rfl) (K _ _ (by omega))
        · refine x_al_n X hl 5 rfl rfl dL_law_57 ?_
          refine x_il X hl 2 rfl dL_law_58 ?_
          refine x_callS1 (As := [.ref y, .int (iI v)]) (rest := []) (c1 := cells + 2 + 2) (s1 := slots + 12 + 12) X w hA hV hZ (C1.fR La (c_L_act l D cs hl9 Lp f1 y yb yc yd ye yf σ v hD hI hvr)) k_L_law_L_act (by decide) rfl hl rfl (Nat.le_of_ble_eq_true rfl) ⟨by show cells + 2 + 2 ≤ 721309; omega, by show slots + 12 + 12 ≤ 6937540; omega⟩ rfl rfl dL_law_60 (fun E ce a9 H locs w hpx hce hcv hcl => ?_) (fun v L1 f1 H locs w hp => ?_)
          · exact hpx.elim
          · obtain ⟨Lb, fb, hLb, ⟨rfl, hDb⟩, he3, he4⟩ := hp
            obtain rfl : L1 = La ++ Lb := hLb
            have hD : CC cs Lb f1 y yb yc yd ye yf (aAct v σ).2.2 := CX.ext hDb (fun _ q => q) he3
            have hC : CC cs La f1 x br ba pr sz lr (aAct v σ).2.2 := CX.ext hC (fun _ q => q) he4
            show W p l e _ s m _ below meth c _ _ _ _ _ (F0 m 63 ls [.int (iI (tv (aAct v σ)))])
            refine x_il X hl 0 rfl dL_law_63 ?_
            refine x_icmpS_ne (tgt := 87) X (by decide) dL_law_65 ?_
            exact law_tail (τ := (aAct v σ).2.2) (pt := pt) (bv := gN σ) (v := v) (e9 := e9) X hA hC hD (aAct_g hI v).2.1 (aAct_g hI v).2.2.2 (by omega) (by omega) hvr (by omega) w (lv_sub hl [7, 6, 5, 4, 3, 2, 1] rfl) (K _ _ (by omega))

end LLAW
theorem iw_L_law_X0 : ∀ w ∈ wsX00, w ∈ wsL_law := by decide +kernel
theorem iw_L_law_X1 : ∀ w ∈ wsX10, w ∈ wsL_law := by decide +kernel
theorem iw_L_law_X2 : ∀ w ∈ wsX20, w ∈ wsL_law := by decide +kernel
theorem iw_L_law_X3 : ∀ w ∈ wsX30, w ∈ wsL_law := by decide +kernel
theorem kI_law_X3 : XI wsL_law RL 111 yX3_init cX3_init 1 wsX3_init 0 := ⟨gL_law_X3_init, ⟨_, rfl⟩, ⟨by decide +kernel, by decide +kernel, by decide +kernel⟩, rfl, by decide, by decide, by decide +kernel⟩
theorem tb_cA : Cond.castable XIA XIA ∈ lw_tbl := by decide +kernel
theorem tb_cS : Cond.castable XIS XIS ∈ lw_tbl := by decide +kernel
theorem tb_cO : Cond.castable XIO XIO ∈ lw_tbl := by decide +kernel
theorem tb_d1 : Cond.declares (Bundle.initS "java/lang/RuntimeException") ∈ lw_tbl := by decide +kernel
theorem tb_d2 : Cond.declares (Bundle.initS "java/lang/Exception") ∈ lw_tbl := by decide +kernel
theorem tb_d3 : Cond.declares (Bundle.initS Bundle.tN) ∈ lw_tbl := by decide +kernel
theorem tb_str : ∀ q ∈ xstr, Cond.stringRef RX3 q.1 q.2 ∈ lw_tbl := by decide +kernel
theorem tb_ao : Cond.arrayOver (.object RX0) ∈ lw_tbl := by decide +kernel
theorem tb_n1 : Cond.methodLinkNest RX3 9 yX1_init "PageBail" ∈ lw_tbl := by decide +kernel
theorem tb_n2 : Cond.methodLinkNest RX3 18 yX2_init "PageBail" ∈ lw_tbl := by decide +kernel
theorem tb_l1 : Cond.laysStatic Bundle.tN "UNASSIGNED_STACK" Bundle.steD ∈ lw_tbl := by decide +kernel
theorem tb_l2 : Cond.laysStatic Bundle.tN "SUPPRESSED_SENTINEL" Bundle.listD ∈ lw_tbl := by decide +kernel
theorem tb_in : Cond.initialized Bundle.tN ∈ lw_tbl := by decide +kernel
theorem tf_nc : Cond.not (.castable XIS XIA) ∈ flatC (Jvm.Cond.and given_1 narrow_1) := by decide +kernel
theorem tf_s1 : Cond.isRef (.static Bundle.tN "UNASSIGNED_STACK" Bundle.steD) ∈ flatC (Jvm.Cond.and given_1 narrow_1) := by decide +kernel
theorem tf_s2 : Cond.isRef (.static Bundle.tN "SUPPRESSED_SENTINEL" Bundle.listD) ∈ flatC (Jvm.Cond.and given_1 narrow_1) := by decide +kernel
theorem tf_str : ∀ q ∈ xstr, Cond.exactly (.string RX3 q.1) "java/lang/String" ∈ flatC (Jvm.Cond.and given_1 narrow_1) := by decide +kernel
theorem ev_start {b : Nat} {s : State} (hts : ∀ w ∈ lw_tbl, w.before #[Value.ref b] s = true) (hgv : (Jvm.Cond.and given_1 narrow_1).before #[Value.ref b] s = true) : EV s := by
  have hs := flat_of_before _ hgv
  refine ⟨va_Nw.of rfl (hts _ tb_cA), va_Nw.of rfl (hts _ tb_cS), va_Nw.of rfl (hts _ tb_cO), va_Nc.of (hs _ tf_nc), ⟨va_Nw.of rfl (hts _ tb_d1), va_Nw.of rfl (hts _ tb_d2), va_Nw.of rfl (hts _ tb_d3)⟩, fun q hq => ?_⟩
  have h1 := hs _ (tf_str q hq)
  obtain ⟨a9, _, _, _, ha9, _⟩ := Cond.exactly_spec (show (Cond.exactly (.string RX3 q.1) "java/lang/String").holds #[Value.ref b] s none s [] = true from h1)
  exact ⟨a9, vk_R.of (A := #[Value.ref b]) (hts _ (tb_str q hq)) ha9⟩
set_option maxHeartbeats 4000000 in
set_option maxRecDepth 100000 in
/-- from the entry, for every script of at most 260 ints, the law comes to its end with true -/
theorem whole_start {p : Program} {e : Env} {s : State} {m : MethodId} {below : List Frame} {meth : Method} {c : Code} (l : Launch) (hflags : l.flags = flags0) {b L : Nat} {xs : Nat → Int32} (hL : L ≤ 260) (C0 : lw_At p s m meth c b L xs) : W p l e room_1 s m #[Value.ref b] below meth c s.heap [] 0 0 (lw_Z below #[Value.ref b] s) (entryFrame m ([Value.ref b] : List Value).toArray 8) := by
  obtain ⟨hx, hb, hr, hml, hown, hts, hXs, hbl, hlocks, hgv⟩ := id C0
  have hl9 : l.stackTraces = false := by unfold Launch.stackTraces; rw [hflags]; decide +kernel
  have hA : ∀ q : Nat, s.heap.size ≤ q → (fun q : Nat => s.heap.size ≤ q) q := fun _ h => h
  have hbA : ¬ (fun q : Nat => s.heap.size ≤ q) b := Nat.not_le.mpr hbl
  have hwl : ∀ w ∈ wsL_law, w.before #[Value.ref b] s = true := fun w h => hts w (wsL_law_in w h)
  obtain ⟨c0, i0, k0⟩ := u_known (C := RX0) (T := TX0) (N := 5) (n := 5) hwl iw_L_law_X0 (hwl (.instantiable RX0 5) (by decide +kernel))
  obtain ⟨c1, i1, k1⟩ := u_known (C := RX1) (T := TX1) (N := 2) (n := 2) hwl iw_L_law_X1 (hwl (.instantiable RX1 2) (by decide +kernel))
  obtain ⟨c2, i2, k2⟩ := u_known (C := RX2) (T := TX2) (N := 2) (n := 2) hwl iw_L_law_X2 (hwl (.instantiable RX2 2) (by decide +kernel))
  obtain ⟨c3, i3, k3⟩ := u_known (C := RX3) (T := TX3) (N := 7) (n := 7) hwl iw_L_law_X3 (hwl (.instantiable RX3 7) (by decide +kernel))
  obtain ⟨dC, dI, hKc⟩ : ∃ (dC : Nat → ClassId) (dI : Nat → Nat → Nat), ∀ (k : Nat) (q : vw_C), vwCl[k]? = some q → u_Kn s q.1 q.2.1 q.2.2 (dC k) (dI k) := by
    refine ⟨fun k => if k = 0 then c0 else if k = 1 then c1 else if k = 2 then c2 else c3, fun k => if k = 0 then i0 else if k = 1 then i1 else if k = 2 then i2 else i3, ?_⟩
    intro k q hq
    match k, hq with
    | 0, hq => cases hq; exact k0
    | 1, hq => cases hq; exact k1
    | 2, hq => cases hq; exact k2
    | 3, hq => cases hq; exact k3
    | k + 4, hq => simp [vwCl] at hq
  obtain ⟨cI, kI, compI, aI1, aI2, aI3⟩ := Cond.arrayClass_spec (show (Cond.arrayClass .int).holds #[Value.ref b] s none s [] = true from hwl _ (by decide +kernel))
  obtain ⟨compR, cR, kR, aR1, _, aR2, aR3, aR4⟩ := Cond.arrayOver_spec (show (Cond.arrayOver (.object RX0)).holds #[Value.ref b] s none s [] = true from hts _ tb_ao)
  have hK : va_K (dC, dI) vwCl (ty3 (cI, cR, cI)) s := by
    refine ⟨hKc, fun k q h => ?_⟩
    match k, h with
    | 0, h => cases h; exact ⟨fun n z => ⟨fun k h => (by cases h), kI, aI2, compI, aI3⟩, aI1⟩
    | 1, h => cases h; exact ⟨fun n z => ⟨fun k h => (by cases h), kR, aR2, compR, aR3⟩, kR, compR, aR2, aR3, aR1, aR4⟩
    | k + 2, h => simp [ty3] at h
  have X : XX p m c cL_law 8 s #[Value.ref b] wsL_law RL (dC, dI) (cI, cR, cI) := ⟨⟨hx, hb, hml, hown, hwl⟩, hK⟩
  have hV : EV s := ev_start hts hgv
  have hfl := flat_of_before _ hgv
  have hnA : ∀ a : Nat, a < s.heap.size → ¬ (fun q : Nat => s.heap.size ≤ q) a := fun a h => Nat.not_le.mpr h
  have hZ : EZ (fun q : Nat => s.heap.size ≤ q) s s.heap := ⟨vx_Zqof (hts _ tb_l1) (hts _ tb_in) (hfl _ tf_s1) hnA, vx_Zqof (hts _ tb_l2) (hts _ tb_in) (hfl _ tf_s2) hnA⟩
  have hZI : ZI s := ⟨va_AO.of (A := #[Value.ref b]) (hts _ tb_ao), va_Nw.of rfl (hts _ tb_n1), va_Nw.of rfl (hts _ tb_n2)⟩
  have w : XW (dC, dI) (fun q : Nat => s.heap.size ≤ q) s.heap [] (fun _ => .inr (0, [])) s.heap [] := ⟨fun k q h => by simp [va_pl] at h, ⟨fun i j p q h => by simp [va_pl] at h, fun k q h => by simp [va_pl] at h⟩, va_S.rf⟩
  have hl := lv_entry ([.ref b]) (n := 8) (Nat.le_of_ble_eq_true rfl)
  rw [lg_entry_eq]
  generalize (lg_sl ([.ref b]) ++ List.replicate (8 - (lg_sl ([.ref b])).length) Slot.unset).toArray = ls at hl ⊢
  have hl : lv_has ls 8 [(0, .ref b)] := hl
  refine x_newO (C := RX3) (T := TX3) (N := 7) (ci := 3) (c1 := 1) (s1 := 7) X w hA iw_L_law_X3 tyX3_ok ⟨by decide +kernel, by decide +kernel, by decide +kernel⟩ rfl df_X3 ⟨Nat.le_of_ble_eq_true rfl, Nat.le_of_ble_eq_true rfl⟩ rfl rfl dL_law_0 (fun x H locs hn0 w => ?_)
  refine x_dup X rfl dL_law_3 ?_
  refine x_callIz (As := []) (rest := [.ref x]) (c1 := 6) (s1 := 175) (n := 0) X w hA zw_I hZI (c_X3_init l (dC, dI) (cI, cR, cI) ([] ++ [x]) _ x (List.mem_append_right _ List.mem_cons_self) (va_up_self _ _ _)) kI_law_X3 ⟨Nat.le_of_ble_eq_true rfl, Nat.le_of_ble_eq_true rfl⟩ rfl hl rfl (Nat.le_of_ble_eq_true rfl) ⟨Nat.le_of_ble_eq_true rfl, Nat.le_of_ble_eq_true rfl⟩ rfl rfl dL_law_4 (fun v L1 f1 H locs w hp => ?_)
  obtain ⟨rfl, hsub1, hfr1, br, ba, pr, sz, lr, hC⟩ := hp
  show W p l e _ s m _ below meth c _ _ _ _ _ (F0 m 7 ls [.ref x])
  refine x_as_n (lv' := [(1, .ref x), (0, .ref b)]) X hl rfl (by decide) rfl dL_law_7 (fun ls hl => ?_)
  refine x_newO (C := RX3) (T := TX3) (N := 7) (ci := 3) (c1 := 7) (s1 := 182) X w hA iw_L_law_X3 tyX3_ok ⟨by decide +kernel, by decide +kernel, by decide +kernel⟩ rfl df_X3 ⟨Nat.le_of_ble_eq_true rfl, Nat.le_of_ble_eq_true rfl⟩ rfl rfl dL_law_8 (fun y H locs hn1 w => ?_)
  refine x_dup X rfl dL_law_11 ?_
  refine x_callIz (As := []) (rest := [.ref y]) (c1 := 12) (s1 := 350) (n := 0) X w hA zw_I hZI (C0z.fR L1 (c_X3_init l (dC, dI) (cI, cR, cI) [y] _ y List.mem_cons_self (va_up_self _ _ _))) kI_law_X3 ⟨Nat.le_of_ble_eq_true rfl, Nat.le_of_ble_eq_true rfl⟩ rfl hl rfl (Nat.le_of_ble_eq_true rfl) ⟨Nat.le_of_ble_eq_true rfl, Nat.le_of_ble_eq_true rfl⟩ rfl rfl dL_law_12 (fun v L9 f9 H locs w hp => ?_)
  obtain ⟨L2, f2, hL9, ⟨rfl, hsub2, hfr2, yb, yc, yd, ye, yf, hD⟩, he1, he2⟩ := hp
  obtain rfl : L9 = L1 ++ L2 := hL9
  show W p l e _ s m _ below meth c _ _ _ _ _ (F0 m 15 ls [.ref y])
  have hne : ∀ a, a ∈ L1 → a ≠ y := fun a h he => hn1 (by rw [← he]; exact h)
  have hC2 := CX.ext (f1 := f9) hC (fun _ q => q) (fun a ha => (he2 a ha).trans (va_up_ne _ _ (hne a ha)))
  have hD2 := CX.ext (f1 := f9) hD (fun _ q => q) he1
  refine x_as_n (lv' := [(2, .ref y), (1, .ref x), (0, .ref b)]) X hl rfl (by decide) rfl dL_law_15 (fun ls hl => ?_)
  refine x_iconst X dL_law_16 ?_
  refine x_is_n (lv' := [(3, .int (iI 0)), (2, .ref y), (1, .ref x), (0, .ref b)]) X hl rfl (by decide) rfl dL_law_17 (fun ls hl => ?_)
  refine x_iconst X dL_law_18 ?_
  refine x_is (lv' := [(4, .int (iI 0)), (3, .int (iI 0)), (2, .ref y), (1, .ref x), (0, .ref b)]) X hl (by decide) rfl dL_law_19 (fun ls hl => ?_)
  exact law_loop X hr hlocks hl9 hV hZ hA (fun _ h => h) hXs hbl hbA hL 111 0 sg0 L1 L2 f9 0 _ _ 12 350 ls (by decide) (by decide) (by decide) hC2 hD2 Inv.z ⟨Int.le_refl 0, Int.le_refl 0⟩ w hl
