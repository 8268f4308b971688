/-! THE CLAIM OUT OF ONE WALK OF THE LAW'S BODY. Your part is whole_start (and what it stands on); all else here is the same for every law, but numbers. -/
def R_law : String := "PageBailLaw"
def lw_P (b : Addr) (xs : List Int32) (args : Array Value) (s : State) : Prop := args = #[.ref b] ∧ s.IntsAt b xs ∧ xs.length ≤ 2048 ∧ (Jvm.Cond.and given_1 narrow_1).before args s = true
def lw_Q (_ : Array Value) (s : State) (o : Outcome) (t : State) : Prop := o = .returned (some (.int 1)) ∧ Framed s o t [] 628090 7211835
def lw_Z (below : List Frame) (a : Array Value) (s : State) : State → Prop := fun t => ∃ o, t.status = .running ∧ Ended t below o ∧ lw_Q a s o t
/-- the law's own end, with 1 on the stack, nothing written that was there before, its room as the claim has it -/
theorem lw_ret {p : Program} {l : Launch} {e : Env} {s : State} {m : MethodId} {below : List Frame} {meth : Method} {c : Code} {b : Nat} (hx : p.tables.exec = Jvm.exec) (hb : c.code = code) (hr : meth.sig.returnType = ret) (hlocks : meth.locks = false) {pc : Nat} {H : Heap} {ls : Array Slot} (hdg : decode code pc = .ok (.ireturn, 1)) : W p l e room_1 s m #[Value.ref b] below meth c H [] 628090 7211835 (lw_Z below #[Value.ref b] s) (F0 m pc ls [.int 1]) := by
  intro T hT X
  obtain ⟨fs, hret, hrun, hended, hW, hframe⟩ := X.leave (v := some (.int 1)) (hlocks := hlocks) (fun h => by rw [hr] at h; cases h)
  have hmeth' : T.vm.method? m = some meth := X.method'
  refine ⟨T.setFrames fs, ?_, .returned (some (.int 1)), hrun, hended, rfl, ⟨_, rfl⟩, hW, hframe⟩
  jvm_step X.here [X.here.top, hx, hb, hdg, hmeth', hr, ret, narrow_b1]
  (try refine ⟨rfl, ?_⟩); (try refine ⟨rfl, ?_⟩)
  first | (intro acts; rw [hret _ acts rfl rfl rfl]) | rw [hret _ _ rfl rfl rfl]
  exact Steps.refl _
/-- what holds at the law's entry: the machine, the code, the tables' words (any of lw_tbl by 'hts w (by decide +kernel)'), the script of L ints xs at the cell b, what the Statement gives of the start (any of its parts by flat_of_before) -/
def lw_At (p : Program) (s : State) (m : MethodId) (meth : Method) (c : Code) (b L : Nat) (xs : Nat → Int32) : Prop :=
  p.tables.exec = Jvm.exec ∧ c.code = code ∧ meth.sig.returnType = ret ∧ c.maxLocals = 7 ∧ s.vm.findClass R_law = some m.cls ∧ (∀ w ∈ lw_tbl, w.before #[Value.ref b] s = true) ∧ va_X b L xs s s.heap ∧ b < s.heap.size ∧ meth.locks = false ∧ (Jvm.Cond.and given_1 narrow_1).before #[Value.ref b] s = true

section LLOOP
variable {p : Program} {l : Launch} {e : Env} {s : State} {m : MethodId} {below : List Frame} {meth : Method} {c : Code}
variable {D : va_G} {cs : ClassId × ClassId × ClassId} {b LL : Nat} {xs : Nat → Int32} {x br ba pr sz lr mo ou : Nat} {B : Nat → Nat}
set_option maxHeartbeats 4000000 in
set_option maxRecDepth 100000 in
/-- THE LAW'S LOOP: one call of the script after the other -/
theorem law_loop (X : XX p m c cL_law 7 s #[Value.ref b] wsL_law RL D cs) (hr : meth.sig.returnType = ret) (hlk : meth.locks = false) (hl9 : l.stackTraces = false) (hV : EV s) (hZ : EZ (fun q : Nat => s.heap.size ≤ q) s s.heap) (hXs : va_X b LL xs s s.heap) (hbl : b < s.heap.size) (hLL : LL ≤ 2048) :
    ∀ (N9 : Nat) (i : Int) (σ : Sg) (L : List Nat) (f0 : Nat → va_E) (H : Heap) (locs : List Loc) (cells slots : Nat) (ls : Array Slot), ((LL : Int) - i).toNat < N9 → (0 ≤ i ∧ i ≤ (LL : Int)) → (2 * (cells : Int) + ((LL : Int) - i) ≤ 10000 ∧ (slots : Int) + 3 * ((LL : Int) - i) ≤ 100000) → LI cs L f0 x br ba pr sz lr mo B ou σ → XW D (fun q : Nat => s.heap.size ≤ q) s.heap L f0 H locs → lv_has ls 7 [(4, .int (iI i)), (3, .ref ou), (2, .ref mo), (1, .ref x), (0, .ref b)] → W p l e room_1 s m #[Value.ref b] below meth c H locs cells slots (lw_Z below #[Value.ref b] s) (F0 m 23 ls []) := by
  intro N9
  induction N9 with
  | zero => intro i σ L f0 H locs cells slots ls h9; exact absurd h9 (Nat.not_lt_zero _)
  | succ N9 ih =>
    intro i σ L f0 H locs cells slots ls h9 hi hcs hLI w hl
    have hA : ∀ q : Nat, s.heap.size ≤ q → (fun q : Nat => s.heap.size ≤ q) q := fun _ h => h
    have hbA : ¬ (fun q : Nat => s.heap.size ≤ q) b := Nat.not_le.mpr hbl
    refine x_il X hl 0 rfl dL_law_23 ?_
    refine x_al_n X hl 4 rfl rfl dL_law_25 ?_
    refine x_slen X w hXs hbl hbA dL_law_26 ?_
    refine x_iconst X dL_law_27 ?_
    refine x_isub X dL_law_28 ?_
    refine x_icmp_gt (tgt := 1063) X (by omega) (by decide) dL_law_29 (fun hb29 => ?_) (fun hb29 => ?_)
    · refine x_iconst X dL_law_1063 ?_
      refine va_forget (fun q hq => w.2.2.2.2 q hq) ?_
      refine W.widen (k := 628090) (n := 7211835) (by omega) (by omega) ?_
      rw [show iI 1 = 1 by decide]
      exact lw_ret X.1.1 X.1.2.1 hr hlk dL_law_1064
    · have K : ∀ (σ2 : Sg) (L2 : List Nat) (f2 : Nat → va_E) (H2 : Heap) (locs2 : List Loc) (ls2 : Array Slot), LI cs L2 f2 x br ba pr sz lr mo B ou σ2 → XW D (fun q : Nat => s.heap.size ≤ q) s.heap L2 f2 H2 locs2 → lv_has ls2 7 [(4, .int (iI i)), (3, .ref ou), (2, .ref mo), (1, .ref x), (0, .ref b)] → W p l e room_1 s m #[Value.ref b] below meth c H2 locs2 (cells + 2) (slots + 12) (lw_Z below #[Value.ref b] s) (F0 m 1057 ls2 []) := by
        intro σ2 L2 f2 H2 locs2 ls2 hLI2 w2 hl2
        refine x_iinc (lv' := [(4, .int (iI (i + 4))), (3, .ref ou), (2, .ref mo), (1, .ref x), (0, .ref b)]) X hl2 0 rfl (by decide) rfl dL_law_1057 (fun ls hl => ?_)
        refine x_goto (tgt := 23) X (by decide) dL_law_1060 ?_
        exact ih (i + 4) σ2 L2 f2 H2 locs2 (cells + 2) (slots + 12) ls (by omega) (by omega) (by omega) hLI2 w2 hl
      have hi3 : 0 ≤ i ∧ i + 3 < (LL : Int) := by omega
      have hcs3 : cells + 2 ≤ 628090 ∧ slots + 12 ≤ 7211835 := by omega
      refine x_al_n X hl 4 rfl rfl dL_law_32 ?_
      refine x_il X hl 0 rfl dL_law_33 ?_
      refine x_sld (xs := xs) X w hXs hbl hbA (by omega) dL_law_35 ?_
      refine x_bipush X (by decide) dL_law_36 ?_
      refine x_iand X dL_law_38 ?_
      obtain ⟨u, hu⟩ : ∃ u : Int, (iI (sv xs i) &&& iI 31).toInt = u := ⟨_, rfl⟩
      by_cases hout : u < 0 ∨ 20 < u
      · refine lv_tableOut (tgt := 1057) X.1.1 X.1.2.1 dL_law_39 (by rw [hu]; exact hout) (by decide) ?_
        refine W.widen (k := cells + 2) (n := slots + 12) (by omega) (by omega) ?_
        exact K _ _ _ _ _ _ hLI w hl
      · rcases (show u = 0 ∨ u = 1 ∨ u = 2 ∨ u = 3 ∨ u = 4 ∨ u = 5 ∨ u = 6 ∨ u = 7 ∨ u = 8 ∨ u = 9 ∨ u = 10 ∨ u = 11 ∨ u = 12 ∨ u = 13 ∨ u = 14 ∨ u = 15 ∨ u = 16 ∨ u = 17 ∨ u = 18 ∨ u = 19 ∨ u = 20 by omega) with rfl | rfl | rfl | rfl | rfl | rfl | rfl | rfl | rfl | rfl | rfl | rfl | rfl | rfl | rfl | rfl | rfl | rfl | rfl | rfl | rfl
        · refine lv_tableIn (tgt := 136) X.1.1 X.1.2.1 dL_law_39 (by rw [hu]; decide) (by rw [hu]; decide) (by rw [hu]; rfl) (by decide) ?_
          exact lc_0 X hl9 hV hZ hA hXs hbl hbA hLL hLI w hi3 hcs3 hl K
        · refine lv_tableIn (tgt := 216) X.1.1 X.1.2.1 dL_law_39 (by rw [hu]; decide) (by rw [hu]; decide) (by rw [hu]; rfl) (by decide) ?_
          exact lc_1 X hl9 hV hZ hA hXs hbl hbA hLL hLI w hi3 hcs3 hl K
        · refine lv_tableIn (tgt := 272) X.1.1 X.1.2.1 dL_law_39 (by rw [hu]; decide) (by rw [hu]; decide) (by rw [hu]; rfl) (by decide) ?_
          exact lc_2 X hl9 hV hZ hA hXs hbl hbA hLL hLI w hi3 hcs3 hl K
        · refine lv_tableIn (tgt := 308) X.1.1 X.1.2.1 dL_law_39 (by rw [hu]; decide) (by rw [hu]; decide) (by rw [hu]; rfl) (by decide) ?_
          exact lc_3 X hl9 hV hZ hA hXs hbl hbA hLL hLI w hi3 hcs3 hl K
        · refine lv_tableIn (tgt := 364) X.1.1 X.1.2.1 dL_law_39 (by rw [hu]; decide) (by rw [hu]; decide) (by rw [hu]; rfl) (by decide) ?_
          exact lc_4 X hl9 hV hZ hA hXs hbl hbA hLL hLI w hi3 hcs3 hl K
        · refine lv_tableIn (tgt := 432) X.1.1 X.1.2.1 dL_law_39 (by rw [hu]; decide) (by rw [hu]; decide) (by rw [hu]; rfl) (by decide) ?_
          exact lc_5 X hl9 hV hZ hA hXs hbl hbA hLL hLI w hi3 hcs3 hl K
        · refine lv_tableIn (tgt := 445) X.1.1 X.1.2.1 dL_law_39 (by rw [hu]; decide) (by rw [hu]; decide) (by rw [hu]; rfl) (by decide) ?_
          exact lc_6 X hl9 hV hZ hA hXs hbl hbA hLL hLI w hi3 hcs3 hl K
        · refine lv_tableIn (tgt := 501) X.1.1 X.1.2.1 dL_law_39 (by rw [hu]; decide) (by rw [hu]; decide) (by rw [hu]; rfl) (by decide) ?_
          exact lc_7 X hl9 hV hZ hA hXs hbl hbA hLL hLI w hi3 hcs3 hl K
        · refine lv_tableIn (tgt := 564) X.1.1 X.1.2.1 dL_law_39 (by rw [hu]; decide) (by rw [hu]; decide) (by rw [hu]; rfl) (by decide) ?_
          exact lc_8 X hl9 hV hZ hA hXs hbl hbA hLL hLI w hi3 hcs3 hl K
        · refine lv_tableIn (tgt := 620) X.1.1 X.1.2.1 dL_law_39 (by rw [hu]; decide) (by rw [hu]; decide) (by rw [hu]; rfl) (by decide) ?_
          exact lc_9 X hl9 hV hZ hA hXs hbl hbA hLL hLI w hi3 hcs3 hl K
        · refine lv_tableIn (tgt := 633) X.1.1 X.1.2.1 dL_law_39 (by rw [hu]; decide) (by rw [hu]; decide) (by rw [hu]; rfl) (by decide) ?_
          exact lc_10 X hl9 hV hZ hA hXs hbl hbA hLL hLI w hi3 hcs3 hl K
        · refine lv_tableIn (tgt := 646) X.1.1 X.1.2.1 dL_law_39 (by rw [hu]; decide) (by rw [hu]; decide) (by rw [hu]; rfl) (by decide) ?_
          exact lc_11 X hl9 hV hZ hA hXs hbl hbA hLL hLI w hi3 hcs3 hl K
        · refine lv_tableIn (tgt := 702) X.1.1 X.1.2.1 dL_law_39 (by rw [hu]; decide) (by rw [hu]; decide) (by rw [hu]; rfl) (by decide) ?_
          exact lc_12 X hl9 hV hZ hA hXs hbl hbA hLL hLI w hi3 hcs3 hl K
        · refine lv_tableIn (tgt := 715) X.1.1 X.1.2.1 dL_law_39 (by rw [hu]; decide) (by rw [hu]; decide) (by rw [hu]; rfl) (by decide) ?_
          exact lc_13 X hl9 hV hZ hA hXs hbl hbA hLL hLI w hi3 hcs3 hl K
        · refine lv_tableIn (tgt := 728) X.1.1 X.1.2.1 dL_law_39 (by rw [hu]; decide) (by rw [hu]; decide) (by rw [hu]; rfl) (by decide) ?_
          exact lc_14 X hl9 hV hZ hA hXs hbl hbA hLL hLI w hi3 hcs3 hl K
        · refine lv_tableIn (tgt := 784) X.1.1 X.1.2.1 dL_law_39 (by rw [hu]; decide) (by rw [hu]; decide) (by rw [hu]; rfl) (by decide) ?_
          exact lc_15 X hl9 hV hZ hA hXs hbl hbA hLL hLI w hi3 hcs3 hl K
        · refine lv_tableIn (tgt := 852) X.1.1 X.1.2.1 dL_law_39 (by rw [hu]; decide) (by rw [hu]; decide) (by rw [hu]; rfl) (by decide) ?_
          exact lc_16 X hl9 hV hZ hA hXs hbl hbA hLL hLI w hi3 hcs3 hl K
        · refine lv_tableIn (tgt := 908) X.1.1 X.1.2.1 dL_law_39 (by rw [hu]; decide) (by rw [hu]; decide) (by rw [hu]; rfl) (by decide) ?_
          exact lc_17 X hl9 hV hZ hA hXs hbl hbA hLL hLI w hi3 hcs3 hl K
        · refine lv_tableIn (tgt := 932) X.1.1 X.1.2.1 dL_law_39 (by rw [hu]; decide) (by rw [hu]; decide) (by rw [hu]; rfl) (by decide) ?_
          exact lc_18 X hl9 hV hZ hA hXs hbl hbA hLL hLI w hi3 hcs3 hl K
        · refine lv_tableIn (tgt := 988) X.1.1 X.1.2.1 dL_law_39 (by rw [hu]; decide) (by rw [hu]; decide) (by rw [hu]; rfl) (by decide) ?_
          exact lc_19 X hl9 hV hZ hA hXs hbl hbA hLL hLI w hi3 hcs3 hl K
        · refine lv_tableIn (tgt := 1001) X.1.1 X.1.2.1 dL_law_39 (by rw [hu]; decide) (by rw [hu]; decide) (by rw [hu]; rfl) (by decide) ?_
          exact lc_20 X hl9 hV hZ hA hXs hbl hbA hLL hLI w hi3 hcs3 hl K
end LLOOP

section LSTART
variable {cs : ClassId × ClassId × ClassId} {L L2 : List Nat} {f f1 : Nat → va_E} {x br ba pr sz lr mo : Nat} {B : Nat → Nat} {n : Int} {R : Rc} {k : Int} {z : Int → Int} {td kp pb sw : Int} {w : Int → Int}
theorem CX.ext (h : CX cs L f x br ba pr sz lr n R k z td kp pb sw w) (hs : ∀ a, a ∈ L → a ∈ L2) (hf : ∀ a, a ∈ L → f1 a = f a) : CX cs L2 f1 x br ba pr sz lr n R k z td kp pb sw w := by
  obtain ⟨ww, hl1, hl2⟩ := h.fl
  obtain ⟨r, hb1, hb2⟩ := h.rb
  obtain ⟨zz, hzR, hzz⟩ := h.pp
  refine ⟨hs _ h.mx, (hf _ h.mx).trans h.fx, hs _ h.ml, ⟨ww, (hf _ h.ml).trans hl1, hl2⟩, h.ns, ⟨zz, ⟨hs _ hzR.mp, hs _ hzR.ms, (hf _ hzR.mp).trans hzR.fp, (hf _ hzR.ms).trans hzR.fs⟩, hzz⟩, r, ⟨hs _ hb1.mp, hs _ hb1.ms, (hf _ hb1.mp).trans hb1.fp, (hf _ hb1.ms).trans hb1.fs⟩, fun j a1 a2 => ?_⟩
  obtain ⟨c, h3, h4, h5⟩ := hb2 j a1 a2
  exact ⟨c, h3, hs _ h4, (hf _ h4).trans h5⟩
theorem MX.ext {t : Int} {σ : Sg} (h : MX cs L f mo B t σ) (hs : ∀ a, a ∈ L → a ∈ L2) (hf : ∀ a, a ∈ L → f1 a = f a) : MX cs L2 f1 mo B t σ := by
  obtain ⟨g2, zz, ww, hM, h1, h2, h3⟩ := h
  exact ⟨g2, zz, ww, ⟨hs _ hM.mm, (hf _ hM.mm).trans hM.fm, hM.ad, fun c hc => ⟨hs _ (hM.gg c hc).1, (hf _ (hM.gg c hc).1).trans (hM.gg c hc).2⟩, ⟨hs _ hM.m8, (hf _ hM.m8).trans hM.f8⟩, hs _ hM.m13, (hf _ hM.m13).trans hM.f13⟩, h1, h2, h3⟩
end LSTART
theorem iw_L_law_X0 : ∀ w ∈ wsX00, w ∈ wsL_law := by decide +kernel
theorem iw_L_law_X1 : ∀ w ∈ wsX10, w ∈ wsL_law := by decide +kernel
theorem iw_L_law_X2 : ∀ w ∈ wsX20, w ∈ wsL_law := by decide +kernel
theorem iw_L_law_X3 : ∀ w ∈ wsX30, w ∈ wsL_law := by decide +kernel
theorem iw_L_law_X4 : ∀ w ∈ wsX40, w ∈ wsL_law := by decide +kernel
theorem kI_law_X3 : XI wsL_law RL 65 yX3_init cX3_init 1 wsX3_init 0 := ⟨gL_law_X3_init, ⟨_, rfl⟩, ⟨by decide +kernel, by decide +kernel, by decide +kernel⟩, rfl, by decide, by decide, by decide +kernel⟩
theorem kI_law_X4 : XI wsL_law RL 68 yX4_init cX4_init 1 wsX4_init 0 := ⟨gL_law_X4_init, ⟨_, rfl⟩, ⟨by decide +kernel, by decide +kernel, by decide +kernel⟩, rfl, by decide, by decide, by decide +kernel⟩
theorem tb_cA : Cond.castable XIA XIA ∈ lw_tbl := by decide +kernel
theorem tb_cS : Cond.castable XIS XIS ∈ lw_tbl := by decide +kernel
theorem tb_cO : Cond.castable XIO XIO ∈ lw_tbl := by decide +kernel
theorem tb_d1 : Cond.declares (Bundle.initS "java/lang/RuntimeException") ∈ lw_tbl := by decide +kernel
theorem tb_d2 : Cond.declares (Bundle.initS "java/lang/Exception") ∈ lw_tbl := by decide +kernel
theorem tb_d3 : Cond.declares (Bundle.initS Bundle.tN) ∈ lw_tbl := by decide +kernel
theorem tb_str : ∀ q ∈ xstr, Cond.stringRef RX3 q.1 q.2 ∈ lw_tbl := by decide +kernel
theorem tb_ao : Cond.arrayOver (.object RX0) ∈ lw_tbl := by decide +kernel
theorem tb_n1 : Cond.methodLinkNest RX3 9 yX1_init "PageBail" ∈ lw_tbl := by decide +kernel
theorem tb_n2 : Cond.methodLinkNest RX3 18 yX2_init "PageBail" ∈ lw_tbl := by decide +kernel
theorem tb_l1 : Cond.laysStatic Bundle.tN "UNASSIGNED_STACK" Bundle.steD ∈ lw_tbl := by decide +kernel
theorem tb_l2 : Cond.laysStatic Bundle.tN "SUPPRESSED_SENTINEL" Bundle.listD ∈ lw_tbl := by decide +kernel
theorem tb_in : Cond.initialized Bundle.tN ∈ lw_tbl := by decide +kernel
theorem tf_nc : Cond.not (.castable XIS XIA) ∈ flatC (Jvm.Cond.and given_1 narrow_1) := by decide +kernel
theorem tf_s1 : Cond.isRef (.static Bundle.tN "UNASSIGNED_STACK" Bundle.steD) ∈ flatC (Jvm.Cond.and given_1 narrow_1) := by decide +kernel
theorem tf_s2 : Cond.isRef (.static Bundle.tN "SUPPRESSED_SENTINEL" Bundle.listD) ∈ flatC (Jvm.Cond.and given_1 narrow_1) := by decide +kernel
theorem tf_str : ∀ q ∈ xstr, Cond.exactly (.string RX3 q.1) "java/lang/String" ∈ flatC (Jvm.Cond.and given_1 narrow_1) := by decide +kernel
theorem ev_start {b : Nat} {s : State} (hts : ∀ w ∈ lw_tbl, w.before #[Value.ref b] s = true) (hgv : (Jvm.Cond.and given_1 narrow_1).before #[Value.ref b] s = true) : EV s := by
  have hs := flat_of_before _ hgv
  refine ⟨va_Nw.of rfl (hts _ tb_cA), va_Nw.of rfl (hts _ tb_cS), va_Nw.of rfl (hts _ tb_cO), va_Nc.of (hs _ tf_nc), ⟨va_Nw.of rfl (hts _ tb_d1), va_Nw.of rfl (hts _ tb_d2), va_Nw.of rfl (hts _ tb_d3)⟩, fun q hq => ?_⟩
  have h1 := hs _ (tf_str q hq)
  obtain ⟨a9, _, _, _, ha9, _⟩ := Cond.exactly_spec (show (Cond.exactly (.string RX3 q.1) "java/lang/String").holds #[Value.ref b] s none s [] = true from h1)
  exact ⟨a9, vk_R.of (A := #[Value.ref b]) (hts _ (tb_str q hq)) ha9⟩
set_option maxHeartbeats 4000000 in
set_option maxRecDepth 100000 in
/-- from the entry, for every script of at most 2048 ints, the law comes to its end with true -/
theorem whole_start {p : Program} {e : Env} {s : State} {m : MethodId} {below : List Frame} {meth : Method} {c : Code} (l : Launch) (hflags : l.flags = flags0) {b L : Nat} {xs : Nat → Int32} (hL : L ≤ 2048) (C0 : lw_At p s m meth c b L xs) : W p l e room_1 s m #[Value.ref b] below meth c s.heap [] 0 0 (lw_Z below #[Value.ref b] s) (entryFrame m ([Value.ref b] : List Value).toArray 7) := by
  obtain ⟨hx, hb, hr, hml, hown, hts, hXs, hbl, hlocks, hgv⟩ := id C0
  have hl9 : l.stackTraces = false := by unfold Launch.stackTraces; rw [hflags]; decide +kernel
  have hA : ∀ q : Nat, s.heap.size ≤ q → (fun q : Nat => s.heap.size ≤ q) q := fun _ h => h
  have hbA : ¬ (fun q : Nat => s.heap.size ≤ q) b := Nat.not_le.mpr hbl
  have hwl : ∀ w ∈ wsL_law, w.before #[Value.ref b] s = true := fun w h => hts w (wsL_law_in w h)
  obtain ⟨c0, i0, k0⟩ := u_known (C := RX0) (T := TX0) (N := 5) (n := 5) hwl iw_L_law_X0 (hwl (.instantiable RX0 5) (by decide +kernel))
  obtain ⟨c1, i1, k1⟩ := u_known (C := RX1) (T := TX1) (N := 2) (n := 2) hwl iw_L_law_X1 (hwl (.instantiable RX1 2) (by decide +kernel))
  obtain ⟨c2, i2, k2⟩ := u_known (C := RX2) (T := TX2) (N := 2) (n := 2) hwl iw_L_law_X2 (hwl (.instantiable RX2 2) (by decide +kernel))
  obtain ⟨c3, i3, k3⟩ := u_known (C := RX3) (T := TX3) (N := 7) (n := 7) hwl iw_L_law_X3 (hwl (.instantiable RX3 7) (by decide +kernel))
  obtain ⟨c4, i4, k4⟩ := u_known (C := RX4) (T := TX4) (N := 14) (n := 14) hwl iw_L_law_X4 (hwl (.instantiable RX4 14) (by decide +kernel))
  obtain ⟨dC, dI, hKc⟩ : ∃ (dC : Nat → ClassId) (dI : Nat → Nat → Nat), ∀ (k : Nat) (q : vw_C), vwCl[k]? = some q → u_Kn s q.1 q.2.1 q.2.2 (dC k) (dI k) := by
    refine ⟨fun k => if k = 0 then c0 else if k = 1 then c1 else if k = 2 then c2 else if k = 3 then c3 else c4, fun k => if k = 0 then i0 else if k = 1 then i1 else if k = 2 then i2 else if k = 3 then i3 else i4, ?_⟩
    intro k q hq
    match k, hq with
    | 0, hq => cases hq; exact k0
    | 1, hq => cases hq; exact k1
    | 2, hq => cases hq; exact k2
    | 3, hq => cases hq; exact k3
    | 4, hq => cases hq; exact k4
    | k + 5, hq => simp [vwCl] at hq
  obtain ⟨cI, kI, compI, aI1, aI2, aI3⟩ := Cond.arrayClass_spec (show (Cond.arrayClass .int).holds #[Value.ref b] s none s [] = true from hwl _ (by decide +kernel))
  obtain ⟨cJ, kJ, compJ, aJ1, aJ2, aJ3⟩ := Cond.arrayClass_spec (show (Cond.arrayClass .long).holds #[Value.ref b] s none s [] = true from hwl _ (by decide +kernel))
  obtain ⟨compR, cR, kR, aR1, _, aR2, aR3, aR4⟩ := Cond.arrayOver_spec (show (Cond.arrayOver (.object RX0)).holds #[Value.ref b] s none s [] = true from hts _ tb_ao)
  have hK : va_K (dC, dI) vwCl (ty3 (cI, cR, cJ)) s := by
    refine ⟨hKc, fun k q h => ?_⟩
    match k, h with
    | 0, h => cases h; exact ⟨fun n z => ⟨fun k h => (by cases h), kI, aI2, compI, aI3⟩, aI1⟩
    | 1, h => cases h; exact ⟨fun n z => ⟨fun k h => (by cases h), kR, aR2, compR, aR3⟩, kR, compR, aR2, aR3, aR1, aR4⟩
    | 2, h => cases h; exact ⟨fun n z => ⟨fun k h => (by cases h), kJ, aJ2, compJ, aJ3⟩, aJ1⟩
    | k + 3, h => simp [ty3] at h
  have X : XX p m c cL_law 7 s #[Value.ref b] wsL_law RL (dC, dI) (cI, cR, cJ) := ⟨⟨hx, hb, hml, hown, hwl⟩, hK⟩
  have hV : EV s := ev_start hts hgv
  have hfl := flat_of_before _ hgv
  have hnA : ∀ a : Nat, a < s.heap.size → ¬ (fun q : Nat => s.heap.size ≤ q) a := fun a h => Nat.not_le.mpr h
  have hZ : EZ (fun q : Nat => s.heap.size ≤ q) s s.heap := ⟨vx_Zqof (hts _ tb_l1) (hts _ tb_in) (hfl _ tf_s1) hnA, vx_Zqof (hts _ tb_l2) (hts _ tb_in) (hfl _ tf_s2) hnA⟩
  have hZI : ZI s := ⟨va_AO.of (A := #[Value.ref b]) (hts _ tb_ao), va_Nw.of rfl (hts _ tb_n1), va_Nw.of rfl (hts _ tb_n2)⟩
  have w : XW (dC, dI) (fun q : Nat => s.heap.size ≤ q) s.heap [] (fun _ => .inr (0, [])) s.heap [] := ⟨fun k q h => by simp [va_pl] at h, ⟨fun i j p q h => by simp [va_pl] at h, fun k q h => by simp [va_pl] at h⟩, va_S.rf⟩
  have hl := lv_entry ([.ref b]) (n := 7) (Nat.le_of_ble_eq_true rfl)
  rw [lg_entry_eq]
  generalize (lg_sl ([.ref b]) ++ List.replicate (7 - (lg_sl ([.ref b])).length) Slot.unset).toArray = ls at hl ⊢
  have hl : lv_has ls 7 [(0, .ref b)] := hl
  refine x_newO (C := RX3) (T := TX3) (N := 7) (ci := 3) (c1 := 1) (s1 := 7) X w hA iw_L_law_X3 tyX3_ok ⟨by decide +kernel, by decide +kernel, by decide +kernel⟩ rfl df_X3 ⟨Nat.le_of_ble_eq_true rfl, Nat.le_of_ble_eq_true rfl⟩ rfl rfl dL_law_0 (fun x H locs hn0 w => ?_)
  refine x_dup X rfl dL_law_3 ?_
  refine x_callIz (As := []) (rest := [.ref x]) (c1 := 6) (s1 := 175) (n := 0) X w hA zw_I hZI (c_X3_init l (dC, dI) (cI, cR, cJ) ([] ++ [x]) _ x (List.mem_append_right _ List.mem_cons_self) (va_up_self _ _ _)) kI_law_X3 ⟨Nat.le_of_ble_eq_true rfl, Nat.le_of_ble_eq_true rfl⟩ rfl hl rfl (Nat.le_of_ble_eq_true rfl) ⟨Nat.le_of_ble_eq_true rfl, Nat.le_of_ble_eq_true rfl⟩ rfl rfl dL_law_4 (fun v L1 f1 H locs w hp => ?_)
  obtain ⟨rfl, hsub1, hfr1, br, ba, pr, sz, lr, hC⟩ := hp
  show W p l e _ s m _ below meth c _ _ _ _ _ (F0 m 7 ls [.ref x])
  refine x_as_n (lv' := [(1, .ref x), (0, .ref b)]) X hl rfl (by decide) rfl dL_law_7 (fun ls hl => ?_)
  refine x_newO (C := RX4) (T := TX4) (N := 14) (ci := 4) (c1 := 7) (s1 := 189) X w hA iw_L_law_X4 tyX4_ok ⟨by decide +kernel, by decide +kernel, by decide +kernel⟩ rfl df_X4 ⟨Nat.le_of_ble_eq_true rfl, Nat.le_of_ble_eq_true rfl⟩ rfl rfl dL_law_8 (fun mo H locs hn1 w => ?_)
  refine x_dup X rfl dL_law_11 ?_
  refine x_callIz (As := []) (rest := [.ref mo]) (c1 := 14) (s1 := 673) (n := 0) X w hA (Z := fun _ => True) (fun _ _ _ h => h) trivial (c_X4_init l (dC, dI) (cI, cR, cJ) (L1 ++ [mo]) _ mo (List.mem_append_right _ List.mem_cons_self) (va_up_self _ _ _)) kI_law_X4 ⟨Nat.le_of_ble_eq_true rfl, Nat.le_of_ble_eq_true rfl⟩ rfl hl rfl (Nat.le_of_ble_eq_true rfl) ⟨Nat.le_of_ble_eq_true rfl, Nat.le_of_ble_eq_true rfl⟩ rfl rfl dL_law_12 (fun v L2 f2 H locs w hp => ?_)
  obtain ⟨rfl, hsub2, hfr2, B, hX, hBx, hBn⟩ := hp
  show W p l e _ s m _ below meth c _ _ _ _ _ (F0 m 15 ls [.ref mo])
  have hne : ∀ a, a ∈ L1 → a ≠ mo := fun a h he => hn1 (by rw [← he]; exact h)
  have hC2 := hC.ext (L2 := L2) (f1 := f2) (fun a h => hsub2 a (List.mem_append_left _ h)) (fun a h => (hfr2 a (List.mem_append_left _ h) (hne a h)).trans (va_up_ne _ _ (hne a h)))
  have hB : HB B sz lr := fun k => ⟨hBx k, fun he => hBn k (by rw [he]; exact List.mem_append_left _ hC.pp.ms), fun he => hBn k (by rw [he]; exact List.mem_append_left _ hC.ml)⟩
  refine x_as_n (lv' := [(2, .ref mo), (1, .ref x), (0, .ref b)]) X hl rfl (by decide) rfl dL_law_15 (fun ls hl => ?_)
  refine x_iconst X dL_law_16 ?_
  refine x_newJ (N := 1) (c1 := 15) (s1 := 674) X w hA (by decide +kernel) (by decide) ⟨Nat.le_of_ble_eq_true rfl, Nat.le_of_ble_eq_true rfl⟩ rfl rfl dL_law_17 (fun ou H locs hn2 w => ?_)
  have hne2 : ∀ a, a ∈ L2 → a ≠ ou := fun a h he => hn2 (by rw [← he]; exact h)
  have hC3 := hC2.ext (L2 := L2 ++ [ou]) (f1 := va_up f2 ou (.inl (cJ, 1, .inr (.inl (fun _ => 0))))) (fun a h => List.mem_append_left _ h) (fun a h => va_up_ne _ _ (hne2 a h))
  have hX3 := hX.ext (L2 := L2 ++ [ou]) (f1 := va_up f2 ou (.inl (cJ, 1, .inr (.inl (fun _ => 0))))) (fun a h => List.mem_append_left _ h) (fun a h => va_up_ne _ _ (hne2 a h))
  refine x_as_n (lv' := [(3, .ref ou), (2, .ref mo), (1, .ref x), (0, .ref b)]) X hl rfl (by decide) rfl dL_law_19 (fun ls hl => ?_)
  refine x_iconst X dL_law_20 ?_
  refine x_is (lv' := [(4, .int (iI 0)), (3, .ref ou), (2, .ref mo), (1, .ref x), (0, .ref b)]) X hl (by decide) rfl dL_law_21 (fun ls hl => ?_)
  exact law_loop X hr hlocks hl9 hV hZ hXs hbl hL (L + 1) 0 sg0 _ _ _ _ 15 674 ls (by omega) (by omega) (by omega) ⟨hC3, ⟨0, hX3⟩, Inv.z, hB, List.mem_append_right _ List.mem_cons_self, _, va_up_self _ _ _⟩ w hl
