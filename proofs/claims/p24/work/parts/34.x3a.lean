/-! the class's methods -/
def FT (f0 f1 : Nat → va_E) (x br ba pr sz : Nat) : Prop := ∀ a, a ≠ x → a ≠ br → a ≠ ba → a ≠ pr → a ≠ sz → f1 a = f0 a
section FTS
variable {cs : ClassId × ClassId × ClassId} {L : List Nat} {f0 f f1 : Nat → va_E} {x br ba pr sz lr : Nat} {n : Int} {R : Rc} {k : Int} {z : Int → Int} {td kp pb sw : Int} {w : Int → Int}
theorem FT.rf (f : Nat → va_E) (x br ba pr sz : Nat) : FT f f x br ba pr sz := fun _ _ _ _ _ _ => rfl
theorem FT.xx {e : va_E} (h : FT f0 f x br ba pr sz) : FT f0 (va_up f x e) x br ba pr sz := fun a a1 a2 a3 a4 a5 => (va_up_ne f e a1).trans (h a a1 a2 a3 a4 a5)
theorem FT.p (h : FT f0 f x br ba pr sz) (g : FR f f1 pr sz) : FT f0 f1 x br ba pr sz := fun a a1 a2 a3 a4 a5 => (g a a4 a5).trans (h a a1 a2 a3 a4 a5)
theorem FT.b (h : FT f0 f x br ba pr sz) (g : FR f f1 br ba) : FT f0 f1 x br ba pr sz := fun a a1 a2 a3 a4 a5 => (g a a2 a3).trans (h a a1 a2 a3 a4 a5)
theorem FT.tr (h : FT f0 f x br ba pr sz) (g : FT f f1 x br ba pr sz) : FT f0 f1 x br ba pr sz := fun a a1 a2 a3 a4 a5 => (g a a1 a2 a3 a4 a5).trans (h a a1 a2 a3 a4 a5)
theorem FC.t (h : FC L f0 f x br ba pr sz lr) (g : FT f f1 x br ba pr sz) : FC L f0 f1 x br ba pr sz lr := fun a m a1 a2 a3 a4 a5 a6 a7 => (g a a1 a2 a3 a4 a5).trans (h a m a1 a2 a3 a4 a5 a6 a7)
theorem FT.bail {a : Nat} {g : Nat → Int} (h : CX cs L f x br ba pr sz lr n R k z td kp pb sw w) (hg : FT f f1 x br ba pr sz) (hf : f a = bR g) : f1 a = bR g := by
  obtain ⟨r, hr⟩ := h.fa
  obtain ⟨zz, hzz⟩ := h.pp.fs
  exact (hg a (bR_ne (by decide) hf h.fx) (bR_ne (by decide) hf h.fb) (bR_nl hf hr) (bR_ne (by decide) hf h.pp.fp) (bR_nl hf hzz)).trans hf
end FTS
theorem oLoop_t {P : (Nat → Int) → Bool} {b : Bool} {m : Nat} {p : Int} {σ : Sg} (h : P (gR σ p) = true) : oLoop P b (m + 1) p σ = ((oLoop P b m p (oTake p (oAdd b (gR σ p 1) σ))).1 + 1, (oLoop P b m p (oTake p (oAdd b (gR σ p 1) σ))).2) := if_pos h
theorem oLoop_f {P : (Nat → Int) → Bool} {b : Bool} {m : Nat} {p : Int} {σ : Sg} (h : P (gR σ p) = false) : oLoop P b (m + 1) p σ = oLoop P b m (p + 1) σ := if_neg (by rw [h]; decide)
theorem oSteps_n {m : Nat} {σ : Sg} (h : gS σ ≠ -1) : oSteps (m + 1) σ = ((oSw σ).1 + (oSteps m (oSw σ).2).1, (oSteps m (oSw σ).2).2) := if_neg h
theorem oSteps_0 {m : Nat} {σ : Sg} (h : gS σ = -1) : oSteps m σ = (0, σ) := by
  cases m with
  | zero => rfl
  | succ m => exact if_pos h
theorem pp1_m (p : Int) : (if p - 1 < 0 then 0 else p - 1) = pp1 p := by
  unfold pp1
  by_cases h9 : 1 ≤ p
  · rw [if_neg (by omega), if_pos h9]
  · rw [if_neg h9]
    by_cases h8 : p - 1 < 0
    · rw [if_pos h8]
    · rw [if_neg h8]; omega
theorem pp1_b {p n : Int} (h : 0 ≤ p ∧ p ≤ n) : 0 ≤ pp1 p ∧ pp1 p ≤ n := by
  unfold pp1
  by_cases h9 : 1 ≤ p
  · rw [if_pos h9]; omega
  · rw [if_neg h9]; omega

set_option maxHeartbeats 4000000 in
set_option maxRecDepth 100000 in
theorem c_X3_isIn (l : Launch) (D : va_G) (cs : ClassId × ClassId × ClassId) (L : List Nat) (f0 : Nat → va_E) (v lo hi : Int) (hrg : (-2147483648 ≤ v ∧ v < 2147483648) ∧ (-2147483648 ≤ lo ∧ lo < 2147483648) ∧ -2147483648 ≤ hi ∧ hi < 2147483648) : C0 l yX3_isIn wsX3_isIn ({ frames := 1, cells := 0, slots := 0, locals := 12 } : Room) D cs [.int (iI v), .int (iI lo), .int (iI hi)] L f0 (fun u L1 f1 => L = L1 ∧ f0 = f1 ∧ ((u = some (.int (iI 1)) ∧ lo ≤ v ∧ v ≤ hi) ∨ (u = some (.int (iI 0)) ∧ ¬ (lo ≤ v ∧ v ≤ hi)))) := by
  refine C0.of (cc := cX3_isIn) (maxL := 3) (ret := (some .boolean)) (by decide) rfl (Nat.le_of_ble_eq_true rfl) ?_
  intro p e s m below meth c X hr hlk hin A hA w ls hl
  have hl : lv_has ls 3 [(0, .int (iI v)), (1, .int (iI lo)), (2, .int (iI hi))] := hl
  refine x_il_n X hl 0 rfl rfl dX3_isIn_0 ?_
  refine x_il_n X hl 1 rfl rfl dX3_isIn_1 ?_
  refine x_icmp_lt (tgt := 14) X (by omega) (by decide) dX3_isIn_2 (fun hb2 => ?_) (fun hb2 => ?_)
  · refine x_iconst X dX3_isIn_14 ?_
    refine x_zret X w hr hlk ⟨by decide, by decide⟩ (by omega) dX3_isIn_15 ?_
    exact ⟨rfl, rfl, Or.inr ⟨rfl, by omega⟩⟩
  · refine x_il_n X hl 0 rfl rfl dX3_isIn_5 ?_
    refine x_il_n X hl 2 rfl rfl dX3_isIn_6 ?_
    refine x_icmp_gt (tgt := 14) X (by omega) (by decide) dX3_isIn_7 (fun hb7 => ?_) (fun hb7 => ?_)
    · refine x_iconst X dX3_isIn_14 ?_
      refine x_zret X w hr hlk ⟨by decide, by decide⟩ (by omega) dX3_isIn_15 ?_
      exact ⟨rfl, rfl, Or.inr ⟨rfl, by omega⟩⟩
    · refine x_iconst X dX3_isIn_10 ?_
      refine x_goto (tgt := 15) X (by decide) dX3_isIn_11 ?_
      refine x_zret X w hr hlk ⟨by decide, by decide⟩ (by omega) dX3_isIn_15 ?_
      exact ⟨rfl, rfl, Or.inl ⟨rfl, by omega⟩⟩

theorem k_X3_requireCase_X3_isIn : XS wsX3_requireCase RX3 35 yX3_isIn cX3_isIn 3 (some .boolean) wsX3_isIn 3 := ⟨gX3_requireCase_X3_isIn, ⟨_, rfl⟩, by decide, by decide, by decide +kernel⟩
theorem xt_X3_requireCase_166 : XT wsX3_requireCase RX3 39 166 43 XIA "case out of range" := ⟨by decide +kernel, by decide +kernel, by decide +kernel, by decide, xt_g43.1, xt_g43.2, by decide, rfl⟩
set_option maxHeartbeats 4000000 in
set_option maxRecDepth 100000 in
theorem c_X3_requireCase (l : Launch) (D : va_G) (cs : ClassId × ClassId × ClassId) (hl9 : l.stackTraces = false) (L : List Nat) (f0 : Nat → va_E) (nu : Int) (hrg : -2147483648 ≤ nu ∧ nu < 2147483648) : C1 l yX3_requireCase wsX3_requireCase ({ frames := 6, cells := 1, slots := 6, locals := 90 } : Room) D cs [.int (iI nu)] L f0 (fun v L1 f1 => v = none ∧ L = L1 ∧ f0 = f1 ∧ 0 ≤ nu ∧ nu ≤ 999) (fun E => ¬ (0 ≤ nu ∧ nu ≤ 999) ∧ E = XIA) := by
  refine C1.of (cc := cX3_requireCase) (maxL := 1) (ret := none) (by decide) rfl (Nat.le_of_ble_eq_true rfl) ?_
  intro p e s m below meth c X hr hlk hout hV A hA hZ w ls hl
  have hl : lv_has ls 1 [(0, .int (iI nu))] := hl
  refine x_il_n X hl 0 rfl rfl dX3_requireCase_0 ?_
  refine x_iconst X dX3_requireCase_1 ?_
  refine x_sipush X (by decide) dX3_requireCase_2 ?_
  refine x_callS (As := [.int (iI nu), .int (iI 0), .int (iI 999)]) (rest := []) (c1 := 0) (s1 := 0) X w hA (c_X3_isIn l D cs L f0 nu 0 999 (by omega)) k_X3_requireCase_X3_isIn (by decide) rfl hl rfl (Nat.le_of_ble_eq_true rfl) (by decide) rfl rfl dX3_requireCase_5 (fun v L1 f1 H locs w hp => ?_)
  obtain ⟨rfl, rfl, hp⟩ := hp
  rcases hp with ⟨rfl, hq5⟩ | ⟨rfl, hq5⟩
  · show W p l e _ s m _ below meth c _ _ _ _ _ (F0 m 8 ls [.int (iI 1)])
    refine x_ifT_ne (tgt := 21) X (by decide) (by decide) (by decide) dX3_requireCase_8 ?_
    refine vx_ret ?_
    refine x_vret X w hr hlk ⟨by decide, by decide⟩ dX3_requireCase_21 ?_
    exact ⟨rfl, rfl, rfl, by omega⟩
  · show W p l e _ s m _ below meth c _ _ _ _ _ (F0 m 8 ls [.int (iI 0)])
    refine x_ifF_ne (tgt := 21) X (by decide) (by decide) (by decide) dX3_requireCase_8 ?_
    refine x_throw X w hl9 hV hZ hlk hout hl xt_X3_requireCase_166 dX3_requireCase_11 dX3_requireCase_14 dX3_requireCase_15 dX3_requireCase_17 dX3_requireCase_20 ⟨by decide, (Nat.le_of_ble_eq_true rfl), by decide, by decide⟩ ⟨by decide, by decide⟩ ?_
    exact ⟨by omega, rfl⟩

theorem iw_X3_pageToPutOn_X3 : ∀ w ∈ wsX30, w ∈ wsX3_pageToPutOn := by decide +kernel
theorem fq_X3_pageToPutOn_19 : XF wsX3_pageToPutOn RX3 19 3 1 := ⟨RX3, TX3, 7, iw_X3_pageToPutOn_X3, rfl, by decide, by decide +kernel⟩
theorem k_X3_pageToPutOn_X2_pageWith : XV wsX3_pageToPutOn RX3 152 RX2 yX2_pageWith cX2_pageWith 4 (some .int) wsX2_pageWith 1 := ⟨gX3_pageToPutOn_X2_pageWith, ⟨_, rfl⟩, rfl, by decide, by decide, by decide +kernel⟩
set_option maxHeartbeats 4000000 in
set_option maxRecDepth 100000 in
theorem c_X3_pageToPutOn (l : Launch) (D : va_G) (cs : ClassId × ClassId × ClassId) (L : List Nat) (f0 : Nat → va_E) (x br ba pr sz lr : Nat) (k : Int) (z : Int → Int) (td kp pb sw pl : Int) (hmx : x ∈ L) (hfx : f0 x = .inr (3, [.ref br, .ref pr, .ref lr, .int (iI td), .int (iI kp), .int (iI pb), .int (iI sw)])) (hPP : PP cs L f0 pr sz k z) (hpl : (0 ≤ k ∧ k ≤ 80) ∧ 0 ≤ pl ∧ pl ≤ 1000) (hz4 : ∀ j, 0 ≤ j → j < k → 0 ≤ z j ∧ z j ≤ 4) : C0 l yX3_pageToPutOn wsX3_pageToPutOn ({ frames := 4, cells := 0, slots := 0, locals := 77 } : Room) D cs [.ref x, .int (iI pl)] L f0 (fun v L1 f1 => L = L1 ∧ f0 = f1 ∧ v = some (.int (iI (pw z k (pp1 pl))))) := by
  refine C0.of (cc := cX3_pageToPutOn) (maxL := 2) (ret := (some .int)) (by decide) rfl (Nat.le_of_ble_eq_true rfl) ?_
  intro p e s m below meth c X hr hlk hin A hA w ls hl
  have hl : lv_has ls 2 [(0, .ref x), (1, .int (iI pl))] := hl
  refine x_al_n X hl 0 rfl rfl dX3_pageToPutOn_0 ?_
  refine x_get X w hmx hfx fq_X3_pageToPutOn_19 rfl dX3_pageToPutOn_1 ?_
  refine x_il_n X hl 1 rfl rfl dX3_pageToPutOn_4 ?_
  refine x_iconst X dX3_pageToPutOn_5 ?_
  refine x_isub X dX3_pageToPutOn_6 ?_
  refine x_iconst X dX3_pageToPutOn_7 ?_
  refine x_max X hl (by omega) ⟨by decide +kernel, by decide +kernel, by decide +kernel, by decide +kernel⟩ ⟨by decide, (Nat.le_of_ble_eq_true rfl), by decide, by decide⟩ dX3_pageToPutOn_8 ?_
  rw [show (if pl - 1 < 0 then 0 else pl - 1) = pp1 pl from pp1_m pl]
  have hpp := pp1_b (n := 1000) hpl.2
  refine x_callV (As := [.int (iI (pp1 pl))]) (rest := []) (c1 := 0) (s1 := 0) X w hA (c_X2_pageWith l D cs L f0 pr sz k z (pp1 pl) hPP (by omega) hz4) k_X3_pageToPutOn_X2_pageWith (by decide) hPP.mp hPP.fp rfl rfl rfl hl rfl (Nat.le_of_ble_eq_true rfl) (by decide) rfl rfl dX3_pageToPutOn_11 (fun v L1 f1 H locs w hp => ?_)
  obtain ⟨rfl, rfl, hp⟩ := hp
  subst hp
  show W p l e _ s m _ below meth c _ _ _ _ _ (F0 m 14 ls [.int (iI (pw z k (pp1 pl)))])
  refine x_iret X w hr hlk ⟨by decide, by decide⟩ dX3_pageToPutOn_14 ?_
  exact ⟨rfl, rfl, rfl⟩

theorem iw_X3_takeOut_X3 : ∀ w ∈ wsX30, w ∈ wsX3_takeOut := by decide +kernel
theorem fq_X3_takeOut_19 : XF wsX3_takeOut RX3 19 3 1 := ⟨RX3, TX3, 7, iw_X3_takeOut_X3, rfl, by decide, by decide +kernel⟩
theorem k_X3_takeOut_X2_pageWith : XV wsX3_takeOut RX3 152 RX2 yX2_pageWith cX2_pageWith 4 (some .int) wsX2_pageWith 1 := ⟨gX3_takeOut_X2_pageWith, ⟨_, rfl⟩, rfl, by decide, by decide, by decide +kernel⟩
theorem k_X3_takeOut_X2_takeFrom : XV wsX3_takeOut RX3 174 RX2 yX2_takeFrom cX2_takeFrom 2 none wsX2_takeFrom 1 := ⟨gX3_takeOut_X2_takeFrom, ⟨_, rfl⟩, rfl, by decide, by decide, by decide +kernel⟩
theorem fq_X3_takeOut_10 : XF wsX3_takeOut RX3 10 3 0 := ⟨RX3, TX3, 7, iw_X3_takeOut_X3, rfl, by decide, by decide +kernel⟩
theorem k_X3_takeOut_X1_remove : XV wsX3_takeOut RX3 177 RX1 yX1_remove cX1_remove 3 none wsX1_remove 1 := ⟨gX3_takeOut_X1_remove, ⟨_, rfl⟩, rfl, by decide, by decide, by decide +kernel⟩
theorem fq_X3_takeOut_27 : XF wsX3_takeOut RX3 27 3 6 := ⟨RX3, TX3, 7, iw_X3_takeOut_X3, rfl, by decide, by decide +kernel⟩
theorem k_X3_takeOut_X2_count : XV wsX3_takeOut RX3 87 RX2 yX2_count cX2_count 1 (some .int) wsX2_count 0 := ⟨gX3_takeOut_X2_count, ⟨_, rfl⟩, rfl, by decide, by decide, by decide +kernel⟩
theorem fp_X3_takeOut_27 : XGn wsX3_takeOut RX3 27 3 6 (tyX3 6) := ⟨RX3, TX3, 7, tyX3, iw_X3_takeOut_X3, rfl, by decide, by decide +kernel, tyX3_ok, nmX3, rfl, by decide +kernel⟩
set_option maxHeartbeats 4000000 in
set_option maxRecDepth 100000 in
theorem c_X3_takeOut (l : Launch) (D : va_G) (cs : ClassId × ClassId × ClassId) (L : List Nat) (f0 : Nat → va_E) (x br ba pr sz lr : Nat) (σ : Sg) (pl : Int) (hC : CC cs L f0 x br ba pr sz lr σ) (hI : Inv σ) (hpl : 0 ≤ pl ∧ pl < gN σ) : C0 l yX3_takeOut wsX3_takeOut ({ frames := 6, cells := 0, slots := 0, locals := 119 } : Room) D cs [.ref x, .int (iI pl)] L f0 (fun v L1 f1 => v = none ∧ L = L1 ∧ FT f0 f1 x br ba pr sz ∧ CC cs L1 f1 x br ba pr sz lr (oTake pl σ)) := by
  refine C0.of (cc := cX3_takeOut) (maxL := 2) (ret := none) (by decide) rfl (Nat.le_of_ble_eq_true rfl) ?_
  intro p e s m below meth c X hr hlk hin A hA w ls hl
  have hl : lv_has ls 2 [(0, .ref x), (1, .int (iI pl))] := hl
  have hn := hI.n; have hk := hI.k; have ht := hI.t; have hsw := hI.s; have hz4 := hI.z4
  have hF : FT f0 f0 x br ba pr sz := FT.rf _ _ _ _ _ _
  have hpg := hI.pgr hpl
  have htk := (tk_ok hI.z1 hpg).1
  refine x_al_n X hl 0 rfl rfl dX3_takeOut_0 ?_
  refine x_get X w hC.mx hC.fx fq_X3_takeOut_19 rfl dX3_takeOut_1 ?_
  refine x_al_n X hl 0 rfl rfl dX3_takeOut_4 ?_
  refine x_get X w hC.mx hC.fx fq_X3_takeOut_19 rfl dX3_takeOut_5 ?_
  refine x_il_n X hl 1 rfl rfl dX3_takeOut_8 ?_
  refine x_callV (As := [.int (iI pl)]) (rest := [.ref pr]) (c1 := 0) (s1 := 0) X w hA (c_X2_pageWith l D cs L f0 pr sz (gK σ) (gZ σ) pl hC.pp (by omega) hz4) k_X3_takeOut_X2_pageWith (by decide) hC.pp.mp hC.pp.fp rfl rfl rfl hl rfl (Nat.le_of_ble_eq_true rfl) (by decide) rfl rfl dX3_takeOut_9 (fun v L1 f1 H locs w hp => ?_)
  obtain ⟨rfl, rfl, hp⟩ := hp
  subst hp
  show W p l e _ s m _ below meth c _ _ _ _ _ (F0 m 12 ls [.int (iI (pw (gZ σ) (gK σ) pl)), .ref pr])
  refine x_callV (As := [.int (iI (pw (gZ σ) (gK σ) pl))]) (rest := []) (c1 := 0) (s1 := 0) X w hA (c_X2_takeFrom l D cs L f0 pr sz (gK σ) (gZ σ) (pw (gZ σ) (gK σ) pl) hC.pp (by omega) hz4) k_X3_takeOut_X2_takeFrom (by decide) hC.pp.mp hC.pp.fp rfl rfl rfl hl rfl (Nat.le_of_ble_eq_true rfl) (by decide) rfl rfl dX3_takeOut_12 (fun v L1 f1 H locs w hp => ?_)
  obtain ⟨rfl, rfl, hfr, hPP⟩ := hp
  have hC := hC.p hPP hfr
  have hF := hF.p hfr
  show W p l e _ s m _ below meth c _ _ _ _ _ (F0 m 15 ls [])
  refine x_al_n X hl 0 rfl rfl dX3_takeOut_15 ?_
  refine x_get X w hC.mx hC.fx fq_X3_takeOut_10 rfl dX3_takeOut_16 ?_
  refine x_il_n X hl 1 rfl rfl dX3_takeOut_19 ?_
  obtain ⟨r20, hRB, hO⟩ := hC.rb
  refine x_callV (As := [.int (iI pl)]) (rest := []) (c1 := 0) (s1 := 0) X w hA (c_X1_remove l D cs L f1 br ba (gN σ) r20 (gR σ) pl hRB hO (by omega)) k_X3_takeOut_X1_remove (by decide) hC.mb hC.fb rfl rfl rfl hl rfl (Nat.le_of_ble_eq_true rfl) (by decide) rfl rfl dX3_takeOut_20 (fun v L1 f1 H locs w hp => ?_)
  obtain ⟨rfl, rfl, hfr, r1, hRB, hO⟩ := hp
  have hC := hC.b hRB hO hfr
  have hF := hF.b hfr
  show W p l e _ s m _ below meth c _ _ _ _ _ (F0 m 23 ls [])
  refine x_al_n X hl 0 rfl rfl dX3_takeOut_23 ?_
  refine x_get X w hC.mx hC.fx fq_X3_takeOut_27 rfl dX3_takeOut_24 ?_
  refine x_al_n X hl 0 rfl rfl dX3_takeOut_27 ?_
  refine x_get X w hC.mx hC.fx fq_X3_takeOut_19 rfl dX3_takeOut_28 ?_
  refine x_callV (As := []) (rest := [.int (iI (gS σ))]) (c1 := 0) (s1 := 0) X w hA (c_X2_count l D cs L f1 pr sz (tkK (gZ σ) (gK σ) (pw (gZ σ) (gK σ) pl)) (tkZ (gZ σ) (gK σ) (pw (gZ σ) (gK σ) pl))  hC.pp) k_X3_takeOut_X2_count (by decide) hC.pp.mp hC.pp.fp rfl rfl rfl hl rfl (Nat.le_of_ble_eq_true rfl) (by decide) rfl rfl dX3_takeOut_31 (fun v L1 f1 H locs w hp => ?_)
  obtain ⟨rfl, rfl, hp⟩ := hp
  subst hp
  show W p l e _ s m _ below meth c _ _ _ _ _ (F0 m 34 ls [.int (iI (tkK (gZ σ) (gK σ) (pw (gZ σ) (gK σ) pl))), .int (iI (gS σ))])
  refine x_icmp_lt (tgt := 42) X (by omega) (by decide) dX3_takeOut_34 (fun hb34 => ?_) (fun hb34 => ?_)
  · refine x_vret X w hr hlk ⟨by decide, by decide⟩ dX3_takeOut_42 ?_
    refine ⟨rfl, rfl, hF, ?_⟩
    have he9 : gS (oTake pl σ) = gS σ := if_neg (by omega)
    show CX cs L _ x br ba pr sz lr _ _ _ _ _ _ _ (gS (oTake pl σ)) _
    rw [he9]; exact hC
  · refine x_al_n X hl 0 rfl rfl dX3_takeOut_37 ?_
    refine x_iconst X dX3_takeOut_38 ?_
    refine x_put X w hC.mx hC.fx fp_X3_takeOut_27 rfl rfl (Nat.le_of_ble_eq_true rfl) rfl dX3_takeOut_39 (fun H locs w => ?_)
    obtain ⟨f42, w, hC, hF⟩ : ∃ f9, XW D A s.heap L f9 H locs ∧ CX cs L f9 x br ba pr sz lr (gN σ - 1) (del (gR σ) pl) (tkK (gZ σ) (gK σ) (pw (gZ σ) (gK σ) pl)) (tkZ (gZ σ) (gK σ) (pw (gZ σ) (gK σ) pl)) (gT σ) (gP σ) (gB σ) (-1) (gW σ) ∧ FT f0 f9 x br ba pr sz := ⟨_, w, hC.fld _ _ _ _, hF.xx⟩
    refine x_vret X w hr hlk ⟨by decide, by decide⟩ dX3_takeOut_42 ?_
    refine ⟨rfl, rfl, hF, ?_⟩
    have he9 : gS (oTake pl σ) = -1 := if_pos (by omega)
    show CX cs L _ x br ba pr sz lr _ _ _ _ _ _ _ (gS (oTake pl σ)) _
    rw [he9]; exact hC

theorem iw_X3_keepOverdue_X3 : ∀ w ∈ wsX30, w ∈ wsX3_keepOverdue := by decide +kernel
theorem fq_X3_keepOverdue_10 : XF wsX3_keepOverdue RX3 10 3 0 := ⟨RX3, TX3, 7, iw_X3_keepOverdue_X3, rfl, by decide, by decide +kernel⟩
theorem k_X3_keepOverdue_X1_count : XV wsX3_keepOverdue RX3 50 RX1 yX1_count cX1_count 1 (some .int) wsX1_count 0 := ⟨gX3_keepOverdue_X1_count, ⟨_, rfl⟩, rfl, by decide, by decide, by decide +kernel⟩
theorem k_X3_keepOverdue_X1_bailAt : XV wsX3_keepOverdue RX3 113 RX1 yX1_bailAt cX1_bailAt 2 (some (.object "PageBail$Bail")) wsX1_bailAt 1 := ⟨gX3_keepOverdue_X1_bailAt, ⟨_, rfl⟩, rfl, by decide, by decide, by decide +kernel⟩
theorem fq_X3_keepOverdue_77 : XF wsX3_keepOverdue RX3 77 3 3 := ⟨RX3, TX3, 7, iw_X3_keepOverdue_X3, rfl, by decide, by decide +kernel⟩
theorem k_X3_keepOverdue_X0_isOverdue : XV wsX3_keepOverdue RX3 180 RX0 yX0_isOverdue cX0_isOverdue 2 (some .boolean) wsX0_isOverdue 1 := ⟨gX3_keepOverdue_X0_isOverdue, ⟨_, rfl⟩, rfl, by decide, by decide, by decide +kernel⟩
theorem fq_X3_keepOverdue_125 : XF wsX3_keepOverdue RX3 125 3 4 := ⟨RX3, TX3, 7, iw_X3_keepOverdue_X3, rfl, by decide, by decide +kernel⟩
theorem iw_X3_keepOverdue_X0 : ∀ w ∈ wsX00, w ∈ wsX3_keepOverdue := by decide +kernel
theorem fq_X3_keepOverdue_97 : XF wsX3_keepOverdue RX3 97 0 1 := ⟨RX0, TX0, 5, iw_X3_keepOverdue_X0, rfl, by decide, by decide +kernel⟩
theorem fp_X3_keepOverdue_125 : XGn wsX3_keepOverdue RX3 125 3 4 (tyX3 4) := ⟨RX3, TX3, 7, tyX3, iw_X3_keepOverdue_X3, rfl, by decide, by decide +kernel, tyX3_ok, nmX3, rfl, by decide +kernel⟩
theorem k_X3_keepOverdue_X3_takeOut : XV wsX3_keepOverdue RX3 103 RX3 yX3_takeOut cX3_takeOut 2 none wsX3_takeOut 1 := ⟨gX3_keepOverdue_X3_takeOut, ⟨_, rfl⟩, rfl, by decide, by decide, by decide +kernel⟩
set_option maxHeartbeats 4000000 in
set_option maxRecDepth 100000 in
theorem c_X3_keepOverdue (l : Launch) (D : va_G) (cs : ClassId × ClassId × ClassId) (L : List Nat) (f0 : Nat → va_E) (x br ba pr sz lr : Nat) (σ : Sg) (hC : CC cs L f0 x br ba pr sz lr σ) (hI : Inv σ) : C0 l yX3_keepOverdue wsX3_keepOverdue ({ frames := 7, cells := 0, slots := 0, locals := 140 } : Room) D cs [.ref x] L f0 (fun v L1 f1 => v = some (.int (iI (oOv σ).1)) ∧ L = L1 ∧ FT f0 f1 x br ba pr sz ∧ CC cs L1 f1 x br ba pr sz lr (oOv σ).2) := by
  refine C0.of (cc := cX3_keepOverdue) (maxL := 5) (ret := (some .int)) (by decide) rfl (Nat.le_of_ble_eq_true rfl) ?_
  intro p e s m below meth c X hr hlk hin A hA w ls hl
  have hl : lv_has ls 5 [(0, .ref x)] := hl
  have hn := hI.n; have hk := hI.k; have ht := hI.t; have hsw := hI.s; have hz4 := hI.z4
  have hF : FT f0 f0 x br ba pr sz := FT.rf _ _ _ _ _ _
  refine x_iconst X dX3_keepOverdue_0 ?_
  refine x_is_n (lv' := [(1, .int (iI 0)), (0, .ref x)]) X hl rfl (by decide) rfl dX3_keepOverdue_1 (fun ls hl => ?_)
  refine x_iconst X dX3_keepOverdue_2 ?_
  refine x_is_n (lv' := [(2, .int (iI 0)), (1, .int (iI 0)), (0, .ref x)]) X hl rfl (by decide) rfl dX3_keepOverdue_3 (fun ls hl => ?_)
  refine x_al_n X hl 2 rfl rfl dX3_keepOverdue_4 ?_
  refine x_get X w hC.mx hC.fx fq_X3_keepOverdue_10 rfl dX3_keepOverdue_5 ?_
  obtain ⟨r8, hRB, hO⟩ := hC.rb
  refine x_callV (As := []) (rest := []) (c1 := 0) (s1 := 0) X w hA (c_X1_count l D cs L f0 br ba (gN σ) r8 (gR σ)  hRB hO) k_X3_keepOverdue_X1_count (by decide) hC.mb hC.fb rfl rfl rfl hl rfl (Nat.le_of_ble_eq_true rfl) (by decide) rfl rfl dX3_keepOverdue_8 (fun v L1 f1 H locs w hp => ?_)
  obtain ⟨rfl, rfl, hp⟩ := hp
  subst hp
  show W p l e _ s m _ below meth c _ _ _ _ _ (F0 m 11 ls [.int (iI (gN σ))])
  refine x_is_n (lv' := [(3, .int (iI (gN σ))), (2, .int (iI 0)), (1, .int (iI 0)), (0, .ref x)]) X hl rfl (by decide) rfl dX3_keepOverdue_11 (fun ls hl => ?_)
  have loop12 : ∀ (N9 : Nat) (σ2 : Sg) (f1 : Nat → va_E) (pl : Int) (tk : Int) (mm : Nat) (H : Heap) (locs : List Loc) (ls : Array Slot), mm < N9 → (Inv σ2) → (CC cs L f1 x br ba pr sz lr σ2) → (FT f0 f1 x br ba pr sz) → (0 ≤ pl ∧ pl + (mm : Int) = gN σ2) → (gT σ2 = gT σ) → (tk + (oLoop (ovP (gT σ)) true mm pl σ2).1 = (oOv σ).1) → ((oLoop (ovP (gT σ)) true mm pl σ2).2 = (oOv σ).2) → XW D A s.heap L f1 H locs → lv_has ls 5 [(0, .ref x), (1, .int (iI tk)), (2, .int (iI pl)), (3, .int (iI (mm : Int)))] → W p l e ({ frames := 7, cells := 0, slots := 0, locals := 140 } : Room) s m ([.ref x] : List Value).toArray below meth c H locs 0 0 (MQ below (CQ D cs A (fun v L1 f1 => v = some (.int (iI (oOv σ).1)) ∧ L = L1 ∧ FT f0 f1 x br ba pr sz ∧ CC cs L1 f1 x br ba pr sz lr (oOv σ).2)) ([.ref x] : List Value).toArray s 0 0 A) (F0 m 12 ls []) := by
    intro N9
    induction N9 with
    | zero => intro σ2 f1 pl tk mm H locs ls h9; exact absurd h9 (Nat.not_lt_zero _)
    | succ N9 ih12 =>
      intro σ2 f1 pl tk mm H locs ls h9 hI2 hC hF hp0 hT hQ hQ2 w hl
      have hn := hI2.n; have hk := hI2.k; have ht := hI2.t; have hsw := hI2.s; have hz4 := hI2.z4
      refine x_il_n X hl 3 rfl rfl dX3_keepOverdue_12 ?_
      refine x_if_le (tgt := 77) X (by omega) (by decide) dX3_keepOverdue_13 (fun hb13 => ?_) (fun hb13 => ?_)
      · refine x_il_n X hl 1 rfl rfl dX3_keepOverdue_77 ?_
        refine x_iret X w hr hlk ⟨by decide, by decide⟩ dX3_keepOverdue_78 ?_
        have he9 : mm = 0 := by omega
        subst he9
        have hQ : tk + 0 = (oOv σ).1 := hQ
        rw [Int.add_zero] at hQ
        have hQ2 : σ2 = (oOv σ).2 := hQ2
        rw [← hQ, ← hQ2]
        exact ⟨rfl, rfl, hF, hC⟩
      · obtain ⟨m1, rfl⟩ : ∃ m1 : Nat, mm = m1 + 1 := ⟨mm - 1, by omega⟩
        have hrec := hI2.r pl (by omega) (by omega)
        refine x_al_n X hl 0 rfl rfl dX3_keepOverdue_16 ?_
        refine x_get X w hC.mx hC.fx fq_X3_keepOverdue_10 rfl dX3_keepOverdue_17 ?_
        refine x_il_n X hl 2 rfl rfl dX3_keepOverdue_20 ?_
        obtain ⟨r21, hRB, hO⟩ := hC.rb
        refine x_callV (As := [.int (iI pl)]) (rest := []) (c1 := 0) (s1 := 0) X w hA (c_X1_bailAt l D cs L f1 br ba (gN σ2) r21 (gR σ2) pl hRB hO (by omega)) k_X3_keepOverdue_X1_bailAt (by decide) hC.mb hC.fb rfl rfl rfl hl rfl (Nat.le_of_ble_eq_true rfl) (by decide) rfl rfl dX3_keepOverdue_21 (fun v L1 f1 H locs w hp => ?_)
        obtain ⟨rfl, rfl, hp⟩ := hp
        rcases hp with ⟨a21, rfl, ha21, hm21, hf21, hq21⟩ | ⟨rfl, hq21⟩
        · show W p l e _ s m _ below meth c _ _ _ _ _ (F0 m 24 ls [.ref a21])
          refine x_as (lv' := [(4, .ref a21), (0, .ref x), (1, .int (iI tk)), (2, .int (iI pl)), (3, .int (iI ((m1 + 1 : Nat) : Int)))]) X hl (by decide) rfl dX3_keepOverdue_24 (fun ls hl => ?_)
          refine x_al X hl 0 rfl dX3_keepOverdue_26 ?_
          refine x_ifnull_r X dX3_keepOverdue_28 ?_
          refine x_al X hl 0 rfl dX3_keepOverdue_31 ?_
          refine x_al_n X hl 1 rfl rfl dX3_keepOverdue_33 ?_
          refine x_get X w hC.mx hC.fx fq_X3_keepOverdue_77 rfl dX3_keepOverdue_34 ?_
          refine x_callV (As := [.int (iI (gT σ2))]) (rest := []) (c1 := 0) (s1 := 0) X w hA (c_X0_isOverdue l D cs L f1 a21 ((gR σ2) pl) (gT σ2) hm21 hf21 (by omega)) k_X3_keepOverdue_X0_isOverdue (by decide) hm21 hf21 rfl rfl rfl hl rfl (Nat.le_of_ble_eq_true rfl) (by decide) rfl rfl dX3_keepOverdue_37 (fun v L1 f1 H locs w hp => ?_)
          obtain ⟨rfl, rfl, hp⟩ := hp
          rcases hp with ⟨rfl, hq37⟩ | ⟨rfl, hq37⟩
          · show W p l e _ s m _ below meth c _ _ _ _ _ (F0 m 40 ls [.int (iI 1)])
            refine x_ifF_eq (tgt := 68) X (by decide) (by decide) (by decide) dX3_keepOverdue_40 ?_
            refine x_al_n X hl 1 rfl rfl dX3_keepOverdue_43 ?_
            refine x_dup X rfl dX3_keepOverdue_44 ?_
            refine x_get X w hC.mx hC.fx fq_X3_keepOverdue_125 rfl dX3_keepOverdue_45 ?_
            refine x_al X hl 0 rfl dX3_keepOverdue_48 ?_
            refine x_get X w hm21 hf21 fq_X3_keepOverdue_97 rfl dX3_keepOverdue_50 ?_
            refine x_iadd X dX3_keepOverdue_53 ?_
            refine x_put X w hC.mx hC.fx fp_X3_keepOverdue_125 rfl rfl (Nat.le_of_ble_eq_true rfl) rfl dX3_keepOverdue_54 (fun H locs w => ?_)
            have hCo := hC
            obtain ⟨f57, w, hC, hF, hFx⟩ : ∃ f9, XW D A s.heap L f9 H locs ∧ CX cs L f9 x br ba pr sz lr (gN σ2) (gR σ2) (gK σ2) (gZ σ2) (gT σ2) ((gP σ2) + ((gR σ2) pl 1)) (gB σ2) (gS σ2) (gW σ2) ∧ FT f0 f9 x br ba pr sz ∧ FT f1 f9 x br ba pr sz := ⟨_, w, hC.fld _ _ _ _, hF.xx, (FT.rf _ _ _ _ _ _).xx⟩
            have hf21 := FT.bail hCo hFx hf21
            refine x_al_n X hl 1 rfl rfl dX3_keepOverdue_57 ?_
            refine x_il_n X hl 3 rfl rfl dX3_keepOverdue_58 ?_
            refine x_callV (As := [.int (iI pl)]) (rest := []) (c1 := 0) (s1 := 0) X w hA (c_X3_takeOut l D cs L f57 x br ba pr sz lr (oAdd true ((gR σ2) pl 1) σ2) pl hC hI2 (show 0 ≤ pl ∧ pl < gN σ2 from by omega)) k_X3_keepOverdue_X3_takeOut (by decide) hC.mx hC.fx rfl rfl rfl hl rfl (Nat.le_of_ble_eq_true rfl) (by decide) rfl rfl dX3_keepOverdue_59 (fun v L1 f1 H locs w hp => ?_)
            obtain ⟨rfl, rfl, hFT, hC2⟩ := hp
            have hf21 := FT.bail hC hFT hf21
            have hC := hC2
            have hF := hF.tr hFT
            have hI59 : Inv (oTake pl (oAdd true ((gR σ2) pl 1) σ2)) := Inv.take hI2 (show 0 ≤ pl ∧ pl < gN σ2 from by omega)
            show W p l e _ s m _ below meth c _ _ _ _ _ (F0 m 62 ls [])
            refine x_iinc (lv' := [(1, .int (iI (tk + 1))), (4, .ref a21), (0, .ref x), (2, .int (iI pl)), (3, .int (iI ((m1 + 1 : Nat) : Int)))]) X hl 2 rfl (by decide) rfl dX3_keepOverdue_62 (fun ls hl => ?_)
            refine x_goto (tgt := 71) X (by decide) dX3_keepOverdue_65 ?_
            refine x_iinc (lv' := [(3, .int (iI (((m1 + 1 : Nat) : Int) + (-1)))), (1, .int (iI (tk + 1))), (4, .ref a21), (0, .ref x), (2, .int (iI pl))]) X hl 4 rfl (by decide) rfl dX3_keepOverdue_71 (fun ls hl => ?_)
            rw [show ((m1 + 1 : Nat) : Int) + (-1) = (m1 : Int) from by omega] at hl
            have hN1 : gN (oTake pl (oAdd true (gR σ2 pl 1) σ2)) = gN σ2 - 1 := rfl
            rw [oLoop_t (by rw [← hT]; exact hq37)] at hQ hQ2
            refine x_goto (tgt := 12) X (by decide) dX3_keepOverdue_74 ?_
            refine ih12 _ f1 pl (tk + 1) m1 _ _ _ (by omega) hI59 hC hF (⟨by omega, by rw [hN1]; omega⟩) hT (by rw [← hQ]; show _ = tk + (_ + 1); omega) hQ2 w (lv_sub hl [3, 1, 4, 0] rfl)
          · show W p l e _ s m _ below meth c _ _ _ _ _ (F0 m 40 ls [.int (iI 0)])
            refine x_ifT_eq (tgt := 68) X (by decide) (by decide) (by decide) dX3_keepOverdue_40 ?_
            refine x_iinc (lv' := [(2, .int (iI (pl + 1))), (4, .ref a21), (0, .ref x), (1, .int (iI tk)), (3, .int (iI ((m1 + 1 : Nat) : Int)))]) X hl 3 rfl (by decide) rfl dX3_keepOverdue_68 (fun ls hl => ?_)
            refine x_iinc (lv' := [(3, .int (iI (((m1 + 1 : Nat) : Int) + (-1)))), (2, .int (iI (pl + 1))), (4, .ref a21), (0, .ref x), (1, .int (iI tk))]) X hl 4 rfl (by decide) rfl dX3_keepOverdue_71 (fun ls hl => ?_)
            rw [show ((m1 + 1 : Nat) : Int) + (-1) = (m1 : Int) from by omega] at hl
            rw [oLoop_f (by rw [← hT]; exact hq37)] at hQ hQ2
            refine x_goto (tgt := 12) X (by decide) dX3_keepOverdue_74 ?_
            refine ih12 σ2 f1 (pl + 1) tk m1 _ _ _ (by omega) hI2 hC hF (by omega) hT hQ hQ2 w (lv_sub hl [3, 4, 1, 0] rfl)
        · exfalso; omega
  rw [show (gN σ) = ((gN σ).toNat : Int) from by omega] at hl
  refine loop12 _ σ f0 0 0 ((gN σ).toNat) _ _ _ (Nat.lt_succ_self _) hI hC hF (by omega) rfl (Int.zero_add _) rfl w (lv_sub hl [3, 2, 1, 0] rfl)

theorem iw_X3_sweepOn_X3 : ∀ w ∈ wsX30, w ∈ wsX3_sweepOn := by decide +kernel
theorem fq_X3_sweepOn_19 : XF wsX3_sweepOn RX3 19 3 1 := ⟨RX3, TX3, 7, iw_X3_sweepOn_X3, rfl, by decide, by decide +kernel⟩
theorem fq_X3_sweepOn_27 : XF wsX3_sweepOn RX3 27 3 6 := ⟨RX3, TX3, 7, iw_X3_sweepOn_X3, rfl, by decide, by decide +kernel⟩
theorem k_X3_sweepOn_X2_has : XV wsX3_sweepOn RX3 135 RX2 yX2_has cX2_has 2 (some .boolean) wsX2_has 1 := ⟨gX3_sweepOn_X2_has, ⟨_, rfl⟩, rfl, by decide, by decide, by decide +kernel⟩
theorem k_X3_sweepOn_X2_sizeOf : XV wsX3_sweepOn RX3 66 RX2 yX2_sizeOf cX2_sizeOf 2 (some .int) wsX2_sizeOf 1 := ⟨gX3_sweepOn_X2_sizeOf, ⟨_, rfl⟩, rfl, by decide, by decide, by decide +kernel⟩
theorem k_X3_sweepOn_X2_move : XV wsX3_sweepOn RX3 183 RX2 yX2_move cX2_move 3 none wsX2_move 2 := ⟨gX3_sweepOn_X2_move, ⟨_, rfl⟩, rfl, by decide, by decide, by decide +kernel⟩
theorem fp_X3_sweepOn_27 : XGn wsX3_sweepOn RX3 27 3 6 (tyX3 6) := ⟨RX3, TX3, 7, tyX3, iw_X3_sweepOn_X3, rfl, by decide, by decide +kernel, tyX3_ok, nmX3, rfl, by decide +kernel⟩
set_option maxHeartbeats 4000000 in
set_option maxRecDepth 100000 in
theorem c_X3_sweepOn (l : Launch) (D : va_G) (cs : ClassId × ClassId × ClassId) (L : List Nat) (f0 : Nat → va_E) (x br ba pr sz lr : Nat) (σ : Sg) (hC : CC cs L f0 x br ba pr sz lr σ) (hI : Inv σ) (hs0 : 0 ≤ gS σ) : C0 l yX3_sweepOn wsX3_sweepOn ({ frames := 4, cells := 0, slots := 0, locals := 77 } : Room) D cs [.ref x] L f0 (fun v L1 f1 => v = some (.int (iI (oSw σ).1)) ∧ L = L1 ∧ FT f0 f1 x br ba pr sz ∧ CC cs L1 f1 x br ba pr sz lr (oSw σ).2) := by
  refine C0.of (cc := cX3_sweepOn) (maxL := 1) (ret := (some .int)) (by decide) rfl (Nat.le_of_ble_eq_true rfl) ?_
  intro p e s m below meth c X hr hlk hin A hA w ls hl
  have hl : lv_has ls 1 [(0, .ref x)] := hl
  have hn := hI.n; have hk := hI.k; have ht := hI.t; have hsw := hI.s; have hz4 := hI.z4
  have hF : FT f0 f0 x br ba pr sz := FT.rf _ _ _ _ _ _
  refine x_al_n X hl 0 rfl rfl dX3_sweepOn_0 ?_
  refine x_get X w hC.mx hC.fx fq_X3_sweepOn_19 rfl dX3_sweepOn_1 ?_
  refine x_al_n X hl 0 rfl rfl dX3_sweepOn_4 ?_
  refine x_get X w hC.mx hC.fx fq_X3_sweepOn_27 rfl dX3_sweepOn_5 ?_
  refine x_iconst X dX3_sweepOn_8 ?_
  refine x_iadd X dX3_sweepOn_9 ?_
  refine x_callV (As := [.int (iI ((gS σ) + 1))]) (rest := []) (c1 := 0) (s1 := 0) X w hA (c_X2_has l D cs L f0 pr sz (gK σ) (gZ σ) ((gS σ) + 1) hC.pp (by omega)) k_X3_sweepOn_X2_has (by decide) hC.pp.mp hC.pp.fp rfl rfl rfl hl rfl (Nat.le_of_ble_eq_true rfl) (by decide) rfl rfl dX3_sweepOn_10 (fun v L1 f1 H locs w hp => ?_)
  obtain ⟨rfl, rfl, hp⟩ := hp
  rcases hp with ⟨rfl, hq10⟩ | ⟨rfl, hq10⟩
  · show W p l e _ s m _ below meth c _ _ _ _ _ (F0 m 13 ls [.int (iI 1)])
    refine x_ifT_ne (tgt := 23) X (by decide) (by decide) (by decide) dX3_sweepOn_13 ?_
    refine x_al_n X hl 0 rfl rfl dX3_sweepOn_23 ?_
    refine x_get X w hC.mx hC.fx fq_X3_sweepOn_19 rfl dX3_sweepOn_24 ?_
    refine x_al_n X hl 0 rfl rfl dX3_sweepOn_27 ?_
    refine x_get X w hC.mx hC.fx fq_X3_sweepOn_27 rfl dX3_sweepOn_28 ?_
    refine x_callV (As := [.int (iI (gS σ))]) (rest := []) (c1 := 0) (s1 := 0) X w hA (c_X2_sizeOf l D cs L f0 pr sz (gK σ) (gZ σ) (gS σ) hC.pp (by omega)) k_X3_sweepOn_X2_sizeOf (by decide) hC.pp.mp hC.pp.fp rfl rfl rfl hl rfl (Nat.le_of_ble_eq_true rfl) (by decide) rfl rfl dX3_sweepOn_31 (fun v L1 f1 H locs w hp => ?_)
    obtain ⟨rfl, rfl, hp⟩ := hp
    rcases hp with ⟨rfl, hq31⟩ | ⟨rfl, hq31⟩
    · show W p l e _ s m _ below meth c _ _ _ _ _ (F0 m 34 ls [.int (iI ((gZ σ) (gS σ)))])
      have hzz := hz4 (gS σ) (by omega) (by omega)
      refine x_iconst X dX3_sweepOn_34 ?_
      refine x_icmp_lt (tgt := 50) X (by omega) (by decide) dX3_sweepOn_35 (fun hb35 => ?_) (fun hb35 => ?_)
      · refine x_al_n X hl 0 rfl rfl dX3_sweepOn_50 ?_
        refine x_get X w hC.mx hC.fx fq_X3_sweepOn_19 rfl dX3_sweepOn_51 ?_
        refine x_al_n X hl 0 rfl rfl dX3_sweepOn_54 ?_
        refine x_get X w hC.mx hC.fx fq_X3_sweepOn_27 rfl dX3_sweepOn_55 ?_
        refine x_iconst X dX3_sweepOn_58 ?_
        refine x_iadd X dX3_sweepOn_59 ?_
        refine x_al_n X hl 0 rfl rfl dX3_sweepOn_60 ?_
        refine x_get X w hC.mx hC.fx fq_X3_sweepOn_27 rfl dX3_sweepOn_61 ?_
        refine x_callV (As := [.int (iI ((gS σ) + 1)), .int (iI (gS σ))]) (rest := []) (c1 := 0) (s1 := 0) X w hA (c_X2_move l D cs L f0 pr sz (gK σ) (gZ σ) ((gS σ) + 1) (gS σ) hC.pp (by omega) hz4) k_X3_sweepOn_X2_move (by decide) hC.pp.mp hC.pp.fp rfl rfl rfl hl rfl (Nat.le_of_ble_eq_true rfl) (by decide) rfl rfl dX3_sweepOn_64 (fun v L1 f1 H locs w hp => ?_)
        obtain ⟨rfl, rfl, hfr, hPP⟩ := hp
        have hC := hC.p hPP hfr
        have hF := hF.p hfr
        show W p l e _ s m _ below meth c _ _ _ _ _ (F0 m 67 ls [])
        refine x_iconst X dX3_sweepOn_67 ?_
        refine x_iret X w hr hlk ⟨by decide, by decide⟩ dX3_sweepOn_68 ?_
        have he9 : oSw σ = (1, oMv σ) := (if_pos (by omega)).trans (if_neg (by omega))
        rw [he9]
        exact ⟨rfl, rfl, hF, hC⟩
      · refine x_al_n X hl 0 rfl rfl dX3_sweepOn_38 ?_
        refine x_dup X rfl dX3_sweepOn_39 ?_
        refine x_get X w hC.mx hC.fx fq_X3_sweepOn_27 rfl dX3_sweepOn_40 ?_
        refine x_iconst X dX3_sweepOn_43 ?_
        refine x_iadd X dX3_sweepOn_44 ?_
        refine x_put X w hC.mx hC.fx fp_X3_sweepOn_27 rfl rfl (Nat.le_of_ble_eq_true rfl) rfl dX3_sweepOn_45 (fun H locs w => ?_)
        obtain ⟨f48, w, hC, hF⟩ : ∃ f9, XW D A s.heap L f9 H locs ∧ CX cs L f9 x br ba pr sz lr (gN σ) (gR σ) (gK σ) (gZ σ) (gT σ) (gP σ) (gB σ) ((gS σ) + 1) (gW σ) ∧ FT f0 f9 x br ba pr sz := ⟨_, w, hC.fld _ _ _ _, hF.xx⟩
        refine x_iconst X dX3_sweepOn_48 ?_
        refine x_iret X w hr hlk ⟨by decide, by decide⟩ dX3_sweepOn_49 ?_
        have he9 : oSw σ = (0, oSetS (gS σ + 1) σ) := (if_pos (by omega)).trans (if_pos (by omega))
        rw [he9]
        exact ⟨rfl, rfl, hF, hC⟩
    · exfalso; omega
  · show W p l e _ s m _ below meth c _ _ _ _ _ (F0 m 13 ls [.int (iI 0)])
    refine x_ifF_ne (tgt := 23) X (by decide) (by decide) (by decide) dX3_sweepOn_13 ?_
    refine x_al_n X hl 0 rfl rfl dX3_sweepOn_16 ?_
    refine x_iconst X dX3_sweepOn_17 ?_
    refine x_put X w hC.mx hC.fx fp_X3_sweepOn_27 rfl rfl (Nat.le_of_ble_eq_true rfl) rfl dX3_sweepOn_18 (fun H locs w => ?_)
    obtain ⟨f21, w, hC, hF⟩ : ∃ f9, XW D A s.heap L f9 H locs ∧ CX cs L f9 x br ba pr sz lr (gN σ) (gR σ) (gK σ) (gZ σ) (gT σ) (gP σ) (gB σ) (-1) (gW σ) ∧ FT f0 f9 x br ba pr sz := ⟨_, w, hC.fld _ _ _ _, hF.xx⟩
    refine x_iconst X dX3_sweepOn_21 ?_
    refine x_iret X w hr hlk ⟨by decide, by decide⟩ dX3_sweepOn_22 ?_
    have he9 : oSw σ = (0, oSetS (-1) σ) := if_neg (by omega)
    rw [he9]
    exact ⟨rfl, rfl, hF, hC⟩
