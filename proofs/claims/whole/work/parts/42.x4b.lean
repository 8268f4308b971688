/-! the reference's public methods -/
theorem pf_ok {z : Int → Int} {k n p fo : Int} (hk : 0 < k) (hz1 : ∀ j, 0 ≤ j → j < k → 1 ≤ z j ∧ z j ≤ 4) (hsm : sm z k = n) (hp : 0 ≤ p ∧ p ≤ n) (h0 : 0 ≤ fo) (h1 : fo = 0 ∨ (fo < k ∧ sm z fo < p)) (h2 : ∀ j, 0 ≤ j → j < k → sm z j < p → j ≤ fo) : pw z k (pp1 p) = fo := by
  have hfk : fo < k := by rcases h1 with h | h <;> omega
  have hs1 : ∀ j, 0 ≤ j → j < k → 1 ≤ z j := fun j a b => (hz1 j a b).1
  have hst := sm_st hs1 (a := fo) (b := fo + 1) (by omega)
  have hlo := sm_st hs1 (a := 0) (b := fo) (by omega)
  rw [sm_0] at hlo
  have hpp := pp1_b hp
  have hup : pp1 p < sm z (fo + 1) := by
    by_cases c : 1 ≤ p
    · rw [show pp1 p = p - 1 from if_pos c]
      by_cases c2 : fo + 1 < k
      · by_cases c3 : sm z (fo + 1) < p
        · have h3 := h2 (fo + 1) (by omega) c2 c3; omega
        · omega
      · rw [show fo + 1 = k by omega, hsm]; omega
    · rw [show pp1 p = 0 from if_neg c]; omega
  refine pw_eq ⟨h0, hfk, hpp.1, hup, fun j a b => ?_⟩
  rcases h1 with h | h
  · omega
  · have h3 := sm_mo (z := z) (k := k) (a := j + 1) (b := fo) (fun i a b => by have h9 := hz1 i a b; omega) (by omega)
    have h4 := sm_st hs1 (a := 0) (b := fo) (by omega)
    rw [sm_0] at h4
    rw [show pp1 p = p - 1 from if_pos (by omega)]; omega
theorem del_u {y : Int → Int} {p v : Int} : del (uI y p v) p = del y p := by
  funext j
  show (if j < p then uI y p v j else uI y p v (j + 1)) = (if j < p then y j else y (j + 1))
  by_cases c : j < p
  · rw [if_pos c, if_pos c, uI_n _ _ (by omega)]
  · rw [if_neg c, if_neg c, uI_n _ _ (by omega)]
theorem pf_lt {R : Rc} {n nu p i : Int} (hso : so R n) (hcu : isCu R n nu p) (hi : 0 ≤ i ∧ i < n) (h : R i 0 < nu) : i < p := by
  by_cases c : i < p
  · exact c
  · have h1 := hso.le (i := p) (j := i) hcu.1 (by omega) hi.2
    have h2 := hcu.2.2.2 (by omega)
    omega
theorem pf_ge {R : Rc} {n nu p i : Int} (hcu : isCu R n nu p) (hne : ∀ j, 0 ≤ j → j < n → R j 0 ≠ nu) (hi : 0 ≤ i ∧ i < n) (h : nu ≤ R i 0) : p ≤ i := by
  by_cases c : i < p
  · have h1 := hcu.2.2.1 i hi.1 c
    have h2 := hne i hi.1 hi.2
    omega
  · omega
theorem ffx {g g1 : Nat → Int → Int} {R : Rc} {n i v : Int} (hg : ∀ j, 0 ≤ j → j < n → ∀ c, c < 5 → g c j = R j c) (e : g1 = uG g 4 i v) : ∀ j, 0 ≤ j → j < n → ∀ c, c < 5 → g1 c j = uI R i (uN (R i) 4 v) j c := by
  rw [e]; exact ff_g hg

theorem iw_X4_pageFor_X4 : ∀ w ∈ wsX40, w ∈ wsX4_pageFor := by decide +kernel
theorem fq_X4_pageFor_45 : XF wsX4_pageFor RX4 45 4 7 := ⟨RX4, TX4, 14, iw_X4_pageFor_X4, rfl, by decide, by decide +kernel⟩
theorem fq_X4_pageFor_7 : XF wsX4_pageFor RX4 7 4 2 := ⟨RX4, TX4, 14, iw_X4_pageFor_X4, rfl, by decide, by decide +kernel⟩
theorem k_X4_pageFor_X4_beginOf : XV wsX4_pageFor RX4 48 RX4 yX4_beginOf cX4_beginOf 4 (some .int) wsX4_beginOf 1 := ⟨gX4_pageFor_X4_beginOf, ⟨_, rfl⟩, rfl, by decide, by decide, by decide +kernel⟩
set_option maxHeartbeats 4000000 in
set_option maxRecDepth 100000 in
theorem c_X4_pageFor (l : Launch) (D : va_G) (cs : ClassId × ClassId × ClassId) (L : List Nat) (f0 : Nat → va_E) (mo : Nat) (B : Nat → Nat) (t n k td kp pb sw : Int) (g : Nat → Int → Int) (zz ww : Int → Int) (R : Rc) (z : Int → Int) (nu p9 : Int) (hM : ML cs L f0 mo B t n k td kp pb sw g zz ww) (hg : ∀ j, 0 ≤ j → j < n → ∀ c, c < 5 → g c j = R j c) (hz : ∀ j, 0 ≤ j → j < k → zz j = z j) (hnk : (0 ≤ n ∧ n ≤ 80) ∧ (0 < k ∧ k ≤ 80) ∧ 0 ≤ nu ∧ nu ≤ 999) (hz1 : ∀ j, 0 ≤ j → j < k → 1 ≤ z j ∧ z j ≤ 4) (hsm : sm z k = n) (hR0 : ∀ j, 0 ≤ j → j < n → 0 ≤ R j 0 ∧ R j 0 ≤ 999) (hso : so R n) (hcu : isCu R n nu p9) (hne : ∀ j, 0 ≤ j → j < n → R j 0 ≠ nu) : C0 l yX4_pageFor wsX4_pageFor ({ frames := 2, cells := 0, slots := 0, locals := 35 } : Room) D cs [.ref mo, .int (iI nu)] L f0 (fun v L1 f1 => L = L1 ∧ f0 = f1 ∧ v = some (.int (iI (pw z k (pp1 p9))))) := by
  refine C0.of (cc := cX4_pageFor) (maxL := 4) (ret := (some .int)) (by decide) rfl (Nat.le_of_ble_eq_true rfl) ?_
  intro p e s m below meth c X hr hlk hin A hA w ls hl
  have hl : lv_has ls 4 [(0, .ref mo), (1, .int (iI nu))] := hl
  have hF : FM f0 f0 mo B := FM.rf _ _ _
  have hz4 : ∀ j, 0 ≤ j → j < k → 0 ≤ z j ∧ z j ≤ 4 := fun j a b => by have h9 := hz1 j a b; omega
  refine x_iconst X dX4_pageFor_0 ?_
  refine x_is_n (lv' := [(2, .int (iI 0)), (0, .ref mo), (1, .int (iI nu))]) X hl rfl (by decide) rfl dX4_pageFor_1 (fun ls hl => ?_)
  refine x_iconst X dX4_pageFor_2 ?_
  refine x_is_n (lv' := [(3, .int (iI 0)), (2, .int (iI 0)), (0, .ref mo), (1, .int (iI nu))]) X hl rfl (by decide) rfl dX4_pageFor_3 (fun ls hl => ?_)
  have loop4 : ∀ (N9 : Nat) (i : Int) (fo : Int) (H : Heap) (locs : List Loc) (ls : Array Slot), (k - i).toNat < N9 → (0 ≤ i ∧ i ≤ k) → (0 ≤ fo) → (fo = 0 ∨ (fo < i ∧ sm z fo < p9)) → (∀ j, 0 ≤ j → j < i → sm z j < p9 → j ≤ fo) → XW D A s.heap L f0 H locs → lv_has ls 4 [(0, .ref mo), (1, .int (iI nu)), (2, .int (iI fo)), (3, .int (iI i))] → W p l e ({ frames := 2, cells := 0, slots := 0, locals := 35 } : Room) s m ([.ref mo, .int (iI nu)] : List Value).toArray below meth c H locs 0 0 (MQ below (CQ D cs A (fun v L1 f1 => L = L1 ∧ f0 = f1 ∧ v = some (.int (iI (pw z k (pp1 p9)))))) ([.ref mo, .int (iI nu)] : List Value).toArray s 0 0 A) (F0 m 4 ls []) := by
    intro N9
    induction N9 with
    | zero => intro i fo H locs ls h9; exact absurd h9 (Nat.not_lt_zero _)
    | succ N9 ih4 =>
      intro i fo H locs ls h9 hi hfo hj1 hj2 w hl
      refine x_il_n X hl 3 rfl rfl dX4_pageFor_4 ?_
      refine x_al_n X hl 0 rfl rfl dX4_pageFor_5 ?_
      refine x_get X w hM.mm hM.fm fq_X4_pageFor_45 rfl dX4_pageFor_6 ?_
      refine x_icmp_ge (tgt := 38) X (by omega) (by decide) dX4_pageFor_9 (fun hb9 => ?_) (fun hb9 => ?_)
      · refine x_il_n X hl 2 rfl rfl dX4_pageFor_38 ?_
        refine x_iret X w hr hlk ⟨by decide, by decide⟩ dX4_pageFor_39 ?_
        have hik : i = k := by omega
        subst hik
        have he9 := pf_ok (by omega) hz1 hsm ⟨hcu.1, hcu.2.1⟩ hfo hj1 hj2
        exact ⟨rfl, rfl, by rw [he9]⟩
      · have hpf1 := sm_st (fun j a b => (hz1 j a b).1) (a := i) (b := k) (by omega)
        rw [hsm] at hpf1
        have hpf2 := sm_b hz4 (p := i) (by omega)
        have hpf3 := hR0 (sm z i) (by omega) (by omega)
        refine x_al_n X hl 0 rfl rfl dX4_pageFor_12 ?_
        refine x_get X w hM.mm hM.fm fq_X4_pageFor_7 rfl dX4_pageFor_13 ?_
        refine x_al_n X hl 0 rfl rfl dX4_pageFor_16 ?_
        refine x_il_n X hl 3 rfl rfl dX4_pageFor_17 ?_
        refine x_callV (As := [.int (iI i)]) (rest := [.ref (B 2)]) (c1 := 0) (s1 := 0) X w hA (c_X4_beginOf l D cs L f0 mo B t n k td kp pb sw g zz ww z i hM hz (by omega)) k_X4_pageFor_X4_beginOf (by decide) hM.mm hM.fm rfl rfl rfl hl rfl (Nat.le_of_ble_eq_true rfl) (by decide) rfl rfl dX4_pageFor_18 (fun v L1 f1 H locs w hp => ?_)
        obtain ⟨rfl, rfl, hp⟩ := hp
        subst hp
        show W p l e _ s m _ below meth c _ _ _ _ _ (F0 m 21 ls [.int (iI (sm z i)), .ref (B 2)])
        refine x_ialdv (v := R (sm z i) 0) X w hM.m2 hM.f2 (by omega) (hg (sm z i) (by omega) (by omega) 0 (by decide)) dX4_pageFor_21 ?_
        refine x_il_n X hl 1 rfl rfl dX4_pageFor_22 ?_
        refine x_icmp_ge (tgt := 30) X (by omega) (by decide) dX4_pageFor_23 (fun hb23 => ?_) (fun hb23 => ?_)
        · have hge := pf_ge hcu hne ⟨by omega, by omega⟩ hb23
          refine x_il_n X hl 2 rfl rfl dX4_pageFor_30 ?_
          refine x_is_n (lv' := [(2, .int (iI fo)), (0, .ref mo), (1, .int (iI nu)), (3, .int (iI i))]) X hl rfl (by decide) rfl dX4_pageFor_31 (fun ls hl => ?_)
          refine x_iinc (lv' := [(3, .int (iI (i + 1))), (2, .int (iI fo)), (0, .ref mo), (1, .int (iI nu))]) X hl 3 rfl (by decide) rfl dX4_pageFor_32 (fun ls hl => ?_)
          refine x_goto (tgt := 4) X (by decide) dX4_pageFor_35 ?_
          refine ih4 (i + 1) fo _ _ _ (by omega) (by omega) (by omega) (hj1.elim Or.inl (fun h => Or.inr ⟨by omega, h.2⟩)) ?_ w (lv_sub hl [2, 3, 1, 0] rfl)
          · intro j a b c
            by_cases q : j = i
            · subst q; omega
            · exact hj2 j a (by omega) c
        · have hlt := pf_lt hso hcu ⟨by omega, by omega⟩ hb23
          refine x_il_n X hl 3 rfl rfl dX4_pageFor_26 ?_
          refine x_goto (tgt := 31) X (by decide) dX4_pageFor_27 ?_
          refine x_is_n (lv' := [(2, .int (iI i)), (0, .ref mo), (1, .int (iI nu)), (3, .int (iI i))]) X hl rfl (by decide) rfl dX4_pageFor_31 (fun ls hl => ?_)
          refine x_iinc (lv' := [(3, .int (iI (i + 1))), (2, .int (iI i)), (0, .ref mo), (1, .int (iI nu))]) X hl 3 rfl (by decide) rfl dX4_pageFor_32 (fun ls hl => ?_)
          refine x_goto (tgt := 4) X (by decide) dX4_pageFor_35 ?_
          refine ih4 (i + 1) i _ _ _ (by omega) (by omega) (by omega) (Or.inr ⟨by omega, hlt⟩) (fun j a b c => by omega) w (lv_sub hl [2, 3, 1, 0] rfl)
  refine loop4 _ 0 0 _ _ _ (Nat.lt_succ_self _) (by omega) (by omega) (Or.inl rfl) (fun j h1 h2 => absurd h2 (by omega)) w (lv_sub hl [2, 3, 1, 0] rfl)

theorem k_X4_payBack_X4_isCase : XS wsX4_payBack RX4 56 yX4_isCase cX4_isCase 1 (some .boolean) wsX4_isCase 1 := ⟨gX4_payBack_X4_isCase, ⟨_, rfl⟩, by decide, by decide, by decide +kernel⟩
theorem k_X4_payBack_X4_find : XV wsX4_payBack RX4 60 RX4 yX4_find cX4_find 3 (some .int) wsX4_find 1 := ⟨gX4_payBack_X4_find, ⟨_, rfl⟩, rfl, by decide, by decide, by decide +kernel⟩
theorem k_X4_payBack_X4_goesWell : XV wsX4_payBack RX4 63 RX4 yX4_goesWell cX4_goesWell 2 (some .boolean) wsX4_goesWell 1 := ⟨gX4_payBack_X4_goesWell, ⟨_, rfl⟩, rfl, by decide, by decide, by decide +kernel⟩
theorem iw_X4_payBack_X4 : ∀ w ∈ wsX40, w ∈ wsX4_payBack := by decide +kernel
theorem fq_X4_payBack_22 : XF wsX4_payBack RX4 22 4 6 := ⟨RX4, TX4, 14, iw_X4_payBack_X4, rfl, by decide, by decide +kernel⟩
theorem fq_X4_payBack_13 : XF wsX4_payBack RX4 13 4 3 := ⟨RX4, TX4, 14, iw_X4_payBack_X4, rfl, by decide, by decide +kernel⟩
theorem fq_X4_payBack_88 : XF wsX4_payBack RX4 88 4 10 := ⟨RX4, TX4, 14, iw_X4_payBack_X4, rfl, by decide, by decide +kernel⟩
theorem fp_X4_payBack_88 : XGn wsX4_payBack RX4 88 4 10 (tyX4 10) := ⟨RX4, TX4, 14, tyX4, iw_X4_payBack_X4, rfl, by decide, by decide +kernel, tyX4_ok, nmX4, rfl, by decide +kernel⟩
theorem k_X4_payBack_X4_takeOut : XV wsX4_payBack RX4 91 RX4 yX4_takeOut cX4_takeOut 4 none wsX4_takeOut 1 := ⟨gX4_payBack_X4_takeOut, ⟨_, rfl⟩, rfl, by decide, by decide, by decide +kernel⟩
set_option maxHeartbeats 4000000 in
set_option maxRecDepth 100000 in
theorem c_X4_payBack (l : Launch) (D : va_G) (cs : ClassId × ClassId × ClassId) (L : List Nat) (f0 : Nat → va_E) (mo : Nat) (B : Nat → Nat) (t : Int) (σ : Sg) (nu : Int) (hX : MX cs L f0 mo B t σ) (hI : Inv σ) (hrg : (-2147483648 ≤ nu ∧ nu < 2147483648)) : C0 l yX4_payBack wsX4_payBack ({ frames := 4, cells := 0, slots := 0, locals := 79 } : Room) D cs [.ref mo, .int (iI nu)] L f0 (fun v L1 f1 => MPi cs L f0 mo B (oPay nu σ) v L1 f1) := by
  refine C0.of (cc := cX4_payBack) (maxL := 4) (ret := (some .int)) (by decide) rfl (Nat.le_of_ble_eq_true rfl) ?_
  intro p e s m below meth c X hr hlk hin A hA w ls hl
  have hl : lv_has ls 4 [(0, .ref mo), (1, .int (iI nu))] := hl
  obtain ⟨g, zz, ww, hM, hg, hz, hw⟩ := hX
  have hF : FM f0 f0 mo B := FM.rf _ _ _
  have hn := hI.n; have hk := hI.k; have ht := hI.t; have hsw := hI.s; have hz4 := hI.z4
  refine x_il_n X hl 1 rfl rfl dX4_payBack_0 ?_
  refine x_callS (As := [.int (iI nu)]) (rest := []) (c1 := 0) (s1 := 0) X w hA (c_X4_isCase l D cs L f0 nu (by omega)) k_X4_payBack_X4_isCase (by decide) rfl hl rfl (Nat.le_of_ble_eq_true rfl) (by decide) rfl rfl dX4_payBack_1 (fun v L1 f1 H locs w hp => ?_)
  obtain ⟨rfl, rfl, hp⟩ := hp
  rcases hp with ⟨rfl, hq1⟩ | ⟨rfl, hq1⟩
  · show W p l e _ s m _ below meth c _ _ _ _ _ (F0 m 4 ls [.int (iI 1)])
    refine x_ifF_eq (tgt := 15) X (by decide) (by decide) (by decide) dX4_payBack_4 ?_
    refine x_al_n X hl 0 rfl rfl dX4_payBack_7 ?_
    refine x_il_n X hl 1 rfl rfl dX4_payBack_8 ?_
    refine x_callV (As := [.int (iI nu)]) (rest := []) (c1 := 0) (s1 := 0) X w hA (c_X4_find l D cs L f0 mo B t (gN σ) (gK σ) (gT σ) (gP σ) (gB σ) (gS σ) g zz ww (gR σ) nu hM hg (by omega) hI.r0 hI.so) k_X4_payBack_X4_find (by decide) hM.mm hM.fm rfl rfl rfl hl rfl (Nat.le_of_ble_eq_true rfl) (by decide) rfl rfl dX4_payBack_9 (fun v L1 f1 H locs w hp => ?_)
    obtain ⟨rfl, rfl, hp⟩ := hp
    subst hp
    show W p l e _ s m _ below meth c _ _ _ _ _ (F0 m 12 ls [.int (iI (fd (gR σ) (gN σ) nu))])
    refine x_goto (tgt := 16) X (by decide) dX4_payBack_12 ?_
    have hfr := fd_rg (R := gR σ) (n := gN σ) (v := nu) (by omega)
    refine x_is_n (lv' := [(2, .int (iI (fd (gR σ) (gN σ) nu))), (0, .ref mo), (1, .int (iI nu))]) X hl rfl (by decide) rfl dX4_payBack_16 (fun ls hl => ?_)
    refine x_al_n X hl 1 rfl rfl dX4_payBack_17 ?_
    refine x_il_n X hl 2 rfl rfl dX4_payBack_18 ?_
    refine x_callS (As := [.int (iI nu)]) (rest := [.ref mo]) (c1 := 0) (s1 := 0) X w hA (c_X4_isCase l D cs L f0 nu (by omega)) k_X4_payBack_X4_isCase (by decide) rfl hl rfl (Nat.le_of_ble_eq_true rfl) (by decide) rfl rfl dX4_payBack_19 (fun v L1 f1 H locs w hp => ?_)
    obtain ⟨rfl, rfl, hp⟩ := hp
    rcases hp with ⟨rfl, hq19⟩ | ⟨rfl, hq19⟩
    · show W p l e _ s m _ below meth c _ _ _ _ _ (F0 m 22 ls [.int (iI 1), .ref mo])
      refine x_ifT_ne (tgt := 29) X (by decide) (by decide) (by decide) dX4_payBack_22 ?_
      refine x_il_n X hl 0 rfl rfl dX4_payBack_29 ?_
      refine x_iconst X dX4_payBack_30 ?_
      refine x_icmp_eq (tgt := 44) X (by omega) (by decide) dX4_payBack_31 (fun hb31 => ?_) (fun hb31 => ?_)
      · refine x_iconst X dX4_payBack_44 ?_
        refine x_goto (tgt := 49) X (by decide) dX4_payBack_45 ?_
        refine x_callV (As := [.int (iI 2)]) (rest := []) (c1 := 0) (s1 := 0) X w hA (c_X4_goesWell l D cs L f0 mo B t (gN σ) (gK σ) (gT σ) (gP σ) (gB σ) (gS σ) g zz ww 2 hM (by omega)) k_X4_payBack_X4_goesWell (by decide) hM.mm hM.fm rfl rfl rfl hl rfl (Nat.le_of_ble_eq_true rfl) (by decide) rfl rfl dX4_payBack_49 (fun v L1 f1 H locs w hp => ?_)
        obtain ⟨rfl, hfm, hM, hp⟩ := hp
        have hF := hF.tr hfm
        rcases hp with ⟨rfl, hq49⟩ | ⟨rfl, hq49⟩
        · exfalso; omega
        · show W p l e _ s m _ below meth c _ _ _ _ _ (F0 m 52 ls [.int (iI 0)])
          refine x_ifF_ne (tgt := 57) X (by decide) (by decide) (by decide) dX4_payBack_52 ?_
          refine x_iconst X dX4_payBack_55 ?_
          refine x_iret X w hr hlk ⟨by decide, by decide⟩ dX4_payBack_56 ?_
          have ho : oPay nu σ = (2, 0, σ) := (if_pos (by omega)).trans (if_pos (show qF nu σ = -1 ∨ gR σ (qF nu σ) 4 ≠ -1 from Or.inl hb31))
          rw [ho]
          exact ⟨rfl, rfl, hF, ⟨_, _, _, hM, hg, hz, hw⟩⟩
      · have hfi := fd_in hb31
        have hfi1 := hfi.1; have hfi2 := hfi.2.1
        have hrec := hI.r (fd (gR σ) (gN σ) nu) (by omega) (by omega)
        refine x_al_n X hl 1 rfl rfl dX4_payBack_34 ?_
        refine x_get X w hM.mm hM.fm fq_X4_payBack_22 rfl dX4_payBack_35 ?_
        refine x_il_n X hl 0 rfl rfl dX4_payBack_38 ?_
        refine x_ialdv (v := (gR σ) (fd (gR σ) (gN σ) nu) 4) X w hM.m6 hM.f6 (by omega) (hg (fd (gR σ) (gN σ) nu) (by omega) (by omega) 4 (by decide)) dX4_payBack_39 ?_
        refine x_iconst X dX4_payBack_40 ?_
        refine x_icmp_eq (tgt := 48) X (by omega) (by decide) dX4_payBack_41 (fun hb41 => ?_) (fun hb41 => ?_)
        · refine x_iconst X dX4_payBack_48 ?_
          refine x_callV (As := [.int (iI 0)]) (rest := []) (c1 := 0) (s1 := 0) X w hA (c_X4_goesWell l D cs L f0 mo B t (gN σ) (gK σ) (gT σ) (gP σ) (gB σ) (gS σ) g zz ww 0 hM (by omega)) k_X4_payBack_X4_goesWell (by decide) hM.mm hM.fm rfl rfl rfl hl rfl (Nat.le_of_ble_eq_true rfl) (by decide) rfl rfl dX4_payBack_49 (fun v L1 f1 H locs w hp => ?_)
          obtain ⟨rfl, hfm, hM, hp⟩ := hp
          have hF := hF.tr hfm
          rcases hp with ⟨rfl, hq49⟩ | ⟨rfl, hq49⟩
          · show W p l e _ s m _ below meth c _ _ _ _ _ (F0 m 52 ls [.int (iI 1)])
            refine x_ifT_ne (tgt := 57) X (by decide) (by decide) (by decide) dX4_payBack_52 ?_
            refine x_al_n X hl 1 rfl rfl dX4_payBack_57 ?_
            refine x_get X w hM.mm hM.fm fq_X4_payBack_13 rfl dX4_payBack_58 ?_
            refine x_il_n X hl 0 rfl rfl dX4_payBack_61 ?_
            refine x_ialdv (v := (gR σ) (fd (gR σ) (gN σ) nu) 1) X w hM.m3 hM.f3 (by omega) (hg (fd (gR σ) (gN σ) nu) (by omega) (by omega) 1 (by decide)) dX4_payBack_62 ?_
            refine x_is_n (lv' := [(3, .int (iI ((gR σ) (fd (gR σ) (gN σ) nu) 1))), (2, .int (iI (fd (gR σ) (gN σ) nu))), (0, .ref mo), (1, .int (iI nu))]) X hl rfl (by decide) rfl dX4_payBack_63 (fun ls hl => ?_)
            refine x_al_n X hl 2 rfl rfl dX4_payBack_64 ?_
            refine x_dup X rfl dX4_payBack_65 ?_
            refine x_get X w hM.mm hM.fm fq_X4_payBack_88 rfl dX4_payBack_66 ?_
            refine x_il_n X hl 0 rfl rfl dX4_payBack_69 ?_
            refine x_iadd X dX4_payBack_70 ?_
            refine x_put X w hM.mm hM.fm fp_X4_payBack_88 rfl rfl (Nat.le_of_ble_eq_true rfl) rfl dX4_payBack_71 (fun H locs w => ?_)
            obtain ⟨f74, w, hM, hF⟩ : ∃ f9, XW D A s.heap L f9 H locs ∧ ML cs L f9 mo B 0 (gN σ) (gK σ) (gT σ) (gP σ) ((gB σ) + ((gR σ) (fd (gR σ) (gN σ) nu) 1)) (gS σ) g zz ww ∧ FM f0 f9 mo B := ⟨_, w, hM.fld _ _ _ _ _ _ _, hF.m⟩
            refine x_al_n X hl 2 rfl rfl dX4_payBack_74 ?_
            refine x_il_n X hl 1 rfl rfl dX4_payBack_75 ?_
            refine x_callV (As := [.int (iI (fd (gR σ) (gN σ) nu))]) (rest := []) (c1 := 0) (s1 := 0) X w hA (c_X4_takeOut l D cs L f74 mo B 0 (oAdd false ((gR σ) (fd (gR σ) (gN σ) nu) 1) σ) (fd (gR σ) (gN σ) nu) ⟨_, _, _, hM, hg, hz, hw⟩ hI (show 0 ≤ (fd (gR σ) (gN σ) nu) ∧ (fd (gR σ) (gN σ) nu) < gN σ from by omega)) k_X4_payBack_X4_takeOut (by decide) hM.mm hM.fm rfl rfl rfl hl rfl (Nat.le_of_ble_eq_true rfl) (by decide) rfl rfl dX4_payBack_76 (fun v L1 f1 H locs w hp => ?_)
            obtain ⟨rfl, rfl, hfm, hX⟩ := hp
            have hF := hF.tr hfm
            have hI76 : Inv (oTake (fd (gR σ) (gN σ) nu) (oAdd false ((gR σ) (fd (gR σ) (gN σ) nu) 1) σ)) := Inv.take hI (show 0 ≤ (fd (gR σ) (gN σ) nu) ∧ (fd (gR σ) (gN σ) nu) < gN σ from by omega)
            obtain ⟨g, zz, ww, hM, hg, hz, hw⟩ := hX
            show W p l e _ s m _ below meth c _ _ _ _ _ (F0 m 79 ls [])
            refine x_il_n X hl 0 rfl rfl dX4_payBack_79 ?_
            refine x_iret X w hr hlk ⟨by decide, by decide⟩ dX4_payBack_80 ?_
            have ho : oPay nu σ = (0, gR σ (qF nu σ) 1, oTake (qF nu σ) (oAdd false (gR σ (qF nu σ) 1) σ)) := (if_pos (by omega)).trans (if_neg (show ¬ (qF nu σ = -1 ∨ gR σ (qF nu σ) 4 ≠ -1) from fun h9 => h9.elim hb31 (fun h8 => h8 hb41)))
            rw [ho]
            exact ⟨rfl, rfl, hF, ⟨_, _, _, hM, hg, hz, hw⟩⟩
          · exfalso; omega
        · refine x_iconst X dX4_payBack_44 ?_
          refine x_goto (tgt := 49) X (by decide) dX4_payBack_45 ?_
          refine x_callV (As := [.int (iI 2)]) (rest := []) (c1 := 0) (s1 := 0) X w hA (c_X4_goesWell l D cs L f0 mo B t (gN σ) (gK σ) (gT σ) (gP σ) (gB σ) (gS σ) g zz ww 2 hM (by omega)) k_X4_payBack_X4_goesWell (by decide) hM.mm hM.fm rfl rfl rfl hl rfl (Nat.le_of_ble_eq_true rfl) (by decide) rfl rfl dX4_payBack_49 (fun v L1 f1 H locs w hp => ?_)
          obtain ⟨rfl, hfm, hM, hp⟩ := hp
          have hF := hF.tr hfm
          rcases hp with ⟨rfl, hq49⟩ | ⟨rfl, hq49⟩
          · exfalso; omega
          · show W p l e _ s m _ below meth c _ _ _ _ _ (F0 m 52 ls [.int (iI 0)])
            refine x_ifF_ne (tgt := 57) X (by decide) (by decide) (by decide) dX4_payBack_52 ?_
            refine x_iconst X dX4_payBack_55 ?_
            refine x_iret X w hr hlk ⟨by decide, by decide⟩ dX4_payBack_56 ?_
            have ho : oPay nu σ = (2, 0, σ) := (if_pos (by omega)).trans (if_pos (show qF nu σ = -1 ∨ gR σ (qF nu σ) 4 ≠ -1 from Or.inr hb41))
            rw [ho]
            exact ⟨rfl, rfl, hF, ⟨_, _, _, hM, hg, hz, hw⟩⟩
    · exfalso; omega
  · show W p l e _ s m _ below meth c _ _ _ _ _ (F0 m 4 ls [.int (iI 0)])
    refine x_ifT_eq (tgt := 15) X (by decide) (by decide) (by decide) dX4_payBack_4 ?_
    refine x_iconst X dX4_payBack_15 ?_
    have hfr := fd_rg (R := gR σ) (n := gN σ) (v := nu) (by omega)
    refine x_is_n (lv' := [(2, .int (iI (-1))), (0, .ref mo), (1, .int (iI nu))]) X hl rfl (by decide) rfl dX4_payBack_16 (fun ls hl => ?_)
    refine x_al_n X hl 1 rfl rfl dX4_payBack_17 ?_
    refine x_il_n X hl 2 rfl rfl dX4_payBack_18 ?_
    refine x_callS (As := [.int (iI nu)]) (rest := [.ref mo]) (c1 := 0) (s1 := 0) X w hA (c_X4_isCase l D cs L f0 nu (by omega)) k_X4_payBack_X4_isCase (by decide) rfl hl rfl (Nat.le_of_ble_eq_true rfl) (by decide) rfl rfl dX4_payBack_19 (fun v L1 f1 H locs w hp => ?_)
    obtain ⟨rfl, rfl, hp⟩ := hp
    rcases hp with ⟨rfl, hq19⟩ | ⟨rfl, hq19⟩
    · exfalso; omega
    · show W p l e _ s m _ below meth c _ _ _ _ _ (F0 m 22 ls [.int (iI 0), .ref mo])
      refine x_ifF_ne (tgt := 29) X (by decide) (by decide) (by decide) dX4_payBack_22 ?_
      refine x_iconst X dX4_payBack_25 ?_
      refine x_goto (tgt := 49) X (by decide) dX4_payBack_26 ?_
      refine x_callV (As := [.int (iI 1)]) (rest := []) (c1 := 0) (s1 := 0) X w hA (c_X4_goesWell l D cs L f0 mo B t (gN σ) (gK σ) (gT σ) (gP σ) (gB σ) (gS σ) g zz ww 1 hM (by omega)) k_X4_payBack_X4_goesWell (by decide) hM.mm hM.fm rfl rfl rfl hl rfl (Nat.le_of_ble_eq_true rfl) (by decide) rfl rfl dX4_payBack_49 (fun v L1 f1 H locs w hp => ?_)
      obtain ⟨rfl, hfm, hM, hp⟩ := hp
      have hF := hF.tr hfm
      rcases hp with ⟨rfl, hq49⟩ | ⟨rfl, hq49⟩
      · exfalso; omega
      · show W p l e _ s m _ below meth c _ _ _ _ _ (F0 m 52 ls [.int (iI 0)])
        refine x_ifF_ne (tgt := 57) X (by decide) (by decide) (by decide) dX4_payBack_52 ?_
        refine x_iconst X dX4_payBack_55 ?_
        refine x_iret X w hr hlk ⟨by decide, by decide⟩ dX4_payBack_56 ?_
        have ho : oPay nu σ = (1, 0, σ) := if_neg (by omega)
        rw [ho]
        exact ⟨rfl, rfl, hF, ⟨_, _, _, hM, hg, hz, hw⟩⟩

theorem k_X4_forfeit_X4_isCase : XS wsX4_forfeit RX4 56 yX4_isCase cX4_isCase 1 (some .boolean) wsX4_isCase 1 := ⟨gX4_forfeit_X4_isCase, ⟨_, rfl⟩, by decide, by decide, by decide +kernel⟩
theorem k_X4_forfeit_X4_find : XV wsX4_forfeit RX4 60 RX4 yX4_find cX4_find 3 (some .int) wsX4_find 1 := ⟨gX4_forfeit_X4_find, ⟨_, rfl⟩, rfl, by decide, by decide, by decide +kernel⟩
theorem k_X4_forfeit_X4_goesWell : XV wsX4_forfeit RX4 63 RX4 yX4_goesWell cX4_goesWell 2 (some .boolean) wsX4_goesWell 1 := ⟨gX4_forfeit_X4_goesWell, ⟨_, rfl⟩, rfl, by decide, by decide, by decide +kernel⟩
theorem iw_X4_forfeit_X4 : ∀ w ∈ wsX40, w ∈ wsX4_forfeit := by decide +kernel
theorem fq_X4_forfeit_22 : XF wsX4_forfeit RX4 22 4 6 := ⟨RX4, TX4, 14, iw_X4_forfeit_X4, rfl, by decide, by decide +kernel⟩
theorem fq_X4_forfeit_76 : XF wsX4_forfeit RX4 76 4 11 := ⟨RX4, TX4, 14, iw_X4_forfeit_X4, rfl, by decide, by decide +kernel⟩
set_option maxHeartbeats 4000000 in
set_option maxRecDepth 100000 in
theorem c_X4_forfeit (l : Launch) (D : va_G) (cs : ClassId × ClassId × ClassId) (L : List Nat) (f0 : Nat → va_E) (mo : Nat) (B : Nat → Nat) (t : Int) (σ : Sg) (nu : Int) (hX : MX cs L f0 mo B t σ) (hI : Inv σ) (hrg : (-2147483648 ≤ nu ∧ nu < 2147483648)) : C0 l yX4_forfeit wsX4_forfeit ({ frames := 3, cells := 0, slots := 0, locals := 54 } : Room) D cs [.ref mo, .int (iI nu)] L f0 (fun v L1 f1 => MPv cs L f0 mo B (oFor nu σ) v L1 f1) := by
  refine C0.of (cc := cX4_forfeit) (maxL := 3) (ret := none) (by decide) rfl (Nat.le_of_ble_eq_true rfl) ?_
  intro p e s m below meth c X hr hlk hin A hA w ls hl
  have hl : lv_has ls 3 [(0, .ref mo), (1, .int (iI nu))] := hl
  obtain ⟨g, zz, ww, hM, hg, hz, hw⟩ := hX
  have hF : FM f0 f0 mo B := FM.rf _ _ _
  have hn := hI.n; have hk := hI.k; have ht := hI.t; have hsw := hI.s; have hz4 := hI.z4
  refine x_il_n X hl 1 rfl rfl dX4_forfeit_0 ?_
  refine x_callS (As := [.int (iI nu)]) (rest := []) (c1 := 0) (s1 := 0) X w hA (c_X4_isCase l D cs L f0 nu (by omega)) k_X4_forfeit_X4_isCase (by decide) rfl hl rfl (Nat.le_of_ble_eq_true rfl) (by decide) rfl rfl dX4_forfeit_1 (fun v L1 f1 H locs w hp => ?_)
  obtain ⟨rfl, rfl, hp⟩ := hp
  rcases hp with ⟨rfl, hq1⟩ | ⟨rfl, hq1⟩
  · show W p l e _ s m _ below meth c _ _ _ _ _ (F0 m 4 ls [.int (iI 1)])
    refine x_ifF_eq (tgt := 15) X (by decide) (by decide) (by decide) dX4_forfeit_4 ?_
    refine x_al_n X hl 0 rfl rfl dX4_forfeit_7 ?_
    refine x_il_n X hl 1 rfl rfl dX4_forfeit_8 ?_
    refine x_callV (As := [.int (iI nu)]) (rest := []) (c1 := 0) (s1 := 0) X w hA (c_X4_find l D cs L f0 mo B t (gN σ) (gK σ) (gT σ) (gP σ) (gB σ) (gS σ) g zz ww (gR σ) nu hM hg (by omega) hI.r0 hI.so) k_X4_forfeit_X4_find (by decide) hM.mm hM.fm rfl rfl rfl hl rfl (Nat.le_of_ble_eq_true rfl) (by decide) rfl rfl dX4_forfeit_9 (fun v L1 f1 H locs w hp => ?_)
    obtain ⟨rfl, rfl, hp⟩ := hp
    subst hp
    show W p l e _ s m _ below meth c _ _ _ _ _ (F0 m 12 ls [.int (iI (fd (gR σ) (gN σ) nu))])
    refine x_goto (tgt := 16) X (by decide) dX4_forfeit_12 ?_
    have hfr := fd_rg (R := gR σ) (n := gN σ) (v := nu) (by omega)
    refine x_is_n (lv' := [(2, .int (iI (fd (gR σ) (gN σ) nu))), (0, .ref mo), (1, .int (iI nu))]) X hl rfl (by decide) rfl dX4_forfeit_16 (fun ls hl => ?_)
    refine x_al_n X hl 1 rfl rfl dX4_forfeit_17 ?_
    refine x_il_n X hl 2 rfl rfl dX4_forfeit_18 ?_
    refine x_callS (As := [.int (iI nu)]) (rest := [.ref mo]) (c1 := 0) (s1 := 0) X w hA (c_X4_isCase l D cs L f0 nu (by omega)) k_X4_forfeit_X4_isCase (by decide) rfl hl rfl (Nat.le_of_ble_eq_true rfl) (by decide) rfl rfl dX4_forfeit_19 (fun v L1 f1 H locs w hp => ?_)
    obtain ⟨rfl, rfl, hp⟩ := hp
    rcases hp with ⟨rfl, hq19⟩ | ⟨rfl, hq19⟩
    · show W p l e _ s m _ below meth c _ _ _ _ _ (F0 m 22 ls [.int (iI 1), .ref mo])
      refine x_ifT_ne (tgt := 29) X (by decide) (by decide) (by decide) dX4_forfeit_22 ?_
      refine x_il_n X hl 0 rfl rfl dX4_forfeit_29 ?_
      refine x_iconst X dX4_forfeit_30 ?_
      refine x_icmp_eq (tgt := 44) X (by omega) (by decide) dX4_forfeit_31 (fun hb31 => ?_) (fun hb31 => ?_)
      · refine x_iconst X dX4_forfeit_44 ?_
        refine x_goto (tgt := 49) X (by decide) dX4_forfeit_45 ?_
        refine x_callV (As := [.int (iI 2)]) (rest := []) (c1 := 0) (s1 := 0) X w hA (c_X4_goesWell l D cs L f0 mo B t (gN σ) (gK σ) (gT σ) (gP σ) (gB σ) (gS σ) g zz ww 2 hM (by omega)) k_X4_forfeit_X4_goesWell (by decide) hM.mm hM.fm rfl rfl rfl hl rfl (Nat.le_of_ble_eq_true rfl) (by decide) rfl rfl dX4_forfeit_49 (fun v L1 f1 H locs w hp => ?_)
        obtain ⟨rfl, hfm, hM, hp⟩ := hp
        have hF := hF.tr hfm
        rcases hp with ⟨rfl, hq49⟩ | ⟨rfl, hq49⟩
        · exfalso; omega
        · show W p l e _ s m _ below meth c _ _ _ _ _ (F0 m 52 ls [.int (iI 0)])
          refine x_ifT_eq (tgt := 65) X (by decide) (by decide) (by decide) dX4_forfeit_52 ?_
          refine x_vret X w hr hlk ⟨by decide, by decide⟩ dX4_forfeit_65 ?_
          have ho : oFor nu σ = (2, 0, σ) := (if_pos (by omega)).trans (if_pos (show qF nu σ = -1 ∨ gR σ (qF nu σ) 4 ≠ -1 from Or.inl hb31))
          rw [ho]
          exact ⟨rfl, rfl, hF, ⟨_, _, _, hM, hg, hz, hw⟩⟩
      · have hfi := fd_in hb31
        have hfi1 := hfi.1; have hfi2 := hfi.2.1
        have hrec := hI.r (fd (gR σ) (gN σ) nu) (by omega) (by omega)
        refine x_al_n X hl 1 rfl rfl dX4_forfeit_34 ?_
        refine x_get X w hM.mm hM.fm fq_X4_forfeit_22 rfl dX4_forfeit_35 ?_
        refine x_il_n X hl 0 rfl rfl dX4_forfeit_38 ?_
        refine x_ialdv (v := (gR σ) (fd (gR σ) (gN σ) nu) 4) X w hM.m6 hM.f6 (by omega) (hg (fd (gR σ) (gN σ) nu) (by omega) (by omega) 4 (by decide)) dX4_forfeit_39 ?_
        refine x_iconst X dX4_forfeit_40 ?_
        refine x_icmp_eq (tgt := 48) X (by omega) (by decide) dX4_forfeit_41 (fun hb41 => ?_) (fun hb41 => ?_)
        · refine x_iconst X dX4_forfeit_48 ?_
          refine x_callV (As := [.int (iI 0)]) (rest := []) (c1 := 0) (s1 := 0) X w hA (c_X4_goesWell l D cs L f0 mo B t (gN σ) (gK σ) (gT σ) (gP σ) (gB σ) (gS σ) g zz ww 0 hM (by omega)) k_X4_forfeit_X4_goesWell (by decide) hM.mm hM.fm rfl rfl rfl hl rfl (Nat.le_of_ble_eq_true rfl) (by decide) rfl rfl dX4_forfeit_49 (fun v L1 f1 H locs w hp => ?_)
          obtain ⟨rfl, hfm, hM, hp⟩ := hp
          have hF := hF.tr hfm
          rcases hp with ⟨rfl, hq49⟩ | ⟨rfl, hq49⟩
          · show W p l e _ s m _ below meth c _ _ _ _ _ (F0 m 52 ls [.int (iI 1)])
            refine x_ifF_eq (tgt := 65) X (by decide) (by decide) (by decide) dX4_forfeit_52 ?_
            refine x_al_n X hl 1 rfl rfl dX4_forfeit_55 ?_
            refine x_get X w hM.mm hM.fm fq_X4_forfeit_22 rfl dX4_forfeit_56 ?_
            refine x_il_n X hl 0 rfl rfl dX4_forfeit_59 ?_
            refine x_al_n X hl 1 rfl rfl dX4_forfeit_60 ?_
            refine x_get X w hM.mm hM.fm fq_X4_forfeit_76 rfl dX4_forfeit_61 ?_
            refine x_iast X w hM.m6 hM.f6 (by omega) dX4_forfeit_64 (fun H locs w => ?_)
            obtain ⟨f65, g65, w, hM, hF, hge65⟩ : ∃ f9 g9, XW D A s.heap L f9 H locs ∧ ML cs L f9 mo B 0 (gN σ) (gK σ) (gT σ) (gP σ) (gB σ) (gS σ) g9 zz ww ∧ FM f0 f9 mo B ∧ g9 = uG g 4 (fd (gR σ) (gN σ) nu) (gT σ) := ⟨_, _, w, ML.w6 hM, FM.a 6 hF, rfl⟩
            refine x_vret X w hr hlk ⟨by decide, by decide⟩ dX4_forfeit_65 ?_
            have ho : oFor nu σ = (0, 0, oSetR (uI (gR σ) (qF nu σ) (uN (gR σ (qF nu σ)) 4 (gT σ))) σ) := (if_pos (by omega)).trans (if_neg (show ¬ (qF nu σ = -1 ∨ gR σ (qF nu σ) 4 ≠ -1) from fun h9 => h9.elim hb31 (fun h8 => h8 hb41)))
            rw [ho]
            exact ⟨rfl, rfl, hF, ⟨_, _, _, hM, (ffx hg hge65), hz, hw⟩⟩
          · exfalso; omega
        · refine x_iconst X dX4_forfeit_44 ?_
          refine x_goto (tgt := 49) X (by decide) dX4_forfeit_45 ?_
          refine x_callV (As := [.int (iI 2)]) (rest := []) (c1 := 0) (s1 := 0) X w hA (c_X4_goesWell l D cs L f0 mo B t (gN σ) (gK σ) (gT σ) (gP σ) (gB σ) (gS σ) g zz ww 2 hM (by omega)) k_X4_forfeit_X4_goesWell (by decide) hM.mm hM.fm rfl rfl rfl hl rfl (Nat.le_of_ble_eq_true rfl) (by decide) rfl rfl dX4_forfeit_49 (fun v L1 f1 H locs w hp => ?_)
          obtain ⟨rfl, hfm, hM, hp⟩ := hp
          have hF := hF.tr hfm
          rcases hp with ⟨rfl, hq49⟩ | ⟨rfl, hq49⟩
          · exfalso; omega
          · show W p l e _ s m _ below meth c _ _ _ _ _ (F0 m 52 ls [.int (iI 0)])
            refine x_ifT_eq (tgt := 65) X (by decide) (by decide) (by decide) dX4_forfeit_52 ?_
            refine x_vret X w hr hlk ⟨by decide, by decide⟩ dX4_forfeit_65 ?_
            have ho : oFor nu σ = (2, 0, σ) := (if_pos (by omega)).trans (if_pos (show qF nu σ = -1 ∨ gR σ (qF nu σ) 4 ≠ -1 from Or.inr hb41))
            rw [ho]
            exact ⟨rfl, rfl, hF, ⟨_, _, _, hM, hg, hz, hw⟩⟩
    · exfalso; omega
  · show W p l e _ s m _ below meth c _ _ _ _ _ (F0 m 4 ls [.int (iI 0)])
    refine x_ifT_eq (tgt := 15) X (by decide) (by decide) (by decide) dX4_forfeit_4 ?_
    refine x_iconst X dX4_forfeit_15 ?_
    have hfr := fd_rg (R := gR σ) (n := gN σ) (v := nu) (by omega)
    refine x_is_n (lv' := [(2, .int (iI (-1))), (0, .ref mo), (1, .int (iI nu))]) X hl rfl (by decide) rfl dX4_forfeit_16 (fun ls hl => ?_)
    refine x_al_n X hl 1 rfl rfl dX4_forfeit_17 ?_
    refine x_il_n X hl 2 rfl rfl dX4_forfeit_18 ?_
    refine x_callS (As := [.int (iI nu)]) (rest := [.ref mo]) (c1 := 0) (s1 := 0) X w hA (c_X4_isCase l D cs L f0 nu (by omega)) k_X4_forfeit_X4_isCase (by decide) rfl hl rfl (Nat.le_of_ble_eq_true rfl) (by decide) rfl rfl dX4_forfeit_19 (fun v L1 f1 H locs w hp => ?_)
    obtain ⟨rfl, rfl, hp⟩ := hp
    rcases hp with ⟨rfl, hq19⟩ | ⟨rfl, hq19⟩
    · exfalso; omega
    · show W p l e _ s m _ below meth c _ _ _ _ _ (F0 m 22 ls [.int (iI 0), .ref mo])
      refine x_ifF_ne (tgt := 29) X (by decide) (by decide) (by decide) dX4_forfeit_22 ?_
      refine x_iconst X dX4_forfeit_25 ?_
      refine x_goto (tgt := 49) X (by decide) dX4_forfeit_26 ?_
      refine x_callV (As := [.int (iI 1)]) (rest := []) (c1 := 0) (s1 := 0) X w hA (c_X4_goesWell l D cs L f0 mo B t (gN σ) (gK σ) (gT σ) (gP σ) (gB σ) (gS σ) g zz ww 1 hM (by omega)) k_X4_forfeit_X4_goesWell (by decide) hM.mm hM.fm rfl rfl rfl hl rfl (Nat.le_of_ble_eq_true rfl) (by decide) rfl rfl dX4_forfeit_49 (fun v L1 f1 H locs w hp => ?_)
      obtain ⟨rfl, hfm, hM, hp⟩ := hp
      have hF := hF.tr hfm
      rcases hp with ⟨rfl, hq49⟩ | ⟨rfl, hq49⟩
      · exfalso; omega
      · show W p l e _ s m _ below meth c _ _ _ _ _ (F0 m 52 ls [.int (iI 0)])
        refine x_ifT_eq (tgt := 65) X (by decide) (by decide) (by decide) dX4_forfeit_52 ?_
        refine x_vret X w hr hlk ⟨by decide, by decide⟩ dX4_forfeit_65 ?_
        have ho : oFor nu σ = (1, 0, σ) := if_neg (by omega)
        rw [ho]
        exact ⟨rfl, rfl, hF, ⟨_, _, _, hM, hg, hz, hw⟩⟩

theorem k_X4_undo_X4_isCase : XS wsX4_undo RX4 56 yX4_isCase cX4_isCase 1 (some .boolean) wsX4_isCase 1 := ⟨gX4_undo_X4_isCase, ⟨_, rfl⟩, by decide, by decide, by decide +kernel⟩
theorem k_X4_undo_X4_find : XV wsX4_undo RX4 60 RX4 yX4_find cX4_find 3 (some .int) wsX4_find 1 := ⟨gX4_undo_X4_find, ⟨_, rfl⟩, rfl, by decide, by decide, by decide +kernel⟩
theorem k_X4_undo_X4_goesWell : XV wsX4_undo RX4 63 RX4 yX4_goesWell cX4_goesWell 2 (some .boolean) wsX4_goesWell 1 := ⟨gX4_undo_X4_goesWell, ⟨_, rfl⟩, rfl, by decide, by decide, by decide +kernel⟩
theorem iw_X4_undo_X4 : ∀ w ∈ wsX40, w ∈ wsX4_undo := by decide +kernel
theorem fq_X4_undo_22 : XF wsX4_undo RX4 22 4 6 := ⟨RX4, TX4, 14, iw_X4_undo_X4, rfl, by decide, by decide +kernel⟩
theorem fq_X4_undo_76 : XF wsX4_undo RX4 76 4 11 := ⟨RX4, TX4, 14, iw_X4_undo_X4, rfl, by decide, by decide +kernel⟩
set_option maxHeartbeats 4000000 in
set_option maxRecDepth 100000 in
theorem c_X4_undo (l : Launch) (D : va_G) (cs : ClassId × ClassId × ClassId) (L : List Nat) (f0 : Nat → va_E) (mo : Nat) (B : Nat → Nat) (t : Int) (σ : Sg) (nu : Int) (hX : MX cs L f0 mo B t σ) (hI : Inv σ) (hrg : (-2147483648 ≤ nu ∧ nu < 2147483648)) : C0 l yX4_undo wsX4_undo ({ frames := 3, cells := 0, slots := 0, locals := 54 } : Room) D cs [.ref mo, .int (iI nu)] L f0 (fun v L1 f1 => MPi cs L f0 mo B (oUnd nu σ) v L1 f1) := by
  refine C0.of (cc := cX4_undo) (maxL := 4) (ret := (some .int)) (by decide) rfl (Nat.le_of_ble_eq_true rfl) ?_
  intro p e s m below meth c X hr hlk hin A hA w ls hl
  have hl : lv_has ls 4 [(0, .ref mo), (1, .int (iI nu))] := hl
  obtain ⟨g, zz, ww, hM, hg, hz, hw⟩ := hX
  have hF : FM f0 f0 mo B := FM.rf _ _ _
  have hn := hI.n; have hk := hI.k; have ht := hI.t; have hsw := hI.s; have hz4 := hI.z4
  refine x_il_n X hl 1 rfl rfl dX4_undo_0 ?_
  refine x_callS (As := [.int (iI nu)]) (rest := []) (c1 := 0) (s1 := 0) X w hA (c_X4_isCase l D cs L f0 nu (by omega)) k_X4_undo_X4_isCase (by decide) rfl hl rfl (Nat.le_of_ble_eq_true rfl) (by decide) rfl rfl dX4_undo_1 (fun v L1 f1 H locs w hp => ?_)
  obtain ⟨rfl, rfl, hp⟩ := hp
  rcases hp with ⟨rfl, hq1⟩ | ⟨rfl, hq1⟩
  · show W p l e _ s m _ below meth c _ _ _ _ _ (F0 m 4 ls [.int (iI 1)])
    refine x_ifF_eq (tgt := 15) X (by decide) (by decide) (by decide) dX4_undo_4 ?_
    refine x_al_n X hl 0 rfl rfl dX4_undo_7 ?_
    refine x_il_n X hl 1 rfl rfl dX4_undo_8 ?_
    refine x_callV (As := [.int (iI nu)]) (rest := []) (c1 := 0) (s1 := 0) X w hA (c_X4_find l D cs L f0 mo B t (gN σ) (gK σ) (gT σ) (gP σ) (gB σ) (gS σ) g zz ww (gR σ) nu hM hg (by omega) hI.r0 hI.so) k_X4_undo_X4_find (by decide) hM.mm hM.fm rfl rfl rfl hl rfl (Nat.le_of_ble_eq_true rfl) (by decide) rfl rfl dX4_undo_9 (fun v L1 f1 H locs w hp => ?_)
    obtain ⟨rfl, rfl, hp⟩ := hp
    subst hp
    show W p l e _ s m _ below meth c _ _ _ _ _ (F0 m 12 ls [.int (iI (fd (gR σ) (gN σ) nu))])
    refine x_goto (tgt := 16) X (by decide) dX4_undo_12 ?_
    have hfr := fd_rg (R := gR σ) (n := gN σ) (v := nu) (by omega)
    refine x_is_n (lv' := [(2, .int (iI (fd (gR σ) (gN σ) nu))), (0, .ref mo), (1, .int (iI nu))]) X hl rfl (by decide) rfl dX4_undo_16 (fun ls hl => ?_)
    refine x_al_n X hl 1 rfl rfl dX4_undo_17 ?_
    refine x_il_n X hl 2 rfl rfl dX4_undo_18 ?_
    refine x_callS (As := [.int (iI nu)]) (rest := [.ref mo]) (c1 := 0) (s1 := 0) X w hA (c_X4_isCase l D cs L f0 nu (by omega)) k_X4_undo_X4_isCase (by decide) rfl hl rfl (Nat.le_of_ble_eq_true rfl) (by decide) rfl rfl dX4_undo_19 (fun v L1 f1 H locs w hp => ?_)
    obtain ⟨rfl, rfl, hp⟩ := hp
    rcases hp with ⟨rfl, hq19⟩ | ⟨rfl, hq19⟩
    · show W p l e _ s m _ below meth c _ _ _ _ _ (F0 m 22 ls [.int (iI 1), .ref mo])
      refine x_ifT_ne (tgt := 29) X (by decide) (by decide) (by decide) dX4_undo_22 ?_
      refine x_il_n X hl 0 rfl rfl dX4_undo_29 ?_
      refine x_iconst X dX4_undo_30 ?_
      refine x_icmp_eq (tgt := 44) X (by omega) (by decide) dX4_undo_31 (fun hb31 => ?_) (fun hb31 => ?_)
      · refine x_iconst X dX4_undo_44 ?_
        refine x_goto (tgt := 49) X (by decide) dX4_undo_45 ?_
        refine x_callV (As := [.int (iI 2)]) (rest := []) (c1 := 0) (s1 := 0) X w hA (c_X4_goesWell l D cs L f0 mo B t (gN σ) (gK σ) (gT σ) (gP σ) (gB σ) (gS σ) g zz ww 2 hM (by omega)) k_X4_undo_X4_goesWell (by decide) hM.mm hM.fm rfl rfl rfl hl rfl (Nat.le_of_ble_eq_true rfl) (by decide) rfl rfl dX4_undo_49 (fun v L1 f1 H locs w hp => ?_)
        obtain ⟨rfl, hfm, hM, hp⟩ := hp
        have hF := hF.tr hfm
        rcases hp with ⟨rfl, hq49⟩ | ⟨rfl, hq49⟩
        · exfalso; omega
        · show W p l e _ s m _ below meth c _ _ _ _ _ (F0 m 52 ls [.int (iI 0)])
          refine x_ifF_ne (tgt := 57) X (by decide) (by decide) (by decide) dX4_undo_52 ?_
          refine x_iconst X dX4_undo_55 ?_
          refine x_iret X w hr hlk ⟨by decide, by decide⟩ dX4_undo_56 ?_
          have ho : oUnd nu σ = (2, 0, σ) := (if_pos (by omega)).trans (if_pos (show qF nu σ = -1 ∨ gR σ (qF nu σ) 4 = -1 from Or.inl hb31))
          rw [ho]
          exact ⟨rfl, rfl, hF, ⟨_, _, _, hM, hg, hz, hw⟩⟩
      · have hfi := fd_in hb31
        have hfi1 := hfi.1; have hfi2 := hfi.2.1
        have hrec := hI.r (fd (gR σ) (gN σ) nu) (by omega) (by omega)
        refine x_al_n X hl 1 rfl rfl dX4_undo_34 ?_
        refine x_get X w hM.mm hM.fm fq_X4_undo_22 rfl dX4_undo_35 ?_
        refine x_il_n X hl 0 rfl rfl dX4_undo_38 ?_
        refine x_ialdv (v := (gR σ) (fd (gR σ) (gN σ) nu) 4) X w hM.m6 hM.f6 (by omega) (hg (fd (gR σ) (gN σ) nu) (by omega) (by omega) 4 (by decide)) dX4_undo_39 ?_
        refine x_iconst X dX4_undo_40 ?_
        refine x_icmp_ne (tgt := 48) X (by omega) (by decide) dX4_undo_41 (fun hb41 => ?_) (fun hb41 => ?_)
        · refine x_iconst X dX4_undo_48 ?_
          refine x_callV (As := [.int (iI 0)]) (rest := []) (c1 := 0) (s1 := 0) X w hA (c_X4_goesWell l D cs L f0 mo B t (gN σ) (gK σ) (gT σ) (gP σ) (gB σ) (gS σ) g zz ww 0 hM (by omega)) k_X4_undo_X4_goesWell (by decide) hM.mm hM.fm rfl rfl rfl hl rfl (Nat.le_of_ble_eq_true rfl) (by decide) rfl rfl dX4_undo_49 (fun v L1 f1 H locs w hp => ?_)
          obtain ⟨rfl, hfm, hM, hp⟩ := hp
          have hF := hF.tr hfm
          rcases hp with ⟨rfl, hq49⟩ | ⟨rfl, hq49⟩
          · show W p l e _ s m _ below meth c _ _ _ _ _ (F0 m 52 ls [.int (iI 1)])
            refine x_ifT_ne (tgt := 57) X (by decide) (by decide) (by decide) dX4_undo_52 ?_
            refine x_al_n X hl 1 rfl rfl dX4_undo_57 ?_
            refine x_get X w hM.mm hM.fm fq_X4_undo_76 rfl dX4_undo_58 ?_
            refine x_al_n X hl 1 rfl rfl dX4_undo_61 ?_
            refine x_get X w hM.mm hM.fm fq_X4_undo_22 rfl dX4_undo_62 ?_
            refine x_il_n X hl 0 rfl rfl dX4_undo_65 ?_
            refine x_ialdv (v := (gR σ) (fd (gR σ) (gN σ) nu) 4) X w hM.m6 hM.f6 (by omega) (hg (fd (gR σ) (gN σ) nu) (by omega) (by omega) 4 (by decide)) dX4_undo_66 ?_
            refine x_isub X dX4_undo_67 ?_
            refine x_is_n (lv' := [(3, .int (iI ((gT σ) - ((gR σ) (fd (gR σ) (gN σ) nu) 4)))), (2, .int (iI (fd (gR σ) (gN σ) nu))), (0, .ref mo), (1, .int (iI nu))]) X hl rfl (by decide) rfl dX4_undo_68 (fun ls hl => ?_)
            refine x_al_n X hl 2 rfl rfl dX4_undo_69 ?_
            refine x_get X w hM.mm hM.fm fq_X4_undo_22 rfl dX4_undo_70 ?_
            refine x_il_n X hl 1 rfl rfl dX4_undo_73 ?_
            refine x_iconst X dX4_undo_74 ?_
            refine x_iast X w hM.m6 hM.f6 (by omega) dX4_undo_75 (fun H locs w => ?_)
            obtain ⟨f76, g76, w, hM, hF, hge76⟩ : ∃ f9 g9, XW D A s.heap L f9 H locs ∧ ML cs L f9 mo B 0 (gN σ) (gK σ) (gT σ) (gP σ) (gB σ) (gS σ) g9 zz ww ∧ FM f0 f9 mo B ∧ g9 = uG g 4 (fd (gR σ) (gN σ) nu) (-1) := ⟨_, _, w, ML.w6 hM, FM.a 6 hF, rfl⟩
            refine x_il_n X hl 0 rfl rfl dX4_undo_76 ?_
            refine x_iret X w hr hlk ⟨by decide, by decide⟩ dX4_undo_77 ?_
            have ho : oUnd nu σ = (0, gT σ - gR σ (qF nu σ) 4, oSetR (uI (gR σ) (qF nu σ) (uN (gR σ (qF nu σ)) 4 (-1))) σ) := (if_pos (by omega)).trans (if_neg (show ¬ (qF nu σ = -1 ∨ gR σ (qF nu σ) 4 = -1) from fun h9 => h9.elim hb31 (fun h8 => hb41 h8)))
            rw [ho]
            exact ⟨rfl, rfl, hF, ⟨_, _, _, hM, (ffx hg hge76), hz, hw⟩⟩
          · exfalso; omega
        · refine x_iconst X dX4_undo_44 ?_
          refine x_goto (tgt := 49) X (by decide) dX4_undo_45 ?_
          refine x_callV (As := [.int (iI 2)]) (rest := []) (c1 := 0) (s1 := 0) X w hA (c_X4_goesWell l D cs L f0 mo B t (gN σ) (gK σ) (gT σ) (gP σ) (gB σ) (gS σ) g zz ww 2 hM (by omega)) k_X4_undo_X4_goesWell (by decide) hM.mm hM.fm rfl rfl rfl hl rfl (Nat.le_of_ble_eq_true rfl) (by decide) rfl rfl dX4_undo_49 (fun v L1 f1 H locs w hp => ?_)
          obtain ⟨rfl, hfm, hM, hp⟩ := hp
          have hF := hF.tr hfm
          rcases hp with ⟨rfl, hq49⟩ | ⟨rfl, hq49⟩
          · exfalso; omega
          · show W p l e _ s m _ below meth c _ _ _ _ _ (F0 m 52 ls [.int (iI 0)])
            refine x_ifF_ne (tgt := 57) X (by decide) (by decide) (by decide) dX4_undo_52 ?_
            refine x_iconst X dX4_undo_55 ?_
            refine x_iret X w hr hlk ⟨by decide, by decide⟩ dX4_undo_56 ?_
            have ho : oUnd nu σ = (2, 0, σ) := (if_pos (by omega)).trans (if_pos (show qF nu σ = -1 ∨ gR σ (qF nu σ) 4 = -1 from Or.inr hb41))
            rw [ho]
            exact ⟨rfl, rfl, hF, ⟨_, _, _, hM, hg, hz, hw⟩⟩
    · exfalso; omega
  · show W p l e _ s m _ below meth c _ _ _ _ _ (F0 m 4 ls [.int (iI 0)])
    refine x_ifT_eq (tgt := 15) X (by decide) (by decide) (by decide) dX4_undo_4 ?_
    refine x_iconst X dX4_undo_15 ?_
    have hfr := fd_rg (R := gR σ) (n := gN σ) (v := nu) (by omega)
    refine x_is_n (lv' := [(2, .int (iI (-1))), (0, .ref mo), (1, .int (iI nu))]) X hl rfl (by decide) rfl dX4_undo_16 (fun ls hl => ?_)
    refine x_al_n X hl 1 rfl rfl dX4_undo_17 ?_
    refine x_il_n X hl 2 rfl rfl dX4_undo_18 ?_
    refine x_callS (As := [.int (iI nu)]) (rest := [.ref mo]) (c1 := 0) (s1 := 0) X w hA (c_X4_isCase l D cs L f0 nu (by omega)) k_X4_undo_X4_isCase (by decide) rfl hl rfl (Nat.le_of_ble_eq_true rfl) (by decide) rfl rfl dX4_undo_19 (fun v L1 f1 H locs w hp => ?_)
    obtain ⟨rfl, rfl, hp⟩ := hp
    rcases hp with ⟨rfl, hq19⟩ | ⟨rfl, hq19⟩
    · exfalso; omega
    · show W p l e _ s m _ below meth c _ _ _ _ _ (F0 m 22 ls [.int (iI 0), .ref mo])
      refine x_ifF_ne (tgt := 29) X (by decide) (by decide) (by decide) dX4_undo_22 ?_
      refine x_iconst X dX4_undo_25 ?_
      refine x_goto (tgt := 49) X (by decide) dX4_undo_26 ?_
      refine x_callV (As := [.int (iI 1)]) (rest := []) (c1 := 0) (s1 := 0) X w hA (c_X4_goesWell l D cs L f0 mo B t (gN σ) (gK σ) (gT σ) (gP σ) (gB σ) (gS σ) g zz ww 1 hM (by omega)) k_X4_undo_X4_goesWell (by decide) hM.mm hM.fm rfl rfl rfl hl rfl (Nat.le_of_ble_eq_true rfl) (by decide) rfl rfl dX4_undo_49 (fun v L1 f1 H locs w hp => ?_)
      obtain ⟨rfl, hfm, hM, hp⟩ := hp
      have hF := hF.tr hfm
      rcases hp with ⟨rfl, hq49⟩ | ⟨rfl, hq49⟩
      · exfalso; omega
      · show W p l e _ s m _ below meth c _ _ _ _ _ (F0 m 52 ls [.int (iI 0)])
        refine x_ifF_ne (tgt := 57) X (by decide) (by decide) (by decide) dX4_undo_52 ?_
        refine x_iconst X dX4_undo_55 ?_
        refine x_iret X w hr hlk ⟨by decide, by decide⟩ dX4_undo_56 ?_
        have ho : oUnd nu σ = (1, 0, σ) := if_neg (by omega)
        rw [ho]
        exact ⟨rfl, rfl, hF, ⟨_, _, _, hM, hg, hz, hw⟩⟩

theorem k_X4_sum_X4_isCase : XS wsX4_sum RX4 56 yX4_isCase cX4_isCase 1 (some .boolean) wsX4_isCase 1 := ⟨gX4_sum_X4_isCase, ⟨_, rfl⟩, by decide, by decide, by decide +kernel⟩
theorem k_X4_sum_X4_find : XV wsX4_sum RX4 60 RX4 yX4_find cX4_find 3 (some .int) wsX4_find 1 := ⟨gX4_sum_X4_find, ⟨_, rfl⟩, rfl, by decide, by decide, by decide +kernel⟩
theorem k_X4_sum_X4_goesWell : XV wsX4_sum RX4 63 RX4 yX4_goesWell cX4_goesWell 2 (some .boolean) wsX4_goesWell 1 := ⟨gX4_sum_X4_goesWell, ⟨_, rfl⟩, rfl, by decide, by decide, by decide +kernel⟩
theorem iw_X4_sum_X4 : ∀ w ∈ wsX40, w ∈ wsX4_sum := by decide +kernel
theorem fq_X4_sum_13 : XF wsX4_sum RX4 13 4 3 := ⟨RX4, TX4, 14, iw_X4_sum_X4, rfl, by decide, by decide +kernel⟩
set_option maxHeartbeats 4000000 in
set_option maxRecDepth 100000 in
theorem c_X4_sum (l : Launch) (D : va_G) (cs : ClassId × ClassId × ClassId) (L : List Nat) (f0 : Nat → va_E) (mo : Nat) (B : Nat → Nat) (t : Int) (σ : Sg) (nu : Int) (hX : MX cs L f0 mo B t σ) (hI : Inv σ) (hrg : (-2147483648 ≤ nu ∧ nu < 2147483648)) : C0 l yX4_sum wsX4_sum ({ frames := 3, cells := 0, slots := 0, locals := 54 } : Room) D cs [.ref mo, .int (iI nu)] L f0 (fun v L1 f1 => MPi cs L f0 mo B (oSum nu σ) v L1 f1) := by
  refine C0.of (cc := cX4_sum) (maxL := 3) (ret := (some .int)) (by decide) rfl (Nat.le_of_ble_eq_true rfl) ?_
  intro p e s m below meth c X hr hlk hin A hA w ls hl
  have hl : lv_has ls 3 [(0, .ref mo), (1, .int (iI nu))] := hl
  obtain ⟨g, zz, ww, hM, hg, hz, hw⟩ := hX
  have hF : FM f0 f0 mo B := FM.rf _ _ _
  have hn := hI.n; have hk := hI.k; have ht := hI.t; have hsw := hI.s; have hz4 := hI.z4
  refine x_il_n X hl 1 rfl rfl dX4_sum_0 ?_
  refine x_callS (As := [.int (iI nu)]) (rest := []) (c1 := 0) (s1 := 0) X w hA (c_X4_isCase l D cs L f0 nu (by omega)) k_X4_sum_X4_isCase (by decide) rfl hl rfl (Nat.le_of_ble_eq_true rfl) (by decide) rfl rfl dX4_sum_1 (fun v L1 f1 H locs w hp => ?_)
  obtain ⟨rfl, rfl, hp⟩ := hp
  rcases hp with ⟨rfl, hq1⟩ | ⟨rfl, hq1⟩
  · show W p l e _ s m _ below meth c _ _ _ _ _ (F0 m 4 ls [.int (iI 1)])
    refine x_ifF_eq (tgt := 15) X (by decide) (by decide) (by decide) dX4_sum_4 ?_
    refine x_al_n X hl 0 rfl rfl dX4_sum_7 ?_
    refine x_il_n X hl 1 rfl rfl dX4_sum_8 ?_
    refine x_callV (As := [.int (iI nu)]) (rest := []) (c1 := 0) (s1 := 0) X w hA (c_X4_find l D cs L f0 mo B t (gN σ) (gK σ) (gT σ) (gP σ) (gB σ) (gS σ) g zz ww (gR σ) nu hM hg (by omega) hI.r0 hI.so) k_X4_sum_X4_find (by decide) hM.mm hM.fm rfl rfl rfl hl rfl (Nat.le_of_ble_eq_true rfl) (by decide) rfl rfl dX4_sum_9 (fun v L1 f1 H locs w hp => ?_)
    obtain ⟨rfl, rfl, hp⟩ := hp
    subst hp
    show W p l e _ s m _ below meth c _ _ _ _ _ (F0 m 12 ls [.int (iI (fd (gR σ) (gN σ) nu))])
    refine x_goto (tgt := 16) X (by decide) dX4_sum_12 ?_
    have hfr := fd_rg (R := gR σ) (n := gN σ) (v := nu) (by omega)
    refine x_is_n (lv' := [(2, .int (iI (fd (gR σ) (gN σ) nu))), (0, .ref mo), (1, .int (iI nu))]) X hl rfl (by decide) rfl dX4_sum_16 (fun ls hl => ?_)
    refine x_al_n X hl 1 rfl rfl dX4_sum_17 ?_
    refine x_il_n X hl 2 rfl rfl dX4_sum_18 ?_
    refine x_callS (As := [.int (iI nu)]) (rest := [.ref mo]) (c1 := 0) (s1 := 0) X w hA (c_X4_isCase l D cs L f0 nu (by omega)) k_X4_sum_X4_isCase (by decide) rfl hl rfl (Nat.le_of_ble_eq_true rfl) (by decide) rfl rfl dX4_sum_19 (fun v L1 f1 H locs w hp => ?_)
    obtain ⟨rfl, rfl, hp⟩ := hp
    rcases hp with ⟨rfl, hq19⟩ | ⟨rfl, hq19⟩
    · show W p l e _ s m _ below meth c _ _ _ _ _ (F0 m 22 ls [.int (iI 1), .ref mo])
      refine x_ifF_eq (tgt := 29) X (by decide) (by decide) (by decide) dX4_sum_22 ?_
      refine x_iconst X dX4_sum_25 ?_
      refine x_goto (tgt := 30) X (by decide) dX4_sum_26 ?_
      refine x_callV (As := [.int (iI 0)]) (rest := []) (c1 := 0) (s1 := 0) X w hA (c_X4_goesWell l D cs L f0 mo B t (gN σ) (gK σ) (gT σ) (gP σ) (gB σ) (gS σ) g zz ww 0 hM (by omega)) k_X4_sum_X4_goesWell (by decide) hM.mm hM.fm rfl rfl rfl hl rfl (Nat.le_of_ble_eq_true rfl) (by decide) rfl rfl dX4_sum_30 (fun v L1 f1 H locs w hp => ?_)
      obtain ⟨rfl, hfm, hM, hp⟩ := hp
      have hF := hF.tr hfm
      rcases hp with ⟨rfl, hq30⟩ | ⟨rfl, hq30⟩
      · show W p l e _ s m _ below meth c _ _ _ _ _ (F0 m 33 ls [.int (iI 1)])
        refine x_ifF_eq (tgt := 50) X (by decide) (by decide) (by decide) dX4_sum_33 ?_
        refine x_il_n X hl 0 rfl rfl dX4_sum_36 ?_
        refine x_iconst X dX4_sum_37 ?_
        refine x_icmp_eq (tgt := 50) X (by omega) (by decide) dX4_sum_38 (fun hb38 => ?_) (fun hb38 => ?_)
        · refine x_iconst X dX4_sum_50 ?_
          refine x_iret X w hr hlk ⟨by decide, by decide⟩ dX4_sum_51 ?_
          have ho : oSum nu σ = (0, 0, σ) := (if_pos (by omega)).trans (by rw [if_pos (show qF nu σ = -1 from hb38)])
          rw [ho]
          exact ⟨rfl, rfl, hF, ⟨_, _, _, hM, hg, hz, hw⟩⟩
        · have hfi := fd_in hb38
          have hfi1 := hfi.1; have hfi2 := hfi.2.1
          have hrec := hI.r (fd (gR σ) (gN σ) nu) (by omega) (by omega)
          refine x_al_n X hl 1 rfl rfl dX4_sum_41 ?_
          refine x_get X w hM.mm hM.fm fq_X4_sum_13 rfl dX4_sum_42 ?_
          refine x_il_n X hl 0 rfl rfl dX4_sum_45 ?_
          refine x_ialdv (v := (gR σ) (fd (gR σ) (gN σ) nu) 1) X w hM.m3 hM.f3 (by omega) (hg (fd (gR σ) (gN σ) nu) (by omega) (by omega) 1 (by decide)) dX4_sum_46 ?_
          refine x_goto (tgt := 51) X (by decide) dX4_sum_47 ?_
          refine x_iret X w hr hlk ⟨by decide, by decide⟩ dX4_sum_51 ?_
          have ho : oSum nu σ = (0, gR σ (qF nu σ) 1, σ) := (if_pos (by omega)).trans (by rw [if_neg (show ¬ qF nu σ = -1 from hb38)])
          rw [ho]
          exact ⟨rfl, rfl, hF, ⟨_, _, _, hM, hg, hz, hw⟩⟩
      · exfalso; omega
    · exfalso; omega
  · show W p l e _ s m _ below meth c _ _ _ _ _ (F0 m 4 ls [.int (iI 0)])
    refine x_ifT_eq (tgt := 15) X (by decide) (by decide) (by decide) dX4_sum_4 ?_
    refine x_iconst X dX4_sum_15 ?_
    have hfr := fd_rg (R := gR σ) (n := gN σ) (v := nu) (by omega)
    refine x_is_n (lv' := [(2, .int (iI (-1))), (0, .ref mo), (1, .int (iI nu))]) X hl rfl (by decide) rfl dX4_sum_16 (fun ls hl => ?_)
    refine x_al_n X hl 1 rfl rfl dX4_sum_17 ?_
    refine x_il_n X hl 2 rfl rfl dX4_sum_18 ?_
    refine x_callS (As := [.int (iI nu)]) (rest := [.ref mo]) (c1 := 0) (s1 := 0) X w hA (c_X4_isCase l D cs L f0 nu (by omega)) k_X4_sum_X4_isCase (by decide) rfl hl rfl (Nat.le_of_ble_eq_true rfl) (by decide) rfl rfl dX4_sum_19 (fun v L1 f1 H locs w hp => ?_)
    obtain ⟨rfl, rfl, hp⟩ := hp
    rcases hp with ⟨rfl, hq19⟩ | ⟨rfl, hq19⟩
    · exfalso; omega
    · show W p l e _ s m _ below meth c _ _ _ _ _ (F0 m 22 ls [.int (iI 0), .ref mo])
      refine x_ifT_eq (tgt := 29) X (by decide) (by decide) (by decide) dX4_sum_22 ?_
      refine x_iconst X dX4_sum_29 ?_
      refine x_callV (As := [.int (iI 1)]) (rest := []) (c1 := 0) (s1 := 0) X w hA (c_X4_goesWell l D cs L f0 mo B t (gN σ) (gK σ) (gT σ) (gP σ) (gB σ) (gS σ) g zz ww 1 hM (by omega)) k_X4_sum_X4_goesWell (by decide) hM.mm hM.fm rfl rfl rfl hl rfl (Nat.le_of_ble_eq_true rfl) (by decide) rfl rfl dX4_sum_30 (fun v L1 f1 H locs w hp => ?_)
      obtain ⟨rfl, hfm, hM, hp⟩ := hp
      have hF := hF.tr hfm
      rcases hp with ⟨rfl, hq30⟩ | ⟨rfl, hq30⟩
      · exfalso; omega
      · show W p l e _ s m _ below meth c _ _ _ _ _ (F0 m 33 ls [.int (iI 0)])
        refine x_ifT_eq (tgt := 50) X (by decide) (by decide) (by decide) dX4_sum_33 ?_
        refine x_iconst X dX4_sum_50 ?_
        refine x_iret X w hr hlk ⟨by decide, by decide⟩ dX4_sum_51 ?_
        have ho : oSum nu σ = (1, 0, σ) := if_neg (by omega)
        rw [ho]
        exact ⟨rfl, rfl, hF, ⟨_, _, _, hM, hg, hz, hw⟩⟩

theorem k_X4_isForfeited_X4_isCase : XS wsX4_isForfeited RX4 56 yX4_isCase cX4_isCase 1 (some .boolean) wsX4_isCase 1 := ⟨gX4_isForfeited_X4_isCase, ⟨_, rfl⟩, by decide, by decide, by decide +kernel⟩
theorem k_X4_isForfeited_X4_find : XV wsX4_isForfeited RX4 60 RX4 yX4_find cX4_find 3 (some .int) wsX4_find 1 := ⟨gX4_isForfeited_X4_find, ⟨_, rfl⟩, rfl, by decide, by decide, by decide +kernel⟩
theorem k_X4_isForfeited_X4_goesWell : XV wsX4_isForfeited RX4 63 RX4 yX4_goesWell cX4_goesWell 2 (some .boolean) wsX4_goesWell 1 := ⟨gX4_isForfeited_X4_goesWell, ⟨_, rfl⟩, rfl, by decide, by decide, by decide +kernel⟩
theorem iw_X4_isForfeited_X4 : ∀ w ∈ wsX40, w ∈ wsX4_isForfeited := by decide +kernel
theorem fq_X4_isForfeited_22 : XF wsX4_isForfeited RX4 22 4 6 := ⟨RX4, TX4, 14, iw_X4_isForfeited_X4, rfl, by decide, by decide +kernel⟩
set_option maxHeartbeats 4000000 in
set_option maxRecDepth 100000 in
theorem c_X4_isForfeited (l : Launch) (D : va_G) (cs : ClassId × ClassId × ClassId) (L : List Nat) (f0 : Nat → va_E) (mo : Nat) (B : Nat → Nat) (t : Int) (σ : Sg) (nu : Int) (hX : MX cs L f0 mo B t σ) (hI : Inv σ) (hrg : (-2147483648 ≤ nu ∧ nu < 2147483648)) : C0 l yX4_isForfeited wsX4_isForfeited ({ frames := 3, cells := 0, slots := 0, locals := 54 } : Room) D cs [.ref mo, .int (iI nu)] L f0 (fun v L1 f1 => MPi cs L f0 mo B (oIsF nu σ) v L1 f1) := by
  refine C0.of (cc := cX4_isForfeited) (maxL := 3) (ret := (some .boolean)) (by decide) rfl (Nat.le_of_ble_eq_true rfl) ?_
  intro p e s m below meth c X hr hlk hin A hA w ls hl
  have hl : lv_has ls 3 [(0, .ref mo), (1, .int (iI nu))] := hl
  obtain ⟨g, zz, ww, hM, hg, hz, hw⟩ := hX
  have hF : FM f0 f0 mo B := FM.rf _ _ _
  have hn := hI.n; have hk := hI.k; have ht := hI.t; have hsw := hI.s; have hz4 := hI.z4
  refine x_il_n X hl 1 rfl rfl dX4_isForfeited_0 ?_
  refine x_callS (As := [.int (iI nu)]) (rest := []) (c1 := 0) (s1 := 0) X w hA (c_X4_isCase l D cs L f0 nu (by omega)) k_X4_isForfeited_X4_isCase (by decide) rfl hl rfl (Nat.le_of_ble_eq_true rfl) (by decide) rfl rfl dX4_isForfeited_1 (fun v L1 f1 H locs w hp => ?_)
  obtain ⟨rfl, rfl, hp⟩ := hp
  rcases hp with ⟨rfl, hq1⟩ | ⟨rfl, hq1⟩
  · show W p l e _ s m _ below meth c _ _ _ _ _ (F0 m 4 ls [.int (iI 1)])
    refine x_ifF_eq (tgt := 15) X (by decide) (by decide) (by decide) dX4_isForfeited_4 ?_
    refine x_al_n X hl 0 rfl rfl dX4_isForfeited_7 ?_
    refine x_il_n X hl 1 rfl rfl dX4_isForfeited_8 ?_
    refine x_callV (As := [.int (iI nu)]) (rest := []) (c1 := 0) (s1 := 0) X w hA (c_X4_find l D cs L f0 mo B t (gN σ) (gK σ) (gT σ) (gP σ) (gB σ) (gS σ) g zz ww (gR σ) nu hM hg (by omega) hI.r0 hI.so) k_X4_isForfeited_X4_find (by decide) hM.mm hM.fm rfl rfl rfl hl rfl (Nat.le_of_ble_eq_true rfl) (by decide) rfl rfl dX4_isForfeited_9 (fun v L1 f1 H locs w hp => ?_)
    obtain ⟨rfl, rfl, hp⟩ := hp
    subst hp
    show W p l e _ s m _ below meth c _ _ _ _ _ (F0 m 12 ls [.int (iI (fd (gR σ) (gN σ) nu))])
    refine x_goto (tgt := 16) X (by decide) dX4_isForfeited_12 ?_
    have hfr := fd_rg (R := gR σ) (n := gN σ) (v := nu) (by omega)
    refine x_is_n (lv' := [(2, .int (iI (fd (gR σ) (gN σ) nu))), (0, .ref mo), (1, .int (iI nu))]) X hl rfl (by decide) rfl dX4_isForfeited_16 (fun ls hl => ?_)
    refine x_al_n X hl 1 rfl rfl dX4_isForfeited_17 ?_
    refine x_il_n X hl 2 rfl rfl dX4_isForfeited_18 ?_
    refine x_callS (As := [.int (iI nu)]) (rest := [.ref mo]) (c1 := 0) (s1 := 0) X w hA (c_X4_isCase l D cs L f0 nu (by omega)) k_X4_isForfeited_X4_isCase (by decide) rfl hl rfl (Nat.le_of_ble_eq_true rfl) (by decide) rfl rfl dX4_isForfeited_19 (fun v L1 f1 H locs w hp => ?_)
    obtain ⟨rfl, rfl, hp⟩ := hp
    rcases hp with ⟨rfl, hq19⟩ | ⟨rfl, hq19⟩
    · show W p l e _ s m _ below meth c _ _ _ _ _ (F0 m 22 ls [.int (iI 1), .ref mo])
      refine x_ifF_eq (tgt := 29) X (by decide) (by decide) (by decide) dX4_isForfeited_22 ?_
      refine x_iconst X dX4_isForfeited_25 ?_
      refine x_goto (tgt := 30) X (by decide) dX4_isForfeited_26 ?_
      refine x_callV (As := [.int (iI 0)]) (rest := []) (c1 := 0) (s1 := 0) X w hA (c_X4_goesWell l D cs L f0 mo B t (gN σ) (gK σ) (gT σ) (gP σ) (gB σ) (gS σ) g zz ww 0 hM (by omega)) k_X4_isForfeited_X4_goesWell (by decide) hM.mm hM.fm rfl rfl rfl hl rfl (Nat.le_of_ble_eq_true rfl) (by decide) rfl rfl dX4_isForfeited_30 (fun v L1 f1 H locs w hp => ?_)
      obtain ⟨rfl, hfm, hM, hp⟩ := hp
      have hF := hF.tr hfm
      rcases hp with ⟨rfl, hq30⟩ | ⟨rfl, hq30⟩
      · show W p l e _ s m _ below meth c _ _ _ _ _ (F0 m 33 ls [.int (iI 1)])
        refine x_ifF_eq (tgt := 55) X (by decide) (by decide) (by decide) dX4_isForfeited_33 ?_
        refine x_il_n X hl 0 rfl rfl dX4_isForfeited_36 ?_
        refine x_iconst X dX4_isForfeited_37 ?_
        refine x_icmp_eq (tgt := 55) X (by omega) (by decide) dX4_isForfeited_38 (fun hb38 => ?_) (fun hb38 => ?_)
        · refine x_iconst X dX4_isForfeited_55 ?_
          refine x_zret X w hr hlk ⟨by decide, by decide⟩ (by omega) dX4_isForfeited_56 ?_
          have ho : oIsF nu σ = (0, 0, σ) := (if_pos (by omega)).trans (by rw [if_pos (show qF nu σ = -1 ∨ gR σ (qF nu σ) 4 = -1 from Or.inl hb38)])
          rw [ho]
          exact ⟨rfl, rfl, hF, ⟨_, _, _, hM, hg, hz, hw⟩⟩
        · have hfi := fd_in hb38
          have hfi1 := hfi.1; have hfi2 := hfi.2.1
          have hrec := hI.r (fd (gR σ) (gN σ) nu) (by omega) (by omega)
          refine x_al_n X hl 1 rfl rfl dX4_isForfeited_41 ?_
          refine x_get X w hM.mm hM.fm fq_X4_isForfeited_22 rfl dX4_isForfeited_42 ?_
          refine x_il_n X hl 0 rfl rfl dX4_isForfeited_45 ?_
          refine x_ialdv (v := (gR σ) (fd (gR σ) (gN σ) nu) 4) X w hM.m6 hM.f6 (by omega) (hg (fd (gR σ) (gN σ) nu) (by omega) (by omega) 4 (by decide)) dX4_isForfeited_46 ?_
          refine x_iconst X dX4_isForfeited_47 ?_
          refine x_icmp_eq (tgt := 55) X (by omega) (by decide) dX4_isForfeited_48 (fun hb48 => ?_) (fun hb48 => ?_)
          · refine x_iconst X dX4_isForfeited_55 ?_
            refine x_zret X w hr hlk ⟨by decide, by decide⟩ (by omega) dX4_isForfeited_56 ?_
            have ho : oIsF nu σ = (0, 0, σ) := (if_pos (by omega)).trans (by rw [if_pos (show qF nu σ = -1 ∨ gR σ (qF nu σ) 4 = -1 from Or.inr hb48)])
            rw [ho]
            exact ⟨rfl, rfl, hF, ⟨_, _, _, hM, hg, hz, hw⟩⟩
          · refine x_iconst X dX4_isForfeited_51 ?_
            refine x_goto (tgt := 56) X (by decide) dX4_isForfeited_52 ?_
            refine x_zret X w hr hlk ⟨by decide, by decide⟩ (by omega) dX4_isForfeited_56 ?_
            have ho : oIsF nu σ = (0, 1, σ) := (if_pos (by omega)).trans (by rw [if_neg (show ¬ (qF nu σ = -1 ∨ gR σ (qF nu σ) 4 = -1) from fun h9 => h9.elim hb38 hb48)])
            rw [ho]
            exact ⟨rfl, rfl, hF, ⟨_, _, _, hM, hg, hz, hw⟩⟩
      · exfalso; omega
    · exfalso; omega
  · show W p l e _ s m _ below meth c _ _ _ _ _ (F0 m 4 ls [.int (iI 0)])
    refine x_ifT_eq (tgt := 15) X (by decide) (by decide) (by decide) dX4_isForfeited_4 ?_
    refine x_iconst X dX4_isForfeited_15 ?_
    have hfr := fd_rg (R := gR σ) (n := gN σ) (v := nu) (by omega)
    refine x_is_n (lv' := [(2, .int (iI (-1))), (0, .ref mo), (1, .int (iI nu))]) X hl rfl (by decide) rfl dX4_isForfeited_16 (fun ls hl => ?_)
    refine x_al_n X hl 1 rfl rfl dX4_isForfeited_17 ?_
    refine x_il_n X hl 2 rfl rfl dX4_isForfeited_18 ?_
    refine x_callS (As := [.int (iI nu)]) (rest := [.ref mo]) (c1 := 0) (s1 := 0) X w hA (c_X4_isCase l D cs L f0 nu (by omega)) k_X4_isForfeited_X4_isCase (by decide) rfl hl rfl (Nat.le_of_ble_eq_true rfl) (by decide) rfl rfl dX4_isForfeited_19 (fun v L1 f1 H locs w hp => ?_)
    obtain ⟨rfl, rfl, hp⟩ := hp
    rcases hp with ⟨rfl, hq19⟩ | ⟨rfl, hq19⟩
    · exfalso; omega
    · show W p l e _ s m _ below meth c _ _ _ _ _ (F0 m 22 ls [.int (iI 0), .ref mo])
      refine x_ifT_eq (tgt := 29) X (by decide) (by decide) (by decide) dX4_isForfeited_22 ?_
      refine x_iconst X dX4_isForfeited_29 ?_
      refine x_callV (As := [.int (iI 1)]) (rest := []) (c1 := 0) (s1 := 0) X w hA (c_X4_goesWell l D cs L f0 mo B t (gN σ) (gK σ) (gT σ) (gP σ) (gB σ) (gS σ) g zz ww 1 hM (by omega)) k_X4_isForfeited_X4_goesWell (by decide) hM.mm hM.fm rfl rfl rfl hl rfl (Nat.le_of_ble_eq_true rfl) (by decide) rfl rfl dX4_isForfeited_30 (fun v L1 f1 H locs w hp => ?_)
      obtain ⟨rfl, hfm, hM, hp⟩ := hp
      have hF := hF.tr hfm
      rcases hp with ⟨rfl, hq30⟩ | ⟨rfl, hq30⟩
      · exfalso; omega
      · show W p l e _ s m _ below meth c _ _ _ _ _ (F0 m 33 ls [.int (iI 0)])
        refine x_ifT_eq (tgt := 55) X (by decide) (by decide) (by decide) dX4_isForfeited_33 ?_
        refine x_iconst X dX4_isForfeited_55 ?_
        refine x_zret X w hr hlk ⟨by decide, by decide⟩ (by omega) dX4_isForfeited_56 ?_
        have ho : oIsF nu σ = (1, 0, σ) := if_neg (by omega)
        rw [ho]
        exact ⟨rfl, rfl, hF, ⟨_, _, _, hM, hg, hz, hw⟩⟩

theorem k_X4_pageOf_X4_isCase : XS wsX4_pageOf RX4 56 yX4_isCase cX4_isCase 1 (some .boolean) wsX4_isCase 1 := ⟨gX4_pageOf_X4_isCase, ⟨_, rfl⟩, by decide, by decide, by decide +kernel⟩
theorem k_X4_pageOf_X4_goesWell : XV wsX4_pageOf RX4 63 RX4 yX4_goesWell cX4_goesWell 2 (some .boolean) wsX4_goesWell 1 := ⟨gX4_pageOf_X4_goesWell, ⟨_, rfl⟩, rfl, by decide, by decide, by decide +kernel⟩
theorem k_X4_pageOf_X4_find : XV wsX4_pageOf RX4 60 RX4 yX4_find cX4_find 3 (some .int) wsX4_find 1 := ⟨gX4_pageOf_X4_find, ⟨_, rfl⟩, rfl, by decide, by decide, by decide +kernel⟩
theorem k_X4_pageOf_X4_pageAt : XV wsX4_pageOf RX4 82 RX4 yX4_pageAt cX4_pageAt 4 (some .int) wsX4_pageAt 1 := ⟨gX4_pageOf_X4_pageAt, ⟨_, rfl⟩, rfl, by decide, by decide, by decide +kernel⟩
set_option maxHeartbeats 4000000 in
set_option maxRecDepth 100000 in
theorem c_X4_pageOf (l : Launch) (D : va_G) (cs : ClassId × ClassId × ClassId) (L : List Nat) (f0 : Nat → va_E) (mo : Nat) (B : Nat → Nat) (t : Int) (σ : Sg) (nu : Int) (hX : MX cs L f0 mo B t σ) (hI : Inv σ) (hrg : (-2147483648 ≤ nu ∧ nu < 2147483648)) : C0 l yX4_pageOf wsX4_pageOf ({ frames := 3, cells := 0, slots := 0, locals := 54 } : Room) D cs [.ref mo, .int (iI nu)] L f0 (fun v L1 f1 => MPi cs L f0 mo B (oPgO nu σ) v L1 f1) := by
  refine C0.of (cc := cX4_pageOf) (maxL := 3) (ret := (some .int)) (by decide) rfl (Nat.le_of_ble_eq_true rfl) ?_
  intro p e s m below meth c X hr hlk hin A hA w ls hl
  have hl : lv_has ls 3 [(0, .ref mo), (1, .int (iI nu))] := hl
  obtain ⟨g, zz, ww, hM, hg, hz, hw⟩ := hX
  have hF : FM f0 f0 mo B := FM.rf _ _ _
  have hn := hI.n; have hk := hI.k; have ht := hI.t; have hsw := hI.s; have hz4 := hI.z4
  refine x_al_n X hl 0 rfl rfl dX4_pageOf_0 ?_
  refine x_il_n X hl 1 rfl rfl dX4_pageOf_1 ?_
  refine x_callS (As := [.int (iI nu)]) (rest := [.ref mo]) (c1 := 0) (s1 := 0) X w hA (c_X4_isCase l D cs L f0 nu (by omega)) k_X4_pageOf_X4_isCase (by decide) rfl hl rfl (Nat.le_of_ble_eq_true rfl) (by decide) rfl rfl dX4_pageOf_2 (fun v L1 f1 H locs w hp => ?_)
  obtain ⟨rfl, rfl, hp⟩ := hp
  rcases hp with ⟨rfl, hq2⟩ | ⟨rfl, hq2⟩
  · show W p l e _ s m _ below meth c _ _ _ _ _ (F0 m 5 ls [.int (iI 1), .ref mo])
    refine x_ifF_eq (tgt := 12) X (by decide) (by decide) (by decide) dX4_pageOf_5 ?_
    refine x_iconst X dX4_pageOf_8 ?_
    refine x_goto (tgt := 13) X (by decide) dX4_pageOf_9 ?_
    refine x_callV (As := [.int (iI 0)]) (rest := []) (c1 := 0) (s1 := 0) X w hA (c_X4_goesWell l D cs L f0 mo B t (gN σ) (gK σ) (gT σ) (gP σ) (gB σ) (gS σ) g zz ww 0 hM (by omega)) k_X4_pageOf_X4_goesWell (by decide) hM.mm hM.fm rfl rfl rfl hl rfl (Nat.le_of_ble_eq_true rfl) (by decide) rfl rfl dX4_pageOf_13 (fun v L1 f1 H locs w hp => ?_)
    obtain ⟨rfl, hfm, hM, hp⟩ := hp
    have hF := hF.tr hfm
    rcases hp with ⟨rfl, hq13⟩ | ⟨rfl, hq13⟩
    · show W p l e _ s m _ below meth c _ _ _ _ _ (F0 m 16 ls [.int (iI 1)])
      refine x_ifT_ne (tgt := 21) X (by decide) (by decide) (by decide) dX4_pageOf_16 ?_
      refine x_al_n X hl 0 rfl rfl dX4_pageOf_21 ?_
      refine x_il_n X hl 1 rfl rfl dX4_pageOf_22 ?_
      refine x_callV (As := [.int (iI nu)]) (rest := []) (c1 := 0) (s1 := 0) X w hA (c_X4_find l D cs L f1 mo B 0 (gN σ) (gK σ) (gT σ) (gP σ) (gB σ) (gS σ) g zz ww (gR σ) nu hM hg (by omega) hI.r0 hI.so) k_X4_pageOf_X4_find (by decide) hM.mm hM.fm rfl rfl rfl hl rfl (Nat.le_of_ble_eq_true rfl) (by decide) rfl rfl dX4_pageOf_23 (fun v L1 f1 H locs w hp => ?_)
      obtain ⟨rfl, rfl, hp⟩ := hp
      subst hp
      show W p l e _ s m _ below meth c _ _ _ _ _ (F0 m 26 ls [.int (iI (fd (gR σ) (gN σ) nu))])
      have hfr := fd_rg (R := gR σ) (n := gN σ) (v := nu) (by omega)
      refine x_is_n (lv' := [(2, .int (iI (fd (gR σ) (gN σ) nu))), (0, .ref mo), (1, .int (iI nu))]) X hl rfl (by decide) rfl dX4_pageOf_26 (fun ls hl => ?_)
      refine x_il_n X hl 0 rfl rfl dX4_pageOf_27 ?_
      refine x_iconst X dX4_pageOf_28 ?_
      refine x_icmp_ne (tgt := 36) X (by omega) (by decide) dX4_pageOf_29 (fun hb29 => ?_) (fun hb29 => ?_)
      · have hfi := fd_in hb29
        have hfi1 := hfi.1; have hfi2 := hfi.2.1
        have hrec := hI.r (fd (gR σ) (gN σ) nu) (by omega) (by omega)
        refine x_al_n X hl 1 rfl rfl dX4_pageOf_36 ?_
        refine x_il_n X hl 0 rfl rfl dX4_pageOf_37 ?_
        refine x_callV (As := [.int (iI (fd (gR σ) (gN σ) nu))]) (rest := []) (c1 := 0) (s1 := 0) X w hA (c_X4_pageAt l D cs L f1 mo B 0 (gN σ) (gK σ) (gT σ) (gP σ) (gB σ) (gS σ) g zz ww (gZ σ) (fd (gR σ) (gN σ) nu) hM hz (by rw [hI.sm]; omega) hz4) k_X4_pageOf_X4_pageAt (by decide) hM.mm hM.fm rfl rfl rfl hl rfl (Nat.le_of_ble_eq_true rfl) (by decide) rfl rfl dX4_pageOf_38 (fun v L1 f1 H locs w hp => ?_)
        obtain ⟨rfl, rfl, hp⟩ := hp
        subst hp
        show W p l e _ s m _ below meth c _ _ _ _ _ (F0 m 41 ls [.int (iI (pw (gZ σ) (gK σ) (fd (gR σ) (gN σ) nu)))])
        refine x_iret X w hr hlk ⟨by decide, by decide⟩ dX4_pageOf_41 ?_
        have ho : oPgO nu σ = (0, pw (gZ σ) (gK σ) (qF nu σ), σ) := if_pos (by omega)
        rw [ho]
        exact ⟨rfl, rfl, hF, ⟨_, _, _, hM, hg, hz, hw⟩⟩
      · refine x_iconst X dX4_pageOf_32 ?_
        refine x_goto (tgt := 41) X (by decide) dX4_pageOf_33 ?_
        refine x_iret X w hr hlk ⟨by decide, by decide⟩ dX4_pageOf_41 ?_
        have hpn : pw (gZ σ) (gK σ) (qF nu σ) = -1 := pw_no (fun r h9 => by have h8 := h9.2.2.1; have h7 : qF nu σ = -1 := hb29; omega)
        have ho : oPgO nu σ = (0, -1, σ) := (if_pos (by omega)).trans (by rw [hpn])
        rw [ho]
        exact ⟨rfl, rfl, hF, ⟨_, _, _, hM, hg, hz, hw⟩⟩
    · exfalso; omega
  · show W p l e _ s m _ below meth c _ _ _ _ _ (F0 m 5 ls [.int (iI 0), .ref mo])
    refine x_ifT_eq (tgt := 12) X (by decide) (by decide) (by decide) dX4_pageOf_5 ?_
    refine x_iconst X dX4_pageOf_12 ?_
    refine x_callV (As := [.int (iI 1)]) (rest := []) (c1 := 0) (s1 := 0) X w hA (c_X4_goesWell l D cs L f0 mo B t (gN σ) (gK σ) (gT σ) (gP σ) (gB σ) (gS σ) g zz ww 1 hM (by omega)) k_X4_pageOf_X4_goesWell (by decide) hM.mm hM.fm rfl rfl rfl hl rfl (Nat.le_of_ble_eq_true rfl) (by decide) rfl rfl dX4_pageOf_13 (fun v L1 f1 H locs w hp => ?_)
    obtain ⟨rfl, hfm, hM, hp⟩ := hp
    have hF := hF.tr hfm
    rcases hp with ⟨rfl, hq13⟩ | ⟨rfl, hq13⟩
    · exfalso; omega
    · show W p l e _ s m _ below meth c _ _ _ _ _ (F0 m 16 ls [.int (iI 0)])
      refine x_ifF_ne (tgt := 21) X (by decide) (by decide) (by decide) dX4_pageOf_16 ?_
      refine x_iconst X dX4_pageOf_19 ?_
      refine x_iret X w hr hlk ⟨by decide, by decide⟩ dX4_pageOf_20 ?_
      have ho : oPgO nu σ = (1, 0, σ) := if_neg (by omega)
      rw [ho]
      exact ⟨rfl, rfl, hF, ⟨_, _, _, hM, hg, hz, hw⟩⟩

theorem k_X4_heldBy_X4_in : XS wsX4_heldBy RX4 38 yX4_in cX4_in 3 (some .boolean) wsX4_in 3 := ⟨gX4_heldBy_X4_in, ⟨_, rfl⟩, by decide, by decide, by decide +kernel⟩
theorem k_X4_heldBy_X4_goesWell : XV wsX4_heldBy RX4 63 RX4 yX4_goesWell cX4_goesWell 2 (some .boolean) wsX4_goesWell 1 := ⟨gX4_heldBy_X4_goesWell, ⟨_, rfl⟩, rfl, by decide, by decide, by decide +kernel⟩
theorem iw_X4_heldBy_X4 : ∀ w ∈ wsX40, w ∈ wsX4_heldBy := by decide +kernel
theorem fq_X4_heldBy_42 : XF wsX4_heldBy RX4 42 4 1 := ⟨RX4, TX4, 14, iw_X4_heldBy_X4, rfl, by decide, by decide +kernel⟩
theorem fq_X4_heldBy_16 : XF wsX4_heldBy RX4 16 4 4 := ⟨RX4, TX4, 14, iw_X4_heldBy_X4, rfl, by decide, by decide +kernel⟩
theorem fq_X4_heldBy_13 : XF wsX4_heldBy RX4 13 4 3 := ⟨RX4, TX4, 14, iw_X4_heldBy_X4, rfl, by decide, by decide +kernel⟩
set_option maxHeartbeats 4000000 in
set_option maxRecDepth 100000 in
theorem c_X4_heldBy (l : Launch) (D : va_G) (cs : ClassId × ClassId × ClassId) (L : List Nat) (f0 : Nat → va_E) (mo : Nat) (B : Nat → Nat) (t : Int) (σ : Sg) (sy : Int) (hX : MX cs L f0 mo B t σ) (hI : Inv σ) (hrg : (-2147483648 ≤ sy ∧ sy < 2147483648)) : C0 l yX4_heldBy wsX4_heldBy ({ frames := 2, cells := 0, slots := 0, locals := 34 } : Room) D cs [.ref mo, .int (iI sy)] L f0 (fun v L1 f1 => MPi cs L f0 mo B (oHel sy σ) v L1 f1) := by
  refine C0.of (cc := cX4_heldBy) (maxL := 4) (ret := (some .int)) (by decide) rfl (Nat.le_of_ble_eq_true rfl) ?_
  intro p e s m below meth c X hr hlk hin A hA w ls hl
  have hl : lv_has ls 4 [(0, .ref mo), (1, .int (iI sy))] := hl
  obtain ⟨g, zz, ww, hM, hg, hz, hw⟩ := hX
  have hF : FM f0 f0 mo B := FM.rf _ _ _
  have hn := hI.n; have hk := hI.k; have ht := hI.t; have hsw := hI.s; have hz4 := hI.z4
  refine x_al_n X hl 0 rfl rfl dX4_heldBy_0 ?_
  refine x_il_n X hl 1 rfl rfl dX4_heldBy_1 ?_
  refine x_iconst X dX4_heldBy_2 ?_
  refine x_bipush X (by decide) dX4_heldBy_3 ?_
  refine x_callS (As := [.int (iI sy), .int (iI 0), .int (iI 9)]) (rest := [.ref mo]) (c1 := 0) (s1 := 0) X w hA (c_X4_in l D cs L f0 sy 0 9 (by omega)) k_X4_heldBy_X4_in (by decide) rfl hl rfl (Nat.le_of_ble_eq_true rfl) (by decide) rfl rfl dX4_heldBy_5 (fun v L1 f1 H locs w hp => ?_)
  obtain ⟨rfl, rfl, hp⟩ := hp
  rcases hp with ⟨rfl, hq5⟩ | ⟨rfl, hq5⟩
  · show W p l e _ s m _ below meth c _ _ _ _ _ (F0 m 8 ls [.int (iI 1), .ref mo])
    refine x_ifF_eq (tgt := 15) X (by decide) (by decide) (by decide) dX4_heldBy_8 ?_
    refine x_iconst X dX4_heldBy_11 ?_
    refine x_goto (tgt := 16) X (by decide) dX4_heldBy_12 ?_
    refine x_callV (As := [.int (iI 0)]) (rest := []) (c1 := 0) (s1 := 0) X w hA (c_X4_goesWell l D cs L f0 mo B t (gN σ) (gK σ) (gT σ) (gP σ) (gB σ) (gS σ) g zz ww 0 hM (by omega)) k_X4_heldBy_X4_goesWell (by decide) hM.mm hM.fm rfl rfl rfl hl rfl (Nat.le_of_ble_eq_true rfl) (by decide) rfl rfl dX4_heldBy_16 (fun v L1 f1 H locs w hp => ?_)
    obtain ⟨rfl, hfm, hM, hp⟩ := hp
    have hF := hF.tr hfm
    rcases hp with ⟨rfl, hq16⟩ | ⟨rfl, hq16⟩
    · show W p l e _ s m _ below meth c _ _ _ _ _ (F0 m 19 ls [.int (iI 1)])
      refine x_ifT_ne (tgt := 24) X (by decide) (by decide) (by decide) dX4_heldBy_19 ?_
      refine x_iconst X dX4_heldBy_24 ?_
      refine x_is_n (lv' := [(2, .int (iI 0)), (0, .ref mo), (1, .int (iI sy))]) X hl rfl (by decide) rfl dX4_heldBy_25 (fun ls hl => ?_)
      refine x_iconst X dX4_heldBy_26 ?_
      refine x_is_n (lv' := [(3, .int (iI 0)), (2, .int (iI 0)), (0, .ref mo), (1, .int (iI sy))]) X hl rfl (by decide) rfl dX4_heldBy_27 (fun ls hl => ?_)
      have loop28 : ∀ (N9 : Nat) (i : Int) (H : Heap) (locs : List Loc) (ls : Array Slot), (gN σ - i).toNat < N9 → (0 ≤ i ∧ i ≤ gN σ) → XW D A s.heap L f1 H locs → lv_has ls 4 [(0, .ref mo), (1, .int (iI sy)), (2, .int (iI (hs (gR σ) sy i))), (3, .int (iI i))] → W p l e ({ frames := 2, cells := 0, slots := 0, locals := 34 } : Room) s m ([.ref mo, .int (iI sy)] : List Value).toArray below meth c H locs 0 0 (MQ below (CQ D cs A (fun v L1 f1 => MPi cs L f0 mo B (oHel sy σ) v L1 f1)) ([.ref mo, .int (iI sy)] : List Value).toArray s 0 0 A) (F0 m 28 ls []) := by
        intro N9
        induction N9 with
        | zero => intro i H locs ls h9; exact absurd h9 (Nat.not_lt_zero _)
        | succ N9 ih28 =>
          intro i H locs ls h9 hi w hl
          refine x_il_n X hl 3 rfl rfl dX4_heldBy_28 ?_
          refine x_al_n X hl 0 rfl rfl dX4_heldBy_29 ?_
          refine x_get X w hM.mm hM.fm fq_X4_heldBy_42 rfl dX4_heldBy_30 ?_
          refine x_icmp_ge (tgt := 65) X (by omega) (by decide) dX4_heldBy_33 (fun hb33 => ?_) (fun hb33 => ?_)
          · refine x_il_n X hl 2 rfl rfl dX4_heldBy_65 ?_
            refine x_iret X w hr hlk ⟨by decide, by decide⟩ dX4_heldBy_66 ?_
            have he9 : i = gN σ := by omega
            subst he9
            have ho : oHel sy σ = (0, hs (gR σ) sy (gN σ), σ) := if_pos (by omega)
            rw [ho]
            exact ⟨rfl, rfl, hF, ⟨_, _, _, hM, hg, hz, hw⟩⟩
          · have hq2 := hI.r2 i (by omega) (by omega)
            refine x_il_n X hl 2 rfl rfl dX4_heldBy_36 ?_
            refine x_al_n X hl 0 rfl rfl dX4_heldBy_37 ?_
            refine x_get X w hM.mm hM.fm fq_X4_heldBy_16 rfl dX4_heldBy_38 ?_
            refine x_il_n X hl 3 rfl rfl dX4_heldBy_41 ?_
            refine x_ialdv (v := (gR σ) i 2) X w hM.m4 hM.f4 (by omega) (hg i (by omega) (by omega) 2 (by decide)) dX4_heldBy_42 ?_
            refine x_il_n X hl 1 rfl rfl dX4_heldBy_43 ?_
            refine x_icmp_ne (tgt := 56) X (by omega) (by decide) dX4_heldBy_44 (fun hb44 => ?_) (fun hb44 => ?_)
            · refine x_iconst X dX4_heldBy_56 ?_
              refine x_iadd X dX4_heldBy_57 ?_
              refine x_is_n (lv' := [(2, .int (iI ((hs (gR σ) sy i) + 0))), (0, .ref mo), (1, .int (iI sy)), (3, .int (iI i))]) X hl rfl (by decide) rfl dX4_heldBy_58 (fun ls hl => ?_)
              rw [show (hs (gR σ) sy i) + 0 = hs (gR σ) sy (i + 1) from by rw [hs_s (gR σ) sy (by omega), if_neg hb44]] at hl
              refine x_iinc (lv' := [(3, .int (iI (i + 1))), (2, .int (iI (hs (gR σ) sy (i + 1)))), (0, .ref mo), (1, .int (iI sy))]) X hl 3 rfl (by decide) rfl dX4_heldBy_59 (fun ls hl => ?_)
              refine x_goto (tgt := 28) X (by decide) dX4_heldBy_62 ?_
              refine ih28 (i + 1) _ _ _ (by omega) (by omega) w (lv_sub hl [2, 3, 1, 0] rfl)
            · refine x_al_n X hl 0 rfl rfl dX4_heldBy_47 ?_
              refine x_get X w hM.mm hM.fm fq_X4_heldBy_13 rfl dX4_heldBy_48 ?_
              refine x_il_n X hl 3 rfl rfl dX4_heldBy_51 ?_
              refine x_ialdv (v := (gR σ) i 1) X w hM.m3 hM.f3 (by omega) (hg i (by omega) (by omega) 1 (by decide)) dX4_heldBy_52 ?_
              refine x_goto (tgt := 57) X (by decide) dX4_heldBy_53 ?_
              refine x_iadd X dX4_heldBy_57 ?_
              refine x_is_n (lv' := [(2, .int (iI ((hs (gR σ) sy i) + ((gR σ) i 1)))), (0, .ref mo), (1, .int (iI sy)), (3, .int (iI i))]) X hl rfl (by decide) rfl dX4_heldBy_58 (fun ls hl => ?_)
              rw [show (hs (gR σ) sy i) + ((gR σ) i 1) = hs (gR σ) sy (i + 1) from by rw [hs_s (gR σ) sy (by omega), if_pos hb44]] at hl
              refine x_iinc (lv' := [(3, .int (iI (i + 1))), (2, .int (iI (hs (gR σ) sy (i + 1)))), (0, .ref mo), (1, .int (iI sy))]) X hl 3 rfl (by decide) rfl dX4_heldBy_59 (fun ls hl => ?_)
              refine x_goto (tgt := 28) X (by decide) dX4_heldBy_62 ?_
              refine ih28 (i + 1) _ _ _ (by omega) (by omega) w (lv_sub hl [2, 3, 1, 0] rfl)
      refine loop28 _ 0 _ _ _ (Nat.lt_succ_self _) (by omega) w (lv_sub hl [2, 3, 1, 0] rfl)
    · exfalso; omega
  · show W p l e _ s m _ below meth c _ _ _ _ _ (F0 m 8 ls [.int (iI 0), .ref mo])
    refine x_ifT_eq (tgt := 15) X (by decide) (by decide) (by decide) dX4_heldBy_8 ?_
    refine x_iconst X dX4_heldBy_15 ?_
    refine x_callV (As := [.int (iI 1)]) (rest := []) (c1 := 0) (s1 := 0) X w hA (c_X4_goesWell l D cs L f0 mo B t (gN σ) (gK σ) (gT σ) (gP σ) (gB σ) (gS σ) g zz ww 1 hM (by omega)) k_X4_heldBy_X4_goesWell (by decide) hM.mm hM.fm rfl rfl rfl hl rfl (Nat.le_of_ble_eq_true rfl) (by decide) rfl rfl dX4_heldBy_16 (fun v L1 f1 H locs w hp => ?_)
    obtain ⟨rfl, hfm, hM, hp⟩ := hp
    have hF := hF.tr hfm
    rcases hp with ⟨rfl, hq16⟩ | ⟨rfl, hq16⟩
    · exfalso; omega
    · show W p l e _ s m _ below meth c _ _ _ _ _ (F0 m 19 ls [.int (iI 0)])
      refine x_ifF_ne (tgt := 24) X (by decide) (by decide) (by decide) dX4_heldBy_19 ?_
      refine x_iconst X dX4_heldBy_22 ?_
      refine x_iret X w hr hlk ⟨by decide, by decide⟩ dX4_heldBy_23 ?_
      have ho : oHel sy σ = (1, 0, σ) := if_neg (by omega)
      rw [ho]
      exact ⟨rfl, rfl, hF, ⟨_, _, _, hM, hg, hz, hw⟩⟩

theorem iw_X4_records_X4 : ∀ w ∈ wsX40, w ∈ wsX4_records := by decide +kernel
theorem fp_X4_records_35 : XGn wsX4_records RX4 35 4 0 (tyX4 0) := ⟨RX4, TX4, 14, tyX4, iw_X4_records_X4, rfl, by decide, by decide +kernel, tyX4_ok, nmX4, rfl, by decide +kernel⟩
theorem fq_X4_records_42 : XF wsX4_records RX4 42 4 1 := ⟨RX4, TX4, 14, iw_X4_records_X4, rfl, by decide, by decide +kernel⟩
set_option maxHeartbeats 4000000 in
set_option maxRecDepth 100000 in
theorem c_X4_records (l : Launch) (D : va_G) (cs : ClassId × ClassId × ClassId) (L : List Nat) (f0 : Nat → va_E) (mo : Nat) (B : Nat → Nat) (t : Int) (σ : Sg) (hX : MX cs L f0 mo B t σ) (hI : Inv σ) : C0 l yX4_records wsX4_records ({ frames := 1, cells := 0, slots := 0, locals := 12 } : Room) D cs [.ref mo] L f0 (fun v L1 f1 => MPi cs L f0 mo B ((0, gN σ, σ)) v L1 f1) := by
  refine C0.of (cc := cX4_records) (maxL := 1) (ret := (some .int)) (by decide) rfl (Nat.le_of_ble_eq_true rfl) ?_
  intro p e s m below meth c X hr hlk hin A hA w ls hl
  have hl : lv_has ls 1 [(0, .ref mo)] := hl
  obtain ⟨g, zz, ww, hM, hg, hz, hw⟩ := hX
  have hF : FM f0 f0 mo B := FM.rf _ _ _
  have hn := hI.n; have hk := hI.k; have ht := hI.t; have hsw := hI.s; have hz4 := hI.z4
  refine x_al_n X hl 0 rfl rfl dX4_records_0 ?_
  refine x_iconst X dX4_records_1 ?_
  refine x_put X w hM.mm hM.fm fp_X4_records_35 rfl rfl (Nat.le_of_ble_eq_true rfl) rfl dX4_records_2 (fun H locs w => ?_)
  obtain ⟨f5, w, hM, hF⟩ : ∃ f9, XW D A s.heap L f9 H locs ∧ ML cs L f9 mo B 0 (gN σ) (gK σ) (gT σ) (gP σ) (gB σ) (gS σ) g zz ww ∧ FM f0 f9 mo B := ⟨_, w, hM.fld _ _ _ _ _ _ _, hF.m⟩
  refine x_al_n X hl 0 rfl rfl dX4_records_5 ?_
  refine x_get X w hM.mm hM.fm fq_X4_records_42 rfl dX4_records_6 ?_
  refine x_iret X w hr hlk ⟨by decide, by decide⟩ dX4_records_9 ?_
  exact ⟨rfl, rfl, hF, ⟨_, _, _, hM, hg, hz, hw⟩⟩

theorem iw_X4_kept_X4 : ∀ w ∈ wsX40, w ∈ wsX4_kept := by decide +kernel
theorem fp_X4_kept_35 : XGn wsX4_kept RX4 35 4 0 (tyX4 0) := ⟨RX4, TX4, 14, tyX4, iw_X4_kept_X4, rfl, by decide, by decide +kernel, tyX4_ok, nmX4, rfl, by decide +kernel⟩
theorem fq_X4_kept_94 : XF wsX4_kept RX4 94 4 9 := ⟨RX4, TX4, 14, iw_X4_kept_X4, rfl, by decide, by decide +kernel⟩
set_option maxHeartbeats 4000000 in
set_option maxRecDepth 100000 in
theorem c_X4_kept (l : Launch) (D : va_G) (cs : ClassId × ClassId × ClassId) (L : List Nat) (f0 : Nat → va_E) (mo : Nat) (B : Nat → Nat) (t : Int) (σ : Sg) (hX : MX cs L f0 mo B t σ) (hI : Inv σ) : C0 l yX4_kept wsX4_kept ({ frames := 1, cells := 0, slots := 0, locals := 12 } : Room) D cs [.ref mo] L f0 (fun v L1 f1 => MPi cs L f0 mo B ((0, gP σ, σ)) v L1 f1) := by
  refine C0.of (cc := cX4_kept) (maxL := 1) (ret := (some .int)) (by decide) rfl (Nat.le_of_ble_eq_true rfl) ?_
  intro p e s m below meth c X hr hlk hin A hA w ls hl
  have hl : lv_has ls 1 [(0, .ref mo)] := hl
  obtain ⟨g, zz, ww, hM, hg, hz, hw⟩ := hX
  have hF : FM f0 f0 mo B := FM.rf _ _ _
  have hn := hI.n; have hk := hI.k; have ht := hI.t; have hsw := hI.s; have hz4 := hI.z4
  refine x_al_n X hl 0 rfl rfl dX4_kept_0 ?_
  refine x_iconst X dX4_kept_1 ?_
  refine x_put X w hM.mm hM.fm fp_X4_kept_35 rfl rfl (Nat.le_of_ble_eq_true rfl) rfl dX4_kept_2 (fun H locs w => ?_)
  obtain ⟨f5, w, hM, hF⟩ : ∃ f9, XW D A s.heap L f9 H locs ∧ ML cs L f9 mo B 0 (gN σ) (gK σ) (gT σ) (gP σ) (gB σ) (gS σ) g zz ww ∧ FM f0 f9 mo B := ⟨_, w, hM.fld _ _ _ _ _ _ _, hF.m⟩
  refine x_al_n X hl 0 rfl rfl dX4_kept_5 ?_
  refine x_get X w hM.mm hM.fm fq_X4_kept_94 rfl dX4_kept_6 ?_
  refine x_iret X w hr hlk ⟨by decide, by decide⟩ dX4_kept_9 ?_
  exact ⟨rfl, rfl, hF, ⟨_, _, _, hM, hg, hz, hw⟩⟩

theorem iw_X4_paidBack_X4 : ∀ w ∈ wsX40, w ∈ wsX4_paidBack := by decide +kernel
theorem fp_X4_paidBack_35 : XGn wsX4_paidBack RX4 35 4 0 (tyX4 0) := ⟨RX4, TX4, 14, tyX4, iw_X4_paidBack_X4, rfl, by decide, by decide +kernel, tyX4_ok, nmX4, rfl, by decide +kernel⟩
theorem fq_X4_paidBack_88 : XF wsX4_paidBack RX4 88 4 10 := ⟨RX4, TX4, 14, iw_X4_paidBack_X4, rfl, by decide, by decide +kernel⟩
set_option maxHeartbeats 4000000 in
set_option maxRecDepth 100000 in
theorem c_X4_paidBack (l : Launch) (D : va_G) (cs : ClassId × ClassId × ClassId) (L : List Nat) (f0 : Nat → va_E) (mo : Nat) (B : Nat → Nat) (t : Int) (σ : Sg) (hX : MX cs L f0 mo B t σ) (hI : Inv σ) : C0 l yX4_paidBack wsX4_paidBack ({ frames := 1, cells := 0, slots := 0, locals := 12 } : Room) D cs [.ref mo] L f0 (fun v L1 f1 => MPi cs L f0 mo B ((0, gB σ, σ)) v L1 f1) := by
  refine C0.of (cc := cX4_paidBack) (maxL := 1) (ret := (some .int)) (by decide) rfl (Nat.le_of_ble_eq_true rfl) ?_
  intro p e s m below meth c X hr hlk hin A hA w ls hl
  have hl : lv_has ls 1 [(0, .ref mo)] := hl
  obtain ⟨g, zz, ww, hM, hg, hz, hw⟩ := hX
  have hF : FM f0 f0 mo B := FM.rf _ _ _
  have hn := hI.n; have hk := hI.k; have ht := hI.t; have hsw := hI.s; have hz4 := hI.z4
  refine x_al_n X hl 0 rfl rfl dX4_paidBack_0 ?_
  refine x_iconst X dX4_paidBack_1 ?_
  refine x_put X w hM.mm hM.fm fp_X4_paidBack_35 rfl rfl (Nat.le_of_ble_eq_true rfl) rfl dX4_paidBack_2 (fun H locs w => ?_)
  obtain ⟨f5, w, hM, hF⟩ : ∃ f9, XW D A s.heap L f9 H locs ∧ ML cs L f9 mo B 0 (gN σ) (gK σ) (gT σ) (gP σ) (gB σ) (gS σ) g zz ww ∧ FM f0 f9 mo B := ⟨_, w, hM.fld _ _ _ _ _ _ _, hF.m⟩
  refine x_al_n X hl 0 rfl rfl dX4_paidBack_5 ?_
  refine x_get X w hM.mm hM.fm fq_X4_paidBack_88 rfl dX4_paidBack_6 ?_
  refine x_iret X w hr hlk ⟨by decide, by decide⟩ dX4_paidBack_9 ?_
  exact ⟨rfl, rfl, hF, ⟨_, _, _, hM, hg, hz, hw⟩⟩

theorem iw_X4_today_X4 : ∀ w ∈ wsX40, w ∈ wsX4_today := by decide +kernel
theorem fp_X4_today_35 : XGn wsX4_today RX4 35 4 0 (tyX4 0) := ⟨RX4, TX4, 14, tyX4, iw_X4_today_X4, rfl, by decide, by decide +kernel, tyX4_ok, nmX4, rfl, by decide +kernel⟩
theorem fq_X4_today_76 : XF wsX4_today RX4 76 4 11 := ⟨RX4, TX4, 14, iw_X4_today_X4, rfl, by decide, by decide +kernel⟩
set_option maxHeartbeats 4000000 in
set_option maxRecDepth 100000 in
theorem c_X4_today (l : Launch) (D : va_G) (cs : ClassId × ClassId × ClassId) (L : List Nat) (f0 : Nat → va_E) (mo : Nat) (B : Nat → Nat) (t : Int) (σ : Sg) (hX : MX cs L f0 mo B t σ) (hI : Inv σ) : C0 l yX4_today wsX4_today ({ frames := 1, cells := 0, slots := 0, locals := 12 } : Room) D cs [.ref mo] L f0 (fun v L1 f1 => MPi cs L f0 mo B ((0, gT σ, σ)) v L1 f1) := by
  refine C0.of (cc := cX4_today) (maxL := 1) (ret := (some .int)) (by decide) rfl (Nat.le_of_ble_eq_true rfl) ?_
  intro p e s m below meth c X hr hlk hin A hA w ls hl
  have hl : lv_has ls 1 [(0, .ref mo)] := hl
  obtain ⟨g, zz, ww, hM, hg, hz, hw⟩ := hX
  have hF : FM f0 f0 mo B := FM.rf _ _ _
  have hn := hI.n; have hk := hI.k; have ht := hI.t; have hsw := hI.s; have hz4 := hI.z4
  refine x_al_n X hl 0 rfl rfl dX4_today_0 ?_
  refine x_iconst X dX4_today_1 ?_
  refine x_put X w hM.mm hM.fm fp_X4_today_35 rfl rfl (Nat.le_of_ble_eq_true rfl) rfl dX4_today_2 (fun H locs w => ?_)
  obtain ⟨f5, w, hM, hF⟩ : ∃ f9, XW D A s.heap L f9 H locs ∧ ML cs L f9 mo B 0 (gN σ) (gK σ) (gT σ) (gP σ) (gB σ) (gS σ) g zz ww ∧ FM f0 f9 mo B := ⟨_, w, hM.fld _ _ _ _ _ _ _, hF.m⟩
  refine x_al_n X hl 0 rfl rfl dX4_today_5 ?_
  refine x_get X w hM.mm hM.fm fq_X4_today_76 rfl dX4_today_6 ?_
  refine x_iret X w hr hlk ⟨by decide, by decide⟩ dX4_today_9 ?_
  exact ⟨rfl, rfl, hF, ⟨_, _, _, hM, hg, hz, hw⟩⟩

theorem iw_X4_pages_X4 : ∀ w ∈ wsX40, w ∈ wsX4_pages := by decide +kernel
theorem fp_X4_pages_35 : XGn wsX4_pages RX4 35 4 0 (tyX4 0) := ⟨RX4, TX4, 14, tyX4, iw_X4_pages_X4, rfl, by decide, by decide +kernel, tyX4_ok, nmX4, rfl, by decide +kernel⟩
theorem fq_X4_pages_45 : XF wsX4_pages RX4 45 4 7 := ⟨RX4, TX4, 14, iw_X4_pages_X4, rfl, by decide, by decide +kernel⟩
set_option maxHeartbeats 4000000 in
set_option maxRecDepth 100000 in
theorem c_X4_pages (l : Launch) (D : va_G) (cs : ClassId × ClassId × ClassId) (L : List Nat) (f0 : Nat → va_E) (mo : Nat) (B : Nat → Nat) (t : Int) (σ : Sg) (hX : MX cs L f0 mo B t σ) (hI : Inv σ) : C0 l yX4_pages wsX4_pages ({ frames := 1, cells := 0, slots := 0, locals := 12 } : Room) D cs [.ref mo] L f0 (fun v L1 f1 => MPi cs L f0 mo B ((0, gK σ, σ)) v L1 f1) := by
  refine C0.of (cc := cX4_pages) (maxL := 1) (ret := (some .int)) (by decide) rfl (Nat.le_of_ble_eq_true rfl) ?_
  intro p e s m below meth c X hr hlk hin A hA w ls hl
  have hl : lv_has ls 1 [(0, .ref mo)] := hl
  obtain ⟨g, zz, ww, hM, hg, hz, hw⟩ := hX
  have hF : FM f0 f0 mo B := FM.rf _ _ _
  have hn := hI.n; have hk := hI.k; have ht := hI.t; have hsw := hI.s; have hz4 := hI.z4
  refine x_al_n X hl 0 rfl rfl dX4_pages_0 ?_
  refine x_iconst X dX4_pages_1 ?_
  refine x_put X w hM.mm hM.fm fp_X4_pages_35 rfl rfl (Nat.le_of_ble_eq_true rfl) rfl dX4_pages_2 (fun H locs w => ?_)
  obtain ⟨f5, w, hM, hF⟩ : ∃ f9, XW D A s.heap L f9 H locs ∧ ML cs L f9 mo B 0 (gN σ) (gK σ) (gT σ) (gP σ) (gB σ) (gS σ) g zz ww ∧ FM f0 f9 mo B := ⟨_, w, hM.fld _ _ _ _ _ _ _, hF.m⟩
  refine x_al_n X hl 0 rfl rfl dX4_pages_5 ?_
  refine x_get X w hM.mm hM.fm fq_X4_pages_45 rfl dX4_pages_6 ?_
  refine x_iret X w hr hlk ⟨by decide, by decide⟩ dX4_pages_9 ?_
  exact ⟨rfl, rfl, hF, ⟨_, _, _, hM, hg, hz, hw⟩⟩

theorem iw_X4_sweeping_X4 : ∀ w ∈ wsX40, w ∈ wsX4_sweeping := by decide +kernel
theorem fp_X4_sweeping_35 : XGn wsX4_sweeping RX4 35 4 0 (tyX4 0) := ⟨RX4, TX4, 14, tyX4, iw_X4_sweeping_X4, rfl, by decide, by decide +kernel, tyX4_ok, nmX4, rfl, by decide +kernel⟩
theorem fq_X4_sweeping_28 : XF wsX4_sweeping RX4 28 4 12 := ⟨RX4, TX4, 14, iw_X4_sweeping_X4, rfl, by decide, by decide +kernel⟩
set_option maxHeartbeats 4000000 in
set_option maxRecDepth 100000 in
theorem c_X4_sweeping (l : Launch) (D : va_G) (cs : ClassId × ClassId × ClassId) (L : List Nat) (f0 : Nat → va_E) (mo : Nat) (B : Nat → Nat) (t : Int) (σ : Sg) (hX : MX cs L f0 mo B t σ) (hI : Inv σ) : C0 l yX4_sweeping wsX4_sweeping ({ frames := 1, cells := 0, slots := 0, locals := 12 } : Room) D cs [.ref mo] L f0 (fun v L1 f1 => MPi cs L f0 mo B ((0, gS σ, σ)) v L1 f1) := by
  refine C0.of (cc := cX4_sweeping) (maxL := 1) (ret := (some .int)) (by decide) rfl (Nat.le_of_ble_eq_true rfl) ?_
  intro p e s m below meth c X hr hlk hin A hA w ls hl
  have hl : lv_has ls 1 [(0, .ref mo)] := hl
  obtain ⟨g, zz, ww, hM, hg, hz, hw⟩ := hX
  have hF : FM f0 f0 mo B := FM.rf _ _ _
  have hn := hI.n; have hk := hI.k; have ht := hI.t; have hsw := hI.s; have hz4 := hI.z4
  refine x_al_n X hl 0 rfl rfl dX4_sweeping_0 ?_
  refine x_iconst X dX4_sweeping_1 ?_
  refine x_put X w hM.mm hM.fm fp_X4_sweeping_35 rfl rfl (Nat.le_of_ble_eq_true rfl) rfl dX4_sweeping_2 (fun H locs w => ?_)
  obtain ⟨f5, w, hM, hF⟩ : ∃ f9, XW D A s.heap L f9 H locs ∧ ML cs L f9 mo B 0 (gN σ) (gK σ) (gT σ) (gP σ) (gB σ) (gS σ) g zz ww ∧ FM f0 f9 mo B := ⟨_, w, hM.fld _ _ _ _ _ _ _, hF.m⟩
  refine x_al_n X hl 0 rfl rfl dX4_sweeping_5 ?_
  refine x_get X w hM.mm hM.fm fq_X4_sweeping_28 rfl dX4_sweeping_6 ?_
  refine x_iret X w hr hlk ⟨by decide, by decide⟩ dX4_sweeping_9 ?_
  exact ⟨rfl, rfl, hF, ⟨_, _, _, hM, hg, hz, hw⟩⟩

theorem iw_X4_isPage_X4 : ∀ w ∈ wsX40, w ∈ wsX4_isPage := by decide +kernel
theorem fq_X4_isPage_45 : XF wsX4_isPage RX4 45 4 7 := ⟨RX4, TX4, 14, iw_X4_isPage_X4, rfl, by decide, by decide +kernel⟩
theorem k_X4_isPage_X4_in : XS wsX4_isPage RX4 38 yX4_in cX4_in 3 (some .boolean) wsX4_in 3 := ⟨gX4_isPage_X4_in, ⟨_, rfl⟩, by decide, by decide, by decide +kernel⟩
set_option maxHeartbeats 4000000 in
set_option maxRecDepth 100000 in
theorem c_X4_isPage (l : Launch) (D : va_G) (cs : ClassId × ClassId × ClassId) (L : List Nat) (f0 : Nat → va_E) (mo : Nat) (B : Nat → Nat) (t n k td kp pb sw : Int) (g : Nat → Int → Int) (zz ww : Int → Int) (pg : Int) (hM : ML cs L f0 mo B t n k td kp pb sw g zz ww) (hpg : (0 ≤ k ∧ k ≤ 80) ∧ -2147483648 ≤ pg ∧ pg < 2147483648) : C0 l yX4_isPage wsX4_isPage ({ frames := 2, cells := 0, slots := 0, locals := 34 } : Room) D cs [.ref mo, .int (iI pg)] L f0 (fun u L1 f1 => L = L1 ∧ f0 = f1 ∧ ((u = some (.int (iI 1)) ∧ 0 ≤ pg ∧ pg < k) ∨ (u = some (.int (iI 0)) ∧ ¬ (0 ≤ pg ∧ pg < k)))) := by
  refine C0.of (cc := cX4_isPage) (maxL := 2) (ret := (some .boolean)) (by decide) rfl (Nat.le_of_ble_eq_true rfl) ?_
  intro p e s m below meth c X hr hlk hin A hA w ls hl
  have hl : lv_has ls 2 [(0, .ref mo), (1, .int (iI pg))] := hl
  refine x_il_n X hl 1 rfl rfl dX4_isPage_0 ?_
  refine x_iconst X dX4_isPage_1 ?_
  refine x_al_n X hl 0 rfl rfl dX4_isPage_2 ?_
  refine x_get X w hM.mm hM.fm fq_X4_isPage_45 rfl dX4_isPage_3 ?_
  refine x_iconst X dX4_isPage_6 ?_
  refine x_isub X dX4_isPage_7 ?_
  refine x_callS (As := [.int (iI pg), .int (iI 0), .int (iI (k - 1))]) (rest := []) (c1 := 0) (s1 := 0) X w hA (c_X4_in l D cs L f0 pg 0 (k - 1) (by omega)) k_X4_isPage_X4_in (by decide) rfl hl rfl (Nat.le_of_ble_eq_true rfl) (by decide) rfl rfl dX4_isPage_8 (fun v L1 f1 H locs w hp => ?_)
  obtain ⟨rfl, rfl, hp⟩ := hp
  rcases hp with ⟨rfl, hq8⟩ | ⟨rfl, hq8⟩
  · show W p l e _ s m _ below meth c _ _ _ _ _ (F0 m 11 ls [.int (iI 1)])
    refine x_zret X w hr hlk ⟨by decide, by decide⟩ (by omega) dX4_isPage_11 ?_
    exact ⟨rfl, rfl, Or.inl ⟨rfl, by omega⟩⟩
  · show W p l e _ s m _ below meth c _ _ _ _ _ (F0 m 11 ls [.int (iI 0)])
    refine x_zret X w hr hlk ⟨by decide, by decide⟩ (by omega) dX4_isPage_11 ?_
    exact ⟨rfl, rfl, Or.inr ⟨rfl, by omega⟩⟩

theorem k_X4_size_X4_isPage : XV wsX4_size RX4 97 RX4 yX4_isPage cX4_isPage 2 (some .boolean) wsX4_isPage 1 := ⟨gX4_size_X4_isPage, ⟨_, rfl⟩, rfl, by decide, by decide, by decide +kernel⟩
theorem k_X4_size_X4_goesWell : XV wsX4_size RX4 63 RX4 yX4_goesWell cX4_goesWell 2 (some .boolean) wsX4_goesWell 1 := ⟨gX4_size_X4_goesWell, ⟨_, rfl⟩, rfl, by decide, by decide, by decide +kernel⟩
theorem iw_X4_size_X4 : ∀ w ∈ wsX40, w ∈ wsX4_size := by decide +kernel
theorem fq_X4_size_25 : XF wsX4_size RX4 25 4 8 := ⟨RX4, TX4, 14, iw_X4_size_X4, rfl, by decide, by decide +kernel⟩
set_option maxHeartbeats 4000000 in
set_option maxRecDepth 100000 in
theorem c_X4_size (l : Launch) (D : va_G) (cs : ClassId × ClassId × ClassId) (L : List Nat) (f0 : Nat → va_E) (mo : Nat) (B : Nat → Nat) (t : Int) (σ : Sg) (pg : Int) (hX : MX cs L f0 mo B t σ) (hI : Inv σ) (hrg : (-2147483648 ≤ pg ∧ pg < 2147483648)) : C0 l yX4_size wsX4_size ({ frames := 3, cells := 0, slots := 0, locals := 55 } : Room) D cs [.ref mo, .int (iI pg)] L f0 (fun v L1 f1 => MPi cs L f0 mo B (oSiz pg σ) v L1 f1) := by
  refine C0.of (cc := cX4_size) (maxL := 2) (ret := (some .int)) (by decide) rfl (Nat.le_of_ble_eq_true rfl) ?_
  intro p e s m below meth c X hr hlk hin A hA w ls hl
  have hl : lv_has ls 2 [(0, .ref mo), (1, .int (iI pg))] := hl
  obtain ⟨g, zz, ww, hM, hg, hz, hw⟩ := hX
  have hF : FM f0 f0 mo B := FM.rf _ _ _
  have hn := hI.n; have hk := hI.k; have ht := hI.t; have hsw := hI.s; have hz4 := hI.z4
  refine x_al_n X hl 0 rfl rfl dX4_size_0 ?_
  refine x_al_n X hl 0 rfl rfl dX4_size_1 ?_
  refine x_il_n X hl 1 rfl rfl dX4_size_2 ?_
  refine x_callV (As := [.int (iI pg)]) (rest := [.ref mo]) (c1 := 0) (s1 := 0) X w hA (c_X4_isPage l D cs L f0 mo B t (gN σ) (gK σ) (gT σ) (gP σ) (gB σ) (gS σ) g zz ww pg hM (by omega)) k_X4_size_X4_isPage (by decide) hM.mm hM.fm rfl rfl rfl hl rfl (Nat.le_of_ble_eq_true rfl) (by decide) rfl rfl dX4_size_3 (fun v L1 f1 H locs w hp => ?_)
  obtain ⟨rfl, rfl, hp⟩ := hp
  rcases hp with ⟨rfl, hq3⟩ | ⟨rfl, hq3⟩
  · show W p l e _ s m _ below meth c _ _ _ _ _ (F0 m 6 ls [.int (iI 1), .ref mo])
    refine x_ifF_eq (tgt := 13) X (by decide) (by decide) (by decide) dX4_size_6 ?_
    refine x_iconst X dX4_size_9 ?_
    refine x_goto (tgt := 14) X (by decide) dX4_size_10 ?_
    refine x_callV (As := [.int (iI 0)]) (rest := []) (c1 := 0) (s1 := 0) X w hA (c_X4_goesWell l D cs L f0 mo B t (gN σ) (gK σ) (gT σ) (gP σ) (gB σ) (gS σ) g zz ww 0 hM (by omega)) k_X4_size_X4_goesWell (by decide) hM.mm hM.fm rfl rfl rfl hl rfl (Nat.le_of_ble_eq_true rfl) (by decide) rfl rfl dX4_size_14 (fun v L1 f1 H locs w hp => ?_)
    obtain ⟨rfl, hfm, hM, hp⟩ := hp
    have hF := hF.tr hfm
    rcases hp with ⟨rfl, hq14⟩ | ⟨rfl, hq14⟩
    · show W p l e _ s m _ below meth c _ _ _ _ _ (F0 m 17 ls [.int (iI 1)])
      refine x_ifF_eq (tgt := 29) X (by decide) (by decide) (by decide) dX4_size_17 ?_
      refine x_al_n X hl 0 rfl rfl dX4_size_20 ?_
      refine x_get X w hM.mm hM.fm fq_X4_size_25 rfl dX4_size_21 ?_
      refine x_il_n X hl 1 rfl rfl dX4_size_24 ?_
      refine x_ialdv (v := (gZ σ) pg) X w hM.m8 hM.f8 (by omega) (hz pg (by omega) (by omega)) dX4_size_25 ?_
      refine x_goto (tgt := 30) X (by decide) dX4_size_26 ?_
      refine x_iret X w hr hlk ⟨by decide, by decide⟩ dX4_size_30 ?_
      have ho : oSiz pg σ = (0, gZ σ pg, σ) := if_pos (by omega)
      rw [ho]
      exact ⟨rfl, rfl, hF, ⟨_, _, _, hM, hg, hz, hw⟩⟩
    · exfalso; omega
  · show W p l e _ s m _ below meth c _ _ _ _ _ (F0 m 6 ls [.int (iI 0), .ref mo])
    refine x_ifT_eq (tgt := 13) X (by decide) (by decide) (by decide) dX4_size_6 ?_
    refine x_iconst X dX4_size_13 ?_
    refine x_callV (As := [.int (iI 1)]) (rest := []) (c1 := 0) (s1 := 0) X w hA (c_X4_goesWell l D cs L f0 mo B t (gN σ) (gK σ) (gT σ) (gP σ) (gB σ) (gS σ) g zz ww 1 hM (by omega)) k_X4_size_X4_goesWell (by decide) hM.mm hM.fm rfl rfl rfl hl rfl (Nat.le_of_ble_eq_true rfl) (by decide) rfl rfl dX4_size_14 (fun v L1 f1 H locs w hp => ?_)
    obtain ⟨rfl, hfm, hM, hp⟩ := hp
    have hF := hF.tr hfm
    rcases hp with ⟨rfl, hq14⟩ | ⟨rfl, hq14⟩
    · exfalso; omega
    · show W p l e _ s m _ below meth c _ _ _ _ _ (F0 m 17 ls [.int (iI 0)])
      refine x_ifT_eq (tgt := 29) X (by decide) (by decide) (by decide) dX4_size_17 ?_
      refine x_iconst X dX4_size_29 ?_
      refine x_iret X w hr hlk ⟨by decide, by decide⟩ dX4_size_30 ?_
      have ho : oSiz pg σ = (1, 0, σ) := if_neg (by omega)
      rw [ho]
      exact ⟨rfl, rfl, hF, ⟨_, _, _, hM, hg, hz, hw⟩⟩

theorem k_X4_at_X4_isPage : XV wsX4_at RX4 97 RX4 yX4_isPage cX4_isPage 2 (some .boolean) wsX4_isPage 1 := ⟨gX4_at_X4_isPage, ⟨_, rfl⟩, rfl, by decide, by decide, by decide +kernel⟩
theorem iw_X4_at_X4 : ∀ w ∈ wsX40, w ∈ wsX4_at := by decide +kernel
theorem fq_X4_at_25 : XF wsX4_at RX4 25 4 8 := ⟨RX4, TX4, 14, iw_X4_at_X4, rfl, by decide, by decide +kernel⟩
theorem k_X4_at_X4_in : XS wsX4_at RX4 38 yX4_in cX4_in 3 (some .boolean) wsX4_in 3 := ⟨gX4_at_X4_in, ⟨_, rfl⟩, by decide, by decide, by decide +kernel⟩
theorem k_X4_at_X4_goesWell : XV wsX4_at RX4 63 RX4 yX4_goesWell cX4_goesWell 2 (some .boolean) wsX4_goesWell 1 := ⟨gX4_at_X4_goesWell, ⟨_, rfl⟩, rfl, by decide, by decide, by decide +kernel⟩
theorem fq_X4_at_7 : XF wsX4_at RX4 7 4 2 := ⟨RX4, TX4, 14, iw_X4_at_X4, rfl, by decide, by decide +kernel⟩
theorem k_X4_at_X4_beginOf : XV wsX4_at RX4 48 RX4 yX4_beginOf cX4_beginOf 4 (some .int) wsX4_beginOf 1 := ⟨gX4_at_X4_beginOf, ⟨_, rfl⟩, rfl, by decide, by decide, by decide +kernel⟩
set_option maxHeartbeats 4000000 in
set_option maxRecDepth 100000 in
theorem c_X4_at (l : Launch) (D : va_G) (cs : ClassId × ClassId × ClassId) (L : List Nat) (f0 : Nat → va_E) (mo : Nat) (B : Nat → Nat) (t : Int) (σ : Sg) (pg pl : Int) (hX : MX cs L f0 mo B t σ) (hI : Inv σ) (hrg : (-2147483648 ≤ pg ∧ pg < 2147483648) ∧ (-2147483648 ≤ pl ∧ pl < 2147483648)) : C0 l yX4_at wsX4_at ({ frames := 3, cells := 0, slots := 0, locals := 55 } : Room) D cs [.ref mo, .int (iI pg), .int (iI pl)] L f0 (fun v L1 f1 => MPi cs L f0 mo B (oAt pg pl σ) v L1 f1) := by
  refine C0.of (cc := cX4_at) (maxL := 4) (ret := (some .int)) (by decide) rfl (Nat.le_of_ble_eq_true rfl) ?_
  intro p e s m below meth c X hr hlk hin A hA w ls hl
  have hl : lv_has ls 4 [(0, .ref mo), (1, .int (iI pg)), (2, .int (iI pl))] := hl
  obtain ⟨g, zz, ww, hM, hg, hz, hw⟩ := hX
  have hF : FM f0 f0 mo B := FM.rf _ _ _
  have hn := hI.n; have hk := hI.k; have ht := hI.t; have hsw := hI.s; have hz4 := hI.z4
  refine x_al_n X hl 0 rfl rfl dX4_at_0 ?_
  refine x_il_n X hl 1 rfl rfl dX4_at_1 ?_
  refine x_callV (As := [.int (iI pg)]) (rest := []) (c1 := 0) (s1 := 0) X w hA (c_X4_isPage l D cs L f0 mo B t (gN σ) (gK σ) (gT σ) (gP σ) (gB σ) (gS σ) g zz ww pg hM (by omega)) k_X4_at_X4_isPage (by decide) hM.mm hM.fm rfl rfl rfl hl rfl (Nat.le_of_ble_eq_true rfl) (by decide) rfl rfl dX4_at_2 (fun v L1 f1 H locs w hp => ?_)
  obtain ⟨rfl, rfl, hp⟩ := hp
  rcases hp with ⟨rfl, hq2⟩ | ⟨rfl, hq2⟩
  · show W p l e _ s m _ below meth c _ _ _ _ _ (F0 m 5 ls [.int (iI 1)])
    refine x_ifF_eq (tgt := 28) X (by decide) (by decide) (by decide) dX4_at_5 ?_
    have hzz := hz4 pg (by omega) (by omega)
    refine x_il_n X hl 2 rfl rfl dX4_at_8 ?_
    refine x_iconst X dX4_at_9 ?_
    refine x_al_n X hl 0 rfl rfl dX4_at_10 ?_
    refine x_get X w hM.mm hM.fm fq_X4_at_25 rfl dX4_at_11 ?_
    refine x_il_n X hl 1 rfl rfl dX4_at_14 ?_
    refine x_ialdv (v := (gZ σ) pg) X w hM.m8 hM.f8 (by omega) (hz pg (by omega) (by omega)) dX4_at_15 ?_
    refine x_iconst X dX4_at_16 ?_
    refine x_isub X dX4_at_17 ?_
    refine x_callS (As := [.int (iI pl), .int (iI 0), .int (iI (((gZ σ) pg) - 1))]) (rest := []) (c1 := 0) (s1 := 0) X w hA (c_X4_in l D cs L f0 pl 0 (((gZ σ) pg) - 1) (by omega)) k_X4_at_X4_in (by decide) rfl hl rfl (Nat.le_of_ble_eq_true rfl) (by decide) rfl rfl dX4_at_18 (fun v L1 f1 H locs w hp => ?_)
    obtain ⟨rfl, rfl, hp⟩ := hp
    rcases hp with ⟨rfl, hq18⟩ | ⟨rfl, hq18⟩
    · show W p l e _ s m _ below meth c _ _ _ _ _ (F0 m 21 ls [.int (iI 1)])
      refine x_ifF_eq (tgt := 28) X (by decide) (by decide) (by decide) dX4_at_21 ?_
      refine x_iconst X dX4_at_24 ?_
      refine x_goto (tgt := 29) X (by decide) dX4_at_25 ?_
      refine x_is_n (lv' := [(3, .int (iI 1)), (0, .ref mo), (1, .int (iI pg)), (2, .int (iI pl))]) X hl rfl (by decide) rfl dX4_at_29 (fun ls hl => ?_)
      refine x_al_n X hl 1 rfl rfl dX4_at_30 ?_
      refine x_il_n X hl 0 rfl rfl dX4_at_31 ?_
      refine x_ifF_eq (tgt := 39) X (by decide) (by decide) (by decide) dX4_at_32 ?_
      refine x_iconst X dX4_at_35 ?_
      refine x_goto (tgt := 40) X (by decide) dX4_at_36 ?_
      refine x_callV (As := [.int (iI 0)]) (rest := []) (c1 := 0) (s1 := 0) X w hA (c_X4_goesWell l D cs L f0 mo B t (gN σ) (gK σ) (gT σ) (gP σ) (gB σ) (gS σ) g zz ww 0 hM (by omega)) k_X4_at_X4_goesWell (by decide) hM.mm hM.fm rfl rfl rfl hl rfl (Nat.le_of_ble_eq_true rfl) (by decide) rfl rfl dX4_at_40 (fun v L1 f1 H locs w hp => ?_)
      obtain ⟨rfl, hfm, hM, hp⟩ := hp
      have hF := hF.tr hfm
      rcases hp with ⟨rfl, hq40⟩ | ⟨rfl, hq40⟩
      · show W p l e _ s m _ below meth c _ _ _ _ _ (F0 m 43 ls [.int (iI 1)])
        refine x_ifF_eq (tgt := 61) X (by decide) (by decide) (by decide) dX4_at_43 ?_
        have h1s := sm_b hz4 (p := pg) (by omega)
        have h2s := sm_s (gZ σ) (p := pg) (by omega)
        have h3s := sm_mo hI.z0 (a := pg + 1) (b := gK σ) (by omega)
        rw [hI.sm] at h3s
        refine x_al_n X hl 1 rfl rfl dX4_at_46 ?_
        refine x_get X w hM.mm hM.fm fq_X4_at_7 rfl dX4_at_47 ?_
        refine x_al_n X hl 1 rfl rfl dX4_at_50 ?_
        refine x_il_n X hl 2 rfl rfl dX4_at_51 ?_
        refine x_callV (As := [.int (iI pg)]) (rest := [.ref (B 2)]) (c1 := 0) (s1 := 0) X w hA (c_X4_beginOf l D cs L f1 mo B 0 (gN σ) (gK σ) (gT σ) (gP σ) (gB σ) (gS σ) g zz ww (gZ σ) pg hM hz (by omega)) k_X4_at_X4_beginOf (by decide) hM.mm hM.fm rfl rfl rfl hl rfl (Nat.le_of_ble_eq_true rfl) (by decide) rfl rfl dX4_at_52 (fun v L1 f1 H locs w hp => ?_)
        obtain ⟨rfl, rfl, hp⟩ := hp
        subst hp
        show W p l e _ s m _ below meth c _ _ _ _ _ (F0 m 55 ls [.int (iI (sm (gZ σ) pg)), .ref (B 2)])
        refine x_il_n X hl 3 rfl rfl dX4_at_55 ?_
        refine x_iadd X dX4_at_56 ?_
        refine x_ialdv (v := (gR σ) ((sm (gZ σ) pg) + pl) 0) X w hM.m2 hM.f2 (by omega) (hg ((sm (gZ σ) pg) + pl) (by omega) (by omega) 0 (by decide)) dX4_at_57 ?_
        refine x_goto (tgt := 62) X (by decide) dX4_at_58 ?_
        refine x_iret X w hr hlk ⟨by decide, by decide⟩ dX4_at_62 ?_
        have ho : oAt pg pl σ = (0, gR σ (sm (gZ σ) pg + pl) 0, σ) := if_pos (by omega)
        rw [ho]
        exact ⟨rfl, rfl, hF, ⟨_, _, _, hM, hg, hz, hw⟩⟩
      · exfalso; omega
    · show W p l e _ s m _ below meth c _ _ _ _ _ (F0 m 21 ls [.int (iI 0)])
      refine x_ifT_eq (tgt := 28) X (by decide) (by decide) (by decide) dX4_at_21 ?_
      refine x_iconst X dX4_at_28 ?_
      refine x_is_n (lv' := [(3, .int (iI 0)), (0, .ref mo), (1, .int (iI pg)), (2, .int (iI pl))]) X hl rfl (by decide) rfl dX4_at_29 (fun ls hl => ?_)
      refine x_al_n X hl 1 rfl rfl dX4_at_30 ?_
      refine x_il_n X hl 0 rfl rfl dX4_at_31 ?_
      refine x_ifT_eq (tgt := 39) X (by decide) (by decide) (by decide) dX4_at_32 ?_
      refine x_iconst X dX4_at_39 ?_
      refine x_callV (As := [.int (iI 1)]) (rest := []) (c1 := 0) (s1 := 0) X w hA (c_X4_goesWell l D cs L f0 mo B t (gN σ) (gK σ) (gT σ) (gP σ) (gB σ) (gS σ) g zz ww 1 hM (by omega)) k_X4_at_X4_goesWell (by decide) hM.mm hM.fm rfl rfl rfl hl rfl (Nat.le_of_ble_eq_true rfl) (by decide) rfl rfl dX4_at_40 (fun v L1 f1 H locs w hp => ?_)
      obtain ⟨rfl, hfm, hM, hp⟩ := hp
      have hF := hF.tr hfm
      rcases hp with ⟨rfl, hq40⟩ | ⟨rfl, hq40⟩
      · exfalso; omega
      · show W p l e _ s m _ below meth c _ _ _ _ _ (F0 m 43 ls [.int (iI 0)])
        refine x_ifT_eq (tgt := 61) X (by decide) (by decide) (by decide) dX4_at_43 ?_
        refine x_iconst X dX4_at_61 ?_
        refine x_iret X w hr hlk ⟨by decide, by decide⟩ dX4_at_62 ?_
        have ho : oAt pg pl σ = (1, 0, σ) := if_neg (by omega)
        rw [ho]
        exact ⟨rfl, rfl, hF, ⟨_, _, _, hM, hg, hz, hw⟩⟩
  · show W p l e _ s m _ below meth c _ _ _ _ _ (F0 m 5 ls [.int (iI 0)])
    refine x_ifT_eq (tgt := 28) X (by decide) (by decide) (by decide) dX4_at_5 ?_
    refine x_iconst X dX4_at_28 ?_
    refine x_is_n (lv' := [(3, .int (iI 0)), (0, .ref mo), (1, .int (iI pg)), (2, .int (iI pl))]) X hl rfl (by decide) rfl dX4_at_29 (fun ls hl => ?_)
    refine x_al_n X hl 1 rfl rfl dX4_at_30 ?_
    refine x_il_n X hl 0 rfl rfl dX4_at_31 ?_
    refine x_ifT_eq (tgt := 39) X (by decide) (by decide) (by decide) dX4_at_32 ?_
    refine x_iconst X dX4_at_39 ?_
    refine x_callV (As := [.int (iI 1)]) (rest := []) (c1 := 0) (s1 := 0) X w hA (c_X4_goesWell l D cs L f0 mo B t (gN σ) (gK σ) (gT σ) (gP σ) (gB σ) (gS σ) g zz ww 1 hM (by omega)) k_X4_at_X4_goesWell (by decide) hM.mm hM.fm rfl rfl rfl hl rfl (Nat.le_of_ble_eq_true rfl) (by decide) rfl rfl dX4_at_40 (fun v L1 f1 H locs w hp => ?_)
    obtain ⟨rfl, hfm, hM, hp⟩ := hp
    have hF := hF.tr hfm
    rcases hp with ⟨rfl, hq40⟩ | ⟨rfl, hq40⟩
    · exfalso; omega
    · show W p l e _ s m _ below meth c _ _ _ _ _ (F0 m 43 ls [.int (iI 0)])
      refine x_ifT_eq (tgt := 61) X (by decide) (by decide) (by decide) dX4_at_43 ?_
      refine x_iconst X dX4_at_61 ?_
      refine x_iret X w hr hlk ⟨by decide, by decide⟩ dX4_at_62 ?_
      have ho : oAt pg pl σ = (1, 0, σ) := if_neg (by omega)
      rw [ho]
      exact ⟨rfl, rfl, hF, ⟨_, _, _, hM, hg, hz, hw⟩⟩

theorem iw_X4_sweep_X4 : ∀ w ∈ wsX40, w ∈ wsX4_sweep := by decide +kernel
theorem fq_X4_sweep_28 : XF wsX4_sweep RX4 28 4 12 := ⟨RX4, TX4, 14, iw_X4_sweep_X4, rfl, by decide, by decide +kernel⟩
theorem k_X4_sweep_X4_goesWell : XV wsX4_sweep RX4 63 RX4 yX4_goesWell cX4_goesWell 2 (some .boolean) wsX4_goesWell 1 := ⟨gX4_sweep_X4_goesWell, ⟨_, rfl⟩, rfl, by decide, by decide, by decide +kernel⟩
theorem fp_X4_sweep_28 : XGn wsX4_sweep RX4 28 4 12 (tyX4 12) := ⟨RX4, TX4, 14, tyX4, iw_X4_sweep_X4, rfl, by decide, by decide +kernel, tyX4_ok, nmX4, rfl, by decide +kernel⟩
set_option maxHeartbeats 4000000 in
set_option maxRecDepth 100000 in
theorem c_X4_sweep (l : Launch) (D : va_G) (cs : ClassId × ClassId × ClassId) (L : List Nat) (f0 : Nat → va_E) (mo : Nat) (B : Nat → Nat) (t : Int) (σ : Sg) (hX : MX cs L f0 mo B t σ) (hI : Inv σ) : C0 l yX4_sweep wsX4_sweep ({ frames := 2, cells := 0, slots := 0, locals := 33 } : Room) D cs [.ref mo] L f0 (fun v L1 f1 => MPv cs L f0 mo B (oSwe σ) v L1 f1) := by
  refine C0.of (cc := cX4_sweep) (maxL := 1) (ret := none) (by decide) rfl (Nat.le_of_ble_eq_true rfl) ?_
  intro p e s m below meth c X hr hlk hin A hA w ls hl
  have hl : lv_has ls 1 [(0, .ref mo)] := hl
  obtain ⟨g, zz, ww, hM, hg, hz, hw⟩ := hX
  have hF : FM f0 f0 mo B := FM.rf _ _ _
  have hn := hI.n; have hk := hI.k; have ht := hI.t; have hsw := hI.s; have hz4 := hI.z4
  refine x_al_n X hl 0 rfl rfl dX4_sweep_0 ?_
  refine x_al_n X hl 0 rfl rfl dX4_sweep_1 ?_
  refine x_get X w hM.mm hM.fm fq_X4_sweep_28 rfl dX4_sweep_2 ?_
  refine x_iconst X dX4_sweep_5 ?_
  refine x_icmp_ne (tgt := 13) X (by omega) (by decide) dX4_sweep_6 (fun hb6 => ?_) (fun hb6 => ?_)
  · refine x_iconst X dX4_sweep_13 ?_
    refine x_callV (As := [.int (iI 1)]) (rest := []) (c1 := 0) (s1 := 0) X w hA (c_X4_goesWell l D cs L f0 mo B t (gN σ) (gK σ) (gT σ) (gP σ) (gB σ) (gS σ) g zz ww 1 hM (by omega)) k_X4_sweep_X4_goesWell (by decide) hM.mm hM.fm rfl rfl rfl hl rfl (Nat.le_of_ble_eq_true rfl) (by decide) rfl rfl dX4_sweep_14 (fun v L1 f1 H locs w hp => ?_)
    obtain ⟨rfl, hfm, hM, hp⟩ := hp
    have hF := hF.tr hfm
    rcases hp with ⟨rfl, hq14⟩ | ⟨rfl, hq14⟩
    · exfalso; omega
    · show W p l e _ s m _ below meth c _ _ _ _ _ (F0 m 17 ls [.int (iI 0)])
      refine x_ifT_eq (tgt := 25) X (by decide) (by decide) (by decide) dX4_sweep_17 ?_
      refine x_vret X w hr hlk ⟨by decide, by decide⟩ dX4_sweep_25 ?_
      have ho : oSwe σ = (1, 0, σ) := if_neg (by omega)
      rw [ho]
      exact ⟨rfl, rfl, hF, ⟨_, _, _, hM, hg, hz, hw⟩⟩
  · refine x_iconst X dX4_sweep_9 ?_
    refine x_goto (tgt := 14) X (by decide) dX4_sweep_10 ?_
    refine x_callV (As := [.int (iI 0)]) (rest := []) (c1 := 0) (s1 := 0) X w hA (c_X4_goesWell l D cs L f0 mo B t (gN σ) (gK σ) (gT σ) (gP σ) (gB σ) (gS σ) g zz ww 0 hM (by omega)) k_X4_sweep_X4_goesWell (by decide) hM.mm hM.fm rfl rfl rfl hl rfl (Nat.le_of_ble_eq_true rfl) (by decide) rfl rfl dX4_sweep_14 (fun v L1 f1 H locs w hp => ?_)
    obtain ⟨rfl, hfm, hM, hp⟩ := hp
    have hF := hF.tr hfm
    rcases hp with ⟨rfl, hq14⟩ | ⟨rfl, hq14⟩
    · show W p l e _ s m _ below meth c _ _ _ _ _ (F0 m 17 ls [.int (iI 1)])
      refine x_ifF_eq (tgt := 25) X (by decide) (by decide) (by decide) dX4_sweep_17 ?_
      refine x_al_n X hl 0 rfl rfl dX4_sweep_20 ?_
      refine x_iconst X dX4_sweep_21 ?_
      refine x_put X w hM.mm hM.fm fp_X4_sweep_28 rfl rfl (Nat.le_of_ble_eq_true rfl) rfl dX4_sweep_22 (fun H locs w => ?_)
      obtain ⟨f25, w, hM, hF⟩ : ∃ f9, XW D A s.heap L f9 H locs ∧ ML cs L f9 mo B 0 (gN σ) (gK σ) (gT σ) (gP σ) (gB σ) 0 g zz ww ∧ FM f0 f9 mo B := ⟨_, w, hM.fld _ _ _ _ _ _ _, hF.m⟩
      refine x_vret X w hr hlk ⟨by decide, by decide⟩ dX4_sweep_25 ?_
      have ho : oSwe σ = (0, 0, oSetS 0 σ) := if_pos (by omega)
      rw [ho]
      exact ⟨rfl, rfl, hF, ⟨_, _, _, hM, hg, hz, hw⟩⟩
    · exfalso; omega

theorem k_X4_walk_X4_in : XS wsX4_walk RX4 38 yX4_in cX4_in 3 (some .boolean) wsX4_in 3 := ⟨gX4_walk_X4_in, ⟨_, rfl⟩, by decide, by decide, by decide +kernel⟩
theorem k_X4_walk_X4_goesWell : XV wsX4_walk RX4 63 RX4 yX4_goesWell cX4_goesWell 2 (some .boolean) wsX4_goesWell 1 := ⟨gX4_walk_X4_goesWell, ⟨_, rfl⟩, rfl, by decide, by decide, by decide +kernel⟩
theorem iw_X4_walk_X4 : ∀ w ∈ wsX40, w ∈ wsX4_walk := by decide +kernel
theorem fq_X4_walk_42 : XF wsX4_walk RX4 42 4 1 := ⟨RX4, TX4, 14, iw_X4_walk_X4, rfl, by decide, by decide +kernel⟩
theorem fq_X4_walk_32 : XF wsX4_walk RX4 32 4 13 := ⟨RX4, TX4, 14, iw_X4_walk_X4, rfl, by decide, by decide +kernel⟩
theorem fq_X4_walk_7 : XF wsX4_walk RX4 7 4 2 := ⟨RX4, TX4, 14, iw_X4_walk_X4, rfl, by decide, by decide +kernel⟩
set_option maxHeartbeats 4000000 in
set_option maxRecDepth 100000 in
theorem c_X4_walk (l : Launch) (D : va_G) (cs : ClassId × ClassId × ClassId) (L : List Nat) (f0 : Nat → va_E) (mo : Nat) (B : Nat → Nat) (t : Int) (σ : Sg) (rd : Int) (hX : MX cs L f0 mo B t σ) (hI : Inv σ) (hrg : (-2147483648 ≤ rd ∧ rd < 2147483648)) : C0 l yX4_walk wsX4_walk ({ frames := 2, cells := 0, slots := 0, locals := 34 } : Room) D cs [.ref mo, .int (iI rd)] L f0 (fun v L1 f1 => MPi cs L f0 mo B (oWal rd σ) v L1 f1) := by
  refine C0.of (cc := cX4_walk) (maxL := 3) (ret := (some .int)) (by decide) rfl (Nat.le_of_ble_eq_true rfl) ?_
  intro p e s m below meth c X hr hlk hin A hA w ls hl
  have hl : lv_has ls 3 [(0, .ref mo), (1, .int (iI rd))] := hl
  obtain ⟨g, zz, ww, hM, hg, hz, hw⟩ := hX
  have hF : FM f0 f0 mo B := FM.rf _ _ _
  have hn := hI.n; have hk := hI.k; have ht := hI.t; have hsw := hI.s; have hz4 := hI.z4
  refine x_al_n X hl 0 rfl rfl dX4_walk_0 ?_
  refine x_il_n X hl 1 rfl rfl dX4_walk_1 ?_
  refine x_iconst X dX4_walk_2 ?_
  refine x_iconst X dX4_walk_3 ?_
  refine x_callS (As := [.int (iI rd), .int (iI 0), .int (iI 3)]) (rest := [.ref mo]) (c1 := 0) (s1 := 0) X w hA (c_X4_in l D cs L f0 rd 0 3 (by omega)) k_X4_walk_X4_in (by decide) rfl hl rfl (Nat.le_of_ble_eq_true rfl) (by decide) rfl rfl dX4_walk_4 (fun v L1 f1 H locs w hp => ?_)
  obtain ⟨rfl, rfl, hp⟩ := hp
  rcases hp with ⟨rfl, hq4⟩ | ⟨rfl, hq4⟩
  · show W p l e _ s m _ below meth c _ _ _ _ _ (F0 m 7 ls [.int (iI 1), .ref mo])
    refine x_ifF_eq (tgt := 14) X (by decide) (by decide) (by decide) dX4_walk_7 ?_
    refine x_iconst X dX4_walk_10 ?_
    refine x_goto (tgt := 15) X (by decide) dX4_walk_11 ?_
    refine x_callV (As := [.int (iI 0)]) (rest := []) (c1 := 0) (s1 := 0) X w hA (c_X4_goesWell l D cs L f0 mo B t (gN σ) (gK σ) (gT σ) (gP σ) (gB σ) (gS σ) g zz ww 0 hM (by omega)) k_X4_walk_X4_goesWell (by decide) hM.mm hM.fm rfl rfl rfl hl rfl (Nat.le_of_ble_eq_true rfl) (by decide) rfl rfl dX4_walk_15 (fun v L1 f1 H locs w hp => ?_)
    obtain ⟨rfl, hfm, hM, hp⟩ := hp
    have hF := hF.tr hfm
    rcases hp with ⟨rfl, hq15⟩ | ⟨rfl, hq15⟩
    · show W p l e _ s m _ below meth c _ _ _ _ _ (F0 m 18 ls [.int (iI 1)])
      refine x_ifT_ne (tgt := 23) X (by decide) (by decide) (by decide) dX4_walk_18 ?_
      refine x_iconst X dX4_walk_23 ?_
      refine x_is_n (lv' := [(2, .int (iI 0)), (0, .ref mo), (1, .int (iI rd))]) X hl rfl (by decide) rfl dX4_walk_24 (fun ls hl => ?_)
      have loop25 : ∀ (N9 : Nat) (i : Int) (H : Heap) (locs : List Loc) (ls : Array Slot), (gN σ - i).toNat < N9 → (0 ≤ i ∧ i ≤ gN σ) → (∀ j, 0 ≤ j → j < i → gR σ j 0 ≤ gW σ rd) → XW D A s.heap L f1 H locs → lv_has ls 3 [(0, .ref mo), (1, .int (iI rd)), (2, .int (iI i))] → W p l e ({ frames := 2, cells := 0, slots := 0, locals := 34 } : Room) s m ([.ref mo, .int (iI rd)] : List Value).toArray below meth c H locs 0 0 (MQ below (CQ D cs A (fun v L1 f1 => MPi cs L f0 mo B (oWal rd σ) v L1 f1)) ([.ref mo, .int (iI rd)] : List Value).toArray s 0 0 A) (F0 m 25 ls []) := by
        intro N9
        induction N9 with
        | zero => intro i H locs ls h9; exact absurd h9 (Nat.not_lt_zero _)
        | succ N9 ih25 =>
          intro i H locs ls h9 hi hj w hl
          refine x_il_n X hl 2 rfl rfl dX4_walk_25 ?_
          refine x_al_n X hl 0 rfl rfl dX4_walk_26 ?_
          refine x_get X w hM.mm hM.fm fq_X4_walk_42 rfl dX4_walk_27 ?_
          refine x_icmp_ge (tgt := 54) X (by omega) (by decide) dX4_walk_30 (fun hb30 => ?_) (fun hb30 => ?_)
          · have hcu : cu (gR σ) (gN σ) (gW σ rd) = i := cu_eq ⟨by omega, by omega, hj, fun h9 => by omega⟩
            refine x_al_n X hl 0 rfl rfl dX4_walk_54 ?_
            refine x_get X w hM.mm hM.fm fq_X4_walk_32 rfl dX4_walk_55 ?_
            refine x_il_n X hl 1 rfl rfl dX4_walk_58 ?_
            refine x_il_n X hl 2 rfl rfl dX4_walk_59 ?_
            refine x_al_n X hl 0 rfl rfl dX4_walk_60 ?_
            refine x_get X w hM.mm hM.fm fq_X4_walk_42 rfl dX4_walk_61 ?_
            refine x_icmp_ne (tgt := 71) X (by omega) (by decide) dX4_walk_64 (fun hb64 => ?_) (fun hb64 => ?_)
            · refine x_al_n X hl 0 rfl rfl dX4_walk_71 ?_
              refine x_get X w hM.mm hM.fm fq_X4_walk_7 rfl dX4_walk_72 ?_
              refine x_il_n X hl 2 rfl rfl dX4_walk_75 ?_
              refine x_ialdv (v := (gR σ) i 0) X w hM.m2 hM.f2 (by omega) (hg i (by omega) (by omega) 0 (by decide)) dX4_walk_76 ?_
              refine x_iast X w hM.m13 hM.f13 (by omega) dX4_walk_77 (fun H locs w => ?_)
              obtain ⟨f78, ww78, w, hM, hF, hw78⟩ : ∃ f9 z9, XW D A s.heap L f9 H locs ∧ ML cs L f9 mo B 0 (gN σ) (gK σ) (gT σ) (gP σ) (gB σ) (gS σ) g zz z9 ∧ FM f0 f9 mo B ∧ (∀ j, 0 ≤ j → j < 4 → z9 j = (uI (gW σ) rd ((gR σ) i 0)) j) := ⟨_, _, w, hM.wwr, hF.a 13, ag_u hw⟩
              refine x_al_n X hl 0 rfl rfl dX4_walk_78 ?_
              refine x_get X w hM.mm hM.fm fq_X4_walk_32 rfl dX4_walk_79 ?_
              refine x_il_n X hl 1 rfl rfl dX4_walk_82 ?_
              refine x_ialdv (v := (gR σ) i 0) X w hM.m13 hM.f13 (by omega) ((hw78 rd (by omega) (by omega)).trans (uI_s _ _ _)) dX4_walk_83 ?_
              refine x_iret X w hr hlk ⟨by decide, by decide⟩ dX4_walk_84 ?_
              have he9 : wkV rd σ = (gR σ) i 0 := by unfold wkV; rw [hcu]; exact if_pos (by omega)
              have ho : oWal rd σ = (0, (gR σ) i 0, oSetW (uI (gW σ) rd ((gR σ) i 0)) σ) := (if_pos (by omega)).trans (by rw [he9])
              rw [ho]
              exact ⟨rfl, rfl, hF, ⟨_, _, _, hM, hg, hz, hw78⟩⟩
            · refine x_iconst X dX4_walk_67 ?_
              refine x_goto (tgt := 77) X (by decide) dX4_walk_68 ?_
              refine x_iast X w hM.m13 hM.f13 (by omega) dX4_walk_77 (fun H locs w => ?_)
              obtain ⟨f78, ww78, w, hM, hF, hw78⟩ : ∃ f9 z9, XW D A s.heap L f9 H locs ∧ ML cs L f9 mo B 0 (gN σ) (gK σ) (gT σ) (gP σ) (gB σ) (gS σ) g zz z9 ∧ FM f0 f9 mo B ∧ (∀ j, 0 ≤ j → j < 4 → z9 j = (uI (gW σ) rd (-1)) j) := ⟨_, _, w, hM.wwr, hF.a 13, ag_u hw⟩
              refine x_al_n X hl 0 rfl rfl dX4_walk_78 ?_
              refine x_get X w hM.mm hM.fm fq_X4_walk_32 rfl dX4_walk_79 ?_
              refine x_il_n X hl 1 rfl rfl dX4_walk_82 ?_
              refine x_ialdv (v := -1) X w hM.m13 hM.f13 (by omega) ((hw78 rd (by omega) (by omega)).trans (uI_s _ _ _)) dX4_walk_83 ?_
              refine x_iret X w hr hlk ⟨by decide, by decide⟩ dX4_walk_84 ?_
              have he9 : wkV rd σ = -1 := by unfold wkV; rw [hcu]; exact if_neg (by omega)
              have ho : oWal rd σ = (0, -1, oSetW (uI (gW σ) rd (-1)) σ) := (if_pos (by omega)).trans (by rw [he9])
              rw [ho]
              exact ⟨rfl, rfl, hF, ⟨_, _, _, hM, hg, hz, hw78⟩⟩
          · have hww := hI.w rd (by omega) (by omega)
            have hq0 := hI.r0 i (by omega) (by omega)
            refine x_al_n X hl 0 rfl rfl dX4_walk_33 ?_
            refine x_get X w hM.mm hM.fm fq_X4_walk_7 rfl dX4_walk_34 ?_
            refine x_il_n X hl 2 rfl rfl dX4_walk_37 ?_
            refine x_ialdv (v := (gR σ) i 0) X w hM.m2 hM.f2 (by omega) (hg i (by omega) (by omega) 0 (by decide)) dX4_walk_38 ?_
            refine x_al_n X hl 0 rfl rfl dX4_walk_39 ?_
            refine x_get X w hM.mm hM.fm fq_X4_walk_32 rfl dX4_walk_40 ?_
            refine x_il_n X hl 1 rfl rfl dX4_walk_43 ?_
            refine x_ialdv (v := (gW σ) rd) X w hM.m13 hM.f13 (by omega) (hw rd (by omega) (by omega)) dX4_walk_44 ?_
            refine x_icmp_gt (tgt := 54) X (by omega) (by decide) dX4_walk_45 (fun hb45 => ?_) (fun hb45 => ?_)
            · have hcu : cu (gR σ) (gN σ) (gW σ rd) = i := cu_eq ⟨by omega, by omega, hj, fun h9 => by omega⟩
              refine x_al_n X hl 0 rfl rfl dX4_walk_54 ?_
              refine x_get X w hM.mm hM.fm fq_X4_walk_32 rfl dX4_walk_55 ?_
              refine x_il_n X hl 1 rfl rfl dX4_walk_58 ?_
              refine x_il_n X hl 2 rfl rfl dX4_walk_59 ?_
              refine x_al_n X hl 0 rfl rfl dX4_walk_60 ?_
              refine x_get X w hM.mm hM.fm fq_X4_walk_42 rfl dX4_walk_61 ?_
              refine x_icmp_ne (tgt := 71) X (by omega) (by decide) dX4_walk_64 (fun hb64 => ?_) (fun hb64 => ?_)
              · refine x_al_n X hl 0 rfl rfl dX4_walk_71 ?_
                refine x_get X w hM.mm hM.fm fq_X4_walk_7 rfl dX4_walk_72 ?_
                refine x_il_n X hl 2 rfl rfl dX4_walk_75 ?_
                refine x_ialdv (v := (gR σ) i 0) X w hM.m2 hM.f2 (by omega) (hg i (by omega) (by omega) 0 (by decide)) dX4_walk_76 ?_
                refine x_iast X w hM.m13 hM.f13 (by omega) dX4_walk_77 (fun H locs w => ?_)
                obtain ⟨f78, ww78, w, hM, hF, hw78⟩ : ∃ f9 z9, XW D A s.heap L f9 H locs ∧ ML cs L f9 mo B 0 (gN σ) (gK σ) (gT σ) (gP σ) (gB σ) (gS σ) g zz z9 ∧ FM f0 f9 mo B ∧ (∀ j, 0 ≤ j → j < 4 → z9 j = (uI (gW σ) rd ((gR σ) i 0)) j) := ⟨_, _, w, hM.wwr, hF.a 13, ag_u hw⟩
                refine x_al_n X hl 0 rfl rfl dX4_walk_78 ?_
                refine x_get X w hM.mm hM.fm fq_X4_walk_32 rfl dX4_walk_79 ?_
                refine x_il_n X hl 1 rfl rfl dX4_walk_82 ?_
                refine x_ialdv (v := (gR σ) i 0) X w hM.m13 hM.f13 (by omega) ((hw78 rd (by omega) (by omega)).trans (uI_s _ _ _)) dX4_walk_83 ?_
                refine x_iret X w hr hlk ⟨by decide, by decide⟩ dX4_walk_84 ?_
                have he9 : wkV rd σ = (gR σ) i 0 := by unfold wkV; rw [hcu]; exact if_pos (by omega)
                have ho : oWal rd σ = (0, (gR σ) i 0, oSetW (uI (gW σ) rd ((gR σ) i 0)) σ) := (if_pos (by omega)).trans (by rw [he9])
                rw [ho]
                exact ⟨rfl, rfl, hF, ⟨_, _, _, hM, hg, hz, hw78⟩⟩
              · refine x_iconst X dX4_walk_67 ?_
                refine x_goto (tgt := 77) X (by decide) dX4_walk_68 ?_
                refine x_iast X w hM.m13 hM.f13 (by omega) dX4_walk_77 (fun H locs w => ?_)
                obtain ⟨f78, ww78, w, hM, hF, hw78⟩ : ∃ f9 z9, XW D A s.heap L f9 H locs ∧ ML cs L f9 mo B 0 (gN σ) (gK σ) (gT σ) (gP σ) (gB σ) (gS σ) g zz z9 ∧ FM f0 f9 mo B ∧ (∀ j, 0 ≤ j → j < 4 → z9 j = (uI (gW σ) rd (-1)) j) := ⟨_, _, w, hM.wwr, hF.a 13, ag_u hw⟩
                refine x_al_n X hl 0 rfl rfl dX4_walk_78 ?_
                refine x_get X w hM.mm hM.fm fq_X4_walk_32 rfl dX4_walk_79 ?_
                refine x_il_n X hl 1 rfl rfl dX4_walk_82 ?_
                refine x_ialdv (v := -1) X w hM.m13 hM.f13 (by omega) ((hw78 rd (by omega) (by omega)).trans (uI_s _ _ _)) dX4_walk_83 ?_
                refine x_iret X w hr hlk ⟨by decide, by decide⟩ dX4_walk_84 ?_
                have he9 : wkV rd σ = -1 := by unfold wkV; rw [hcu]; exact if_neg (by omega)
                have ho : oWal rd σ = (0, -1, oSetW (uI (gW σ) rd (-1)) σ) := (if_pos (by omega)).trans (by rw [he9])
                rw [ho]
                exact ⟨rfl, rfl, hF, ⟨_, _, _, hM, hg, hz, hw78⟩⟩
            · refine x_iinc (lv' := [(2, .int (iI (i + 1))), (0, .ref mo), (1, .int (iI rd))]) X hl 2 rfl (by decide) rfl dX4_walk_48 (fun ls hl => ?_)
              refine x_goto (tgt := 25) X (by decide) dX4_walk_51 ?_
              refine ih25 (i + 1) _ _ _ (by omega) (by omega) ?_ w (lv_sub hl [1, 2, 0] rfl)
              · intro j h1 h2
                by_cases h3 : j = i
                · subst h3; omega
                · exact hj j h1 (by omega)
      have hww := hI.w rd (by omega) (by omega)
      refine loop25 _ 0 _ _ _ (Nat.lt_succ_self _) (by omega) (fun j h1 h2 => absurd h2 (by omega)) w (lv_sub hl [1, 2, 0] rfl)
    · exfalso; omega
  · show W p l e _ s m _ below meth c _ _ _ _ _ (F0 m 7 ls [.int (iI 0), .ref mo])
    refine x_ifT_eq (tgt := 14) X (by decide) (by decide) (by decide) dX4_walk_7 ?_
    refine x_iconst X dX4_walk_14 ?_
    refine x_callV (As := [.int (iI 1)]) (rest := []) (c1 := 0) (s1 := 0) X w hA (c_X4_goesWell l D cs L f0 mo B t (gN σ) (gK σ) (gT σ) (gP σ) (gB σ) (gS σ) g zz ww 1 hM (by omega)) k_X4_walk_X4_goesWell (by decide) hM.mm hM.fm rfl rfl rfl hl rfl (Nat.le_of_ble_eq_true rfl) (by decide) rfl rfl dX4_walk_15 (fun v L1 f1 H locs w hp => ?_)
    obtain ⟨rfl, hfm, hM, hp⟩ := hp
    have hF := hF.tr hfm
    rcases hp with ⟨rfl, hq15⟩ | ⟨rfl, hq15⟩
    · exfalso; omega
    · show W p l e _ s m _ below meth c _ _ _ _ _ (F0 m 18 ls [.int (iI 0)])
      refine x_ifF_ne (tgt := 23) X (by decide) (by decide) (by decide) dX4_walk_18 ?_
      refine x_iconst X dX4_walk_21 ?_
      refine x_iret X w hr hlk ⟨by decide, by decide⟩ dX4_walk_22 ?_
      have ho : oWal rd σ = (1, 0, σ) := if_neg (by omega)
      rw [ho]
      exact ⟨rfl, rfl, hF, ⟨_, _, _, hM, hg, hz, hw⟩⟩

theorem k_X4_amnesty_X4_in : XS wsX4_amnesty RX4 38 yX4_in cX4_in 3 (some .boolean) wsX4_in 3 := ⟨gX4_amnesty_X4_in, ⟨_, rfl⟩, by decide, by decide, by decide +kernel⟩
theorem iw_X4_amnesty_X4 : ∀ w ∈ wsX40, w ∈ wsX4_amnesty := by decide +kernel
theorem fq_X4_amnesty_76 : XF wsX4_amnesty RX4 76 4 11 := ⟨RX4, TX4, 14, iw_X4_amnesty_X4, rfl, by decide, by decide +kernel⟩
theorem k_X4_amnesty_X4_goesWell : XV wsX4_amnesty RX4 63 RX4 yX4_goesWell cX4_goesWell 2 (some .boolean) wsX4_goesWell 1 := ⟨gX4_amnesty_X4_goesWell, ⟨_, rfl⟩, rfl, by decide, by decide, by decide +kernel⟩
theorem fq_X4_amnesty_42 : XF wsX4_amnesty RX4 42 4 1 := ⟨RX4, TX4, 14, iw_X4_amnesty_X4, rfl, by decide, by decide +kernel⟩
theorem fq_X4_amnesty_22 : XF wsX4_amnesty RX4 22 4 6 := ⟨RX4, TX4, 14, iw_X4_amnesty_X4, rfl, by decide, by decide +kernel⟩
theorem fq_X4_amnesty_13 : XF wsX4_amnesty RX4 13 4 3 := ⟨RX4, TX4, 14, iw_X4_amnesty_X4, rfl, by decide, by decide +kernel⟩
theorem fq_X4_amnesty_19 : XF wsX4_amnesty RX4 19 4 5 := ⟨RX4, TX4, 14, iw_X4_amnesty_X4, rfl, by decide, by decide +kernel⟩
theorem fq_X4_amnesty_88 : XF wsX4_amnesty RX4 88 4 10 := ⟨RX4, TX4, 14, iw_X4_amnesty_X4, rfl, by decide, by decide +kernel⟩
theorem fp_X4_amnesty_88 : XGn wsX4_amnesty RX4 88 4 10 (tyX4 10) := ⟨RX4, TX4, 14, tyX4, iw_X4_amnesty_X4, rfl, by decide, by decide +kernel, tyX4_ok, nmX4, rfl, by decide +kernel⟩
theorem k_X4_amnesty_X4_takeOut : XV wsX4_amnesty RX4 91 RX4 yX4_takeOut cX4_takeOut 4 none wsX4_takeOut 1 := ⟨gX4_amnesty_X4_takeOut, ⟨_, rfl⟩, rfl, by decide, by decide, by decide +kernel⟩
set_option maxHeartbeats 4000000 in
set_option maxRecDepth 100000 in
theorem c_X4_amnesty (l : Launch) (D : va_G) (cs : ClassId × ClassId × ClassId) (L : List Nat) (f0 : Nat → va_E) (mo : Nat) (B : Nat → Nat) (t : Int) (σ : Sg) (su dy : Int) (hX : MX cs L f0 mo B t σ) (hI : Inv σ) (hrg : (-2147483648 ≤ su ∧ su < 2147483648) ∧ (-2147483648 ≤ dy ∧ dy < 2147483648)) : C0 l yX4_amnesty wsX4_amnesty ({ frames := 4, cells := 0, slots := 0, locals := 79 } : Room) D cs [.ref mo, .int (iI su), .int (iI dy)] L f0 (fun v L1 f1 => MPi cs L f0 mo B (oAmn su dy σ) v L1 f1) := by
  refine C0.of (cc := cX4_amnesty) (maxL := 5) (ret := (some .int)) (by decide) rfl (Nat.le_of_ble_eq_true rfl) ?_
  intro p e s m below meth c X hr hlk hin A hA w ls hl
  have hl : lv_has ls 5 [(0, .ref mo), (1, .int (iI su)), (2, .int (iI dy))] := hl
  obtain ⟨g, zz, ww, hM, hg, hz, hw⟩ := hX
  have hF : FM f0 f0 mo B := FM.rf _ _ _
  have hn := hI.n; have hk := hI.k; have ht := hI.t; have hsw := hI.s; have hz4 := hI.z4
  refine x_al_n X hl 0 rfl rfl dX4_amnesty_0 ?_
  refine x_il_n X hl 1 rfl rfl dX4_amnesty_1 ?_
  refine x_iconst X dX4_amnesty_2 ?_
  refine x_sipush X (by decide) dX4_amnesty_3 ?_
  refine x_callS (As := [.int (iI su), .int (iI 1), .int (iI 10000)]) (rest := [.ref mo]) (c1 := 0) (s1 := 0) X w hA (c_X4_in l D cs L f0 su 1 10000 (by omega)) k_X4_amnesty_X4_in (by decide) rfl hl rfl (Nat.le_of_ble_eq_true rfl) (by decide) rfl rfl dX4_amnesty_6 (fun v L1 f1 H locs w hp => ?_)
  obtain ⟨rfl, rfl, hp⟩ := hp
  rcases hp with ⟨rfl, hq6⟩ | ⟨rfl, hq6⟩
  · show W p l e _ s m _ below meth c _ _ _ _ _ (F0 m 9 ls [.int (iI 1), .ref mo])
    refine x_ifF_eq (tgt := 28) X (by decide) (by decide) (by decide) dX4_amnesty_9 ?_
    refine x_il_n X hl 2 rfl rfl dX4_amnesty_12 ?_
    refine x_iconst X dX4_amnesty_13 ?_
    refine x_al_n X hl 0 rfl rfl dX4_amnesty_14 ?_
    refine x_get X w hM.mm hM.fm fq_X4_amnesty_76 rfl dX4_amnesty_15 ?_
    refine x_callS (As := [.int (iI dy), .int (iI 0), .int (iI (gT σ))]) (rest := [.ref mo]) (c1 := 0) (s1 := 0) X w hA (c_X4_in l D cs L f0 dy 0 (gT σ) (by omega)) k_X4_amnesty_X4_in (by decide) rfl hl rfl (Nat.le_of_ble_eq_true rfl) (by decide) rfl rfl dX4_amnesty_18 (fun v L1 f1 H locs w hp => ?_)
    obtain ⟨rfl, rfl, hp⟩ := hp
    rcases hp with ⟨rfl, hq18⟩ | ⟨rfl, hq18⟩
    · show W p l e _ s m _ below meth c _ _ _ _ _ (F0 m 21 ls [.int (iI 1), .ref mo])
      refine x_ifF_eq (tgt := 28) X (by decide) (by decide) (by decide) dX4_amnesty_21 ?_
      refine x_iconst X dX4_amnesty_24 ?_
      refine x_goto (tgt := 29) X (by decide) dX4_amnesty_25 ?_
      refine x_callV (As := [.int (iI 0)]) (rest := []) (c1 := 0) (s1 := 0) X w hA (c_X4_goesWell l D cs L f0 mo B t (gN σ) (gK σ) (gT σ) (gP σ) (gB σ) (gS σ) g zz ww 0 hM (by omega)) k_X4_amnesty_X4_goesWell (by decide) hM.mm hM.fm rfl rfl rfl hl rfl (Nat.le_of_ble_eq_true rfl) (by decide) rfl rfl dX4_amnesty_29 (fun v L1 f1 H locs w hp => ?_)
      obtain ⟨rfl, hfm, hM, hp⟩ := hp
      have hF := hF.tr hfm
      rcases hp with ⟨rfl, hq29⟩ | ⟨rfl, hq29⟩
      · show W p l e _ s m _ below meth c _ _ _ _ _ (F0 m 32 ls [.int (iI 1)])
        refine x_ifT_ne (tgt := 37) X (by decide) (by decide) (by decide) dX4_amnesty_32 ?_
        refine x_iconst X dX4_amnesty_37 ?_
        refine x_is_n (lv' := [(3, .int (iI 0)), (0, .ref mo), (1, .int (iI su)), (2, .int (iI dy))]) X hl rfl (by decide) rfl dX4_amnesty_38 (fun ls hl => ?_)
        refine x_iconst X dX4_amnesty_39 ?_
        refine x_is (lv' := [(4, .int (iI 0)), (3, .int (iI 0)), (0, .ref mo), (1, .int (iI su)), (2, .int (iI dy))]) X hl (by decide) rfl dX4_amnesty_40 (fun ls hl => ?_)
        have loop42 : ∀ (N9 : Nat) (σ2 : Sg) (f1 : Nat → va_E) (pl : Int) (tk : Int) (mm : Nat) (H : Heap) (locs : List Loc) (ls : Array Slot), mm < N9 → (Inv σ2) → (MX cs L f1 mo B 0 σ2) → (FM f0 f1 mo B) → (0 ≤ pl ∧ pl + (mm : Int) = gN σ2) → (gT σ2 = gT σ) → (tk + (oLoop (amP su dy) false mm pl σ2).1 = (oLoop (amP su dy) false (gN σ).toNat 0 σ).1) → ((oLoop (amP su dy) false mm pl σ2).2 = (oLoop (amP su dy) false (gN σ).toNat 0 σ).2) → XW D A s.heap L f1 H locs → lv_has ls 5 [(0, .ref mo), (1, .int (iI su)), (2, .int (iI dy)), (3, .int (iI tk)), (4, .int (iI pl))] → W p l e ({ frames := 4, cells := 0, slots := 0, locals := 79 } : Room) s m ([.ref mo, .int (iI su), .int (iI dy)] : List Value).toArray below meth c H locs 0 0 (MQ below (CQ D cs A (fun v L1 f1 => MPi cs L f0 mo B (oAmn su dy σ) v L1 f1)) ([.ref mo, .int (iI su), .int (iI dy)] : List Value).toArray s 0 0 A) (F0 m 42 ls []) := by
          intro N9
          induction N9 with
          | zero => intro σ2 f1 pl tk mm H locs ls h9; exact absurd h9 (Nat.not_lt_zero _)
          | succ N9 ih42 =>
            intro σ2 f1 pl tk mm H locs ls h9 hI2 hX hF hp0 hT hQ hQ2 w hl
            obtain ⟨g, zz, ww, hM, hg, hz, hw⟩ := hX
            have hn := hI2.n; have hk := hI2.k; have ht := hI2.t; have hsw := hI2.s; have hz4 := hI2.z4
            refine x_il X hl 4 rfl dX4_amnesty_42 ?_
            refine x_al_n X hl 0 rfl rfl dX4_amnesty_44 ?_
            refine x_get X w hM.mm hM.fm fq_X4_amnesty_42 rfl dX4_amnesty_45 ?_
            refine x_icmp_ge (tgt := 118) X (by omega) (by decide) dX4_amnesty_48 (fun hb48 => ?_) (fun hb48 => ?_)
            · refine x_il_n X hl 3 rfl rfl dX4_amnesty_118 ?_
              refine x_iret X w hr hlk ⟨by decide, by decide⟩ dX4_amnesty_119 ?_
              have he9 : mm = 0 := by omega
              subst he9
              have hQ : tk + 0 = (oLoop (amP su dy) false (gN σ).toNat 0 σ).1 := hQ
              rw [Int.add_zero] at hQ
              have hQ2 : σ2 = (oLoop (amP su dy) false (gN σ).toNat 0 σ).2 := hQ2
              have ho : oAmn su dy σ = (0, tk, σ2) := (if_pos (by omega)).trans (by rw [← hQ, ← hQ2])
              rw [ho]
              exact ⟨rfl, rfl, hF, ⟨_, _, _, hM, hg, hz, hw⟩⟩
            · obtain ⟨m1, rfl⟩ : ∃ m1 : Nat, mm = m1 + 1 := ⟨mm - 1, by omega⟩
              have hrec := hI2.r pl (by omega) (by omega)
              refine x_al_n X hl 0 rfl rfl dX4_amnesty_51 ?_
              refine x_get X w hM.mm hM.fm fq_X4_amnesty_22 rfl dX4_amnesty_52 ?_
              refine x_il X hl 4 rfl dX4_amnesty_55 ?_
              refine x_ialdv (v := (gR σ2) pl 4) X w hM.m6 hM.f6 (by omega) (hg pl (by omega) (by omega) 4 (by decide)) dX4_amnesty_57 ?_
              refine x_iconst X dX4_amnesty_58 ?_
              refine x_icmp_ne (tgt := 112) X (by omega) (by decide) dX4_amnesty_59 (fun hb59 => ?_) (fun hb59 => ?_)
              · rw [oLoop_f (amP_f (by omega))] at hQ hQ2
                refine x_iinc (lv' := [(4, .int (iI (pl + 1))), (0, .ref mo), (1, .int (iI su)), (2, .int (iI dy)), (3, .int (iI tk))]) X hl 4 rfl (by decide) rfl dX4_amnesty_112 (fun ls hl => ?_)
                refine x_goto (tgt := 42) X (by decide) dX4_amnesty_115 ?_
                refine ih42 σ2 f1 (pl + 1) tk m1 _ _ _ (by omega) hI2 (⟨_, _, _, hM, hg, hz, hw⟩) hF (by omega) hT hQ hQ2 w (lv_sub hl [1, 2, 3, 4, 0] rfl)
              · refine x_al_n X hl 0 rfl rfl dX4_amnesty_62 ?_
                refine x_get X w hM.mm hM.fm fq_X4_amnesty_13 rfl dX4_amnesty_63 ?_
                refine x_il X hl 4 rfl dX4_amnesty_66 ?_
                refine x_ialdv (v := (gR σ2) pl 1) X w hM.m3 hM.f3 (by omega) (hg pl (by omega) (by omega) 1 (by decide)) dX4_amnesty_68 ?_
                refine x_il_n X hl 1 rfl rfl dX4_amnesty_69 ?_
                refine x_icmp_gt (tgt := 112) X (by omega) (by decide) dX4_amnesty_70 (fun hb70 => ?_) (fun hb70 => ?_)
                · rw [oLoop_f (amP_f (by omega))] at hQ hQ2
                  refine x_iinc (lv' := [(4, .int (iI (pl + 1))), (0, .ref mo), (1, .int (iI su)), (2, .int (iI dy)), (3, .int (iI tk))]) X hl 4 rfl (by decide) rfl dX4_amnesty_112 (fun ls hl => ?_)
                  refine x_goto (tgt := 42) X (by decide) dX4_amnesty_115 ?_
                  refine ih42 σ2 f1 (pl + 1) tk m1 _ _ _ (by omega) hI2 (⟨_, _, _, hM, hg, hz, hw⟩) hF (by omega) hT hQ hQ2 w (lv_sub hl [1, 2, 3, 4, 0] rfl)
                · refine x_al_n X hl 0 rfl rfl dX4_amnesty_73 ?_
                  refine x_get X w hM.mm hM.fm fq_X4_amnesty_19 rfl dX4_amnesty_74 ?_
                  refine x_il X hl 4 rfl dX4_amnesty_77 ?_
                  refine x_ialdv (v := (gR σ2) pl 3) X w hM.m5 hM.f5 (by omega) (hg pl (by omega) (by omega) 3 (by decide)) dX4_amnesty_79 ?_
                  refine x_il_n X hl 2 rfl rfl dX4_amnesty_80 ?_
                  refine x_icmp_gt (tgt := 112) X (by omega) (by decide) dX4_amnesty_81 (fun hb81 => ?_) (fun hb81 => ?_)
                  · rw [oLoop_f (amP_f (by omega))] at hQ hQ2
                    refine x_iinc (lv' := [(4, .int (iI (pl + 1))), (0, .ref mo), (1, .int (iI su)), (2, .int (iI dy)), (3, .int (iI tk))]) X hl 4 rfl (by decide) rfl dX4_amnesty_112 (fun ls hl => ?_)
                    refine x_goto (tgt := 42) X (by decide) dX4_amnesty_115 ?_
                    refine ih42 σ2 f1 (pl + 1) tk m1 _ _ _ (by omega) hI2 (⟨_, _, _, hM, hg, hz, hw⟩) hF (by omega) hT hQ hQ2 w (lv_sub hl [1, 2, 3, 4, 0] rfl)
                  · have hN1 : gN (oTake pl (oAdd false (gR σ2 pl 1) σ2)) = gN σ2 - 1 := rfl
                    rw [oLoop_t (amP_t (by omega))] at hQ hQ2
                    refine x_al_n X hl 0 rfl rfl dX4_amnesty_84 ?_
                    refine x_dup X rfl dX4_amnesty_85 ?_
                    refine x_get X w hM.mm hM.fm fq_X4_amnesty_88 rfl dX4_amnesty_86 ?_
                    refine x_al_n X hl 0 rfl rfl dX4_amnesty_89 ?_
                    refine x_get X w hM.mm hM.fm fq_X4_amnesty_13 rfl dX4_amnesty_90 ?_
                    refine x_il X hl 4 rfl dX4_amnesty_93 ?_
                    refine x_ialdv (v := (gR σ2) pl 1) X w hM.m3 hM.f3 (by omega) (hg pl (by omega) (by omega) 1 (by decide)) dX4_amnesty_95 ?_
                    refine x_iadd X dX4_amnesty_96 ?_
                    refine x_put X w hM.mm hM.fm fp_X4_amnesty_88 rfl rfl (Nat.le_of_ble_eq_true rfl) rfl dX4_amnesty_97 (fun H locs w => ?_)
                    obtain ⟨f100, w, hM, hF⟩ : ∃ f9, XW D A s.heap L f9 H locs ∧ ML cs L f9 mo B 0 (gN σ2) (gK σ2) (gT σ2) (gP σ2) ((gB σ2) + ((gR σ2) pl 1)) (gS σ2) g zz ww ∧ FM f0 f9 mo B := ⟨_, w, hM.fld _ _ _ _ _ _ _, hF.m⟩
                    refine x_al_n X hl 0 rfl rfl dX4_amnesty_100 ?_
                    refine x_il X hl 4 rfl dX4_amnesty_101 ?_
                    refine x_callV (As := [.int (iI pl)]) (rest := []) (c1 := 0) (s1 := 0) X w hA (c_X4_takeOut l D cs L f100 mo B 0 (oAdd false ((gR σ2) pl 1) σ2) pl ⟨_, _, _, hM, hg, hz, hw⟩ hI2 (show 0 ≤ pl ∧ pl < gN σ2 from by omega)) k_X4_amnesty_X4_takeOut (by decide) hM.mm hM.fm rfl rfl rfl hl rfl (Nat.le_of_ble_eq_true rfl) (by decide) rfl rfl dX4_amnesty_103 (fun v L1 f1 H locs w hp => ?_)
                    obtain ⟨rfl, rfl, hfm, hX⟩ := hp
                    have hF := hF.tr hfm
                    have hI103 : Inv (oTake pl (oAdd false ((gR σ2) pl 1) σ2)) := Inv.take hI2 (show 0 ≤ pl ∧ pl < gN σ2 from by omega)
                    obtain ⟨g, zz, ww, hM, hg, hz, hw⟩ := hX
                    show W p l e _ s m _ below meth c _ _ _ _ _ (F0 m 106 ls [])
                    refine x_iinc (lv' := [(3, .int (iI (tk + 1))), (0, .ref mo), (1, .int (iI su)), (2, .int (iI dy)), (4, .int (iI pl))]) X hl 3 rfl (by decide) rfl dX4_amnesty_106 (fun ls hl => ?_)
                    refine x_goto (tgt := 42) X (by decide) dX4_amnesty_109 ?_
                    refine ih42 _ f1 pl (tk + 1) m1 _ _ _ (by omega) hI103 (⟨_, _, _, hM, hg, hz, hw⟩) hF (⟨by omega, by rw [hN1]; omega⟩) hT (by rw [← hQ]; show _ = tk + (_ + 1); omega) hQ2 w (lv_sub hl [1, 2, 3, 0, 4] rfl)
        refine loop42 _ σ f1 0 0 ((gN σ).toNat) _ _ _ (Nat.lt_succ_self _) hI (⟨_, _, _, hM, hg, hz, hw⟩) hF (by omega) rfl (Int.zero_add _) rfl w (lv_sub hl [2, 3, 4, 1, 0] rfl)
      · exfalso; omega
    · show W p l e _ s m _ below meth c _ _ _ _ _ (F0 m 21 ls [.int (iI 0), .ref mo])
      refine x_ifT_eq (tgt := 28) X (by decide) (by decide) (by decide) dX4_amnesty_21 ?_
      refine x_iconst X dX4_amnesty_28 ?_
      refine x_callV (As := [.int (iI 1)]) (rest := []) (c1 := 0) (s1 := 0) X w hA (c_X4_goesWell l D cs L f0 mo B t (gN σ) (gK σ) (gT σ) (gP σ) (gB σ) (gS σ) g zz ww 1 hM (by omega)) k_X4_amnesty_X4_goesWell (by decide) hM.mm hM.fm rfl rfl rfl hl rfl (Nat.le_of_ble_eq_true rfl) (by decide) rfl rfl dX4_amnesty_29 (fun v L1 f1 H locs w hp => ?_)
      obtain ⟨rfl, hfm, hM, hp⟩ := hp
      have hF := hF.tr hfm
      rcases hp with ⟨rfl, hq29⟩ | ⟨rfl, hq29⟩
      · exfalso; omega
      · show W p l e _ s m _ below meth c _ _ _ _ _ (F0 m 32 ls [.int (iI 0)])
        refine x_ifF_ne (tgt := 37) X (by decide) (by decide) (by decide) dX4_amnesty_32 ?_
        refine x_iconst X dX4_amnesty_35 ?_
        refine x_iret X w hr hlk ⟨by decide, by decide⟩ dX4_amnesty_36 ?_
        have ho : oAmn su dy σ = (1, 0, σ) := if_neg (by omega)
        rw [ho]
        exact ⟨rfl, rfl, hF, ⟨_, _, _, hM, hg, hz, hw⟩⟩
  · show W p l e _ s m _ below meth c _ _ _ _ _ (F0 m 9 ls [.int (iI 0), .ref mo])
    refine x_ifT_eq (tgt := 28) X (by decide) (by decide) (by decide) dX4_amnesty_9 ?_
    refine x_iconst X dX4_amnesty_28 ?_
    refine x_callV (As := [.int (iI 1)]) (rest := []) (c1 := 0) (s1 := 0) X w hA (c_X4_goesWell l D cs L f0 mo B t (gN σ) (gK σ) (gT σ) (gP σ) (gB σ) (gS σ) g zz ww 1 hM (by omega)) k_X4_amnesty_X4_goesWell (by decide) hM.mm hM.fm rfl rfl rfl hl rfl (Nat.le_of_ble_eq_true rfl) (by decide) rfl rfl dX4_amnesty_29 (fun v L1 f1 H locs w hp => ?_)
    obtain ⟨rfl, hfm, hM, hp⟩ := hp
    have hF := hF.tr hfm
    rcases hp with ⟨rfl, hq29⟩ | ⟨rfl, hq29⟩
    · exfalso; omega
    · show W p l e _ s m _ below meth c _ _ _ _ _ (F0 m 32 ls [.int (iI 0)])
      refine x_ifF_ne (tgt := 37) X (by decide) (by decide) (by decide) dX4_amnesty_32 ?_
      refine x_iconst X dX4_amnesty_35 ?_
      refine x_iret X w hr hlk ⟨by decide, by decide⟩ dX4_amnesty_36 ?_
      have ho : oAmn su dy σ = (1, 0, σ) := if_neg (by omega)
      rw [ho]
      exact ⟨rfl, rfl, hF, ⟨_, _, _, hM, hg, hz, hw⟩⟩

theorem k_X4_pass_X4_in : XS wsX4_pass RX4 38 yX4_in cX4_in 3 (some .boolean) wsX4_in 3 := ⟨gX4_pass_X4_in, ⟨_, rfl⟩, by decide, by decide, by decide +kernel⟩
theorem iw_X4_pass_X4 : ∀ w ∈ wsX40, w ∈ wsX4_pass := by decide +kernel
theorem fq_X4_pass_76 : XF wsX4_pass RX4 76 4 11 := ⟨RX4, TX4, 14, iw_X4_pass_X4, rfl, by decide, by decide +kernel⟩
theorem k_X4_pass_X4_goesWell : XV wsX4_pass RX4 63 RX4 yX4_goesWell cX4_goesWell 2 (some .boolean) wsX4_goesWell 1 := ⟨gX4_pass_X4_goesWell, ⟨_, rfl⟩, rfl, by decide, by decide, by decide +kernel⟩
theorem fp_X4_pass_76 : XGn wsX4_pass RX4 76 4 11 (tyX4 11) := ⟨RX4, TX4, 14, tyX4, iw_X4_pass_X4, rfl, by decide, by decide +kernel, tyX4_ok, nmX4, rfl, by decide +kernel⟩
theorem fq_X4_pass_42 : XF wsX4_pass RX4 42 4 1 := ⟨RX4, TX4, 14, iw_X4_pass_X4, rfl, by decide, by decide +kernel⟩
theorem fq_X4_pass_22 : XF wsX4_pass RX4 22 4 6 := ⟨RX4, TX4, 14, iw_X4_pass_X4, rfl, by decide, by decide +kernel⟩
theorem fq_X4_pass_94 : XF wsX4_pass RX4 94 4 9 := ⟨RX4, TX4, 14, iw_X4_pass_X4, rfl, by decide, by decide +kernel⟩
theorem fq_X4_pass_13 : XF wsX4_pass RX4 13 4 3 := ⟨RX4, TX4, 14, iw_X4_pass_X4, rfl, by decide, by decide +kernel⟩
theorem fp_X4_pass_94 : XGn wsX4_pass RX4 94 4 9 (tyX4 9) := ⟨RX4, TX4, 14, tyX4, iw_X4_pass_X4, rfl, by decide, by decide +kernel, tyX4_ok, nmX4, rfl, by decide +kernel⟩
theorem k_X4_pass_X4_takeOut : XV wsX4_pass RX4 91 RX4 yX4_takeOut cX4_takeOut 4 none wsX4_takeOut 1 := ⟨gX4_pass_X4_takeOut, ⟨_, rfl⟩, rfl, by decide, by decide, by decide +kernel⟩
set_option maxHeartbeats 4000000 in
set_option maxRecDepth 100000 in
theorem c_X4_pass (l : Launch) (D : va_G) (cs : ClassId × ClassId × ClassId) (L : List Nat) (f0 : Nat → va_E) (mo : Nat) (B : Nat → Nat) (t : Int) (σ : Sg) (d : Int) (hX : MX cs L f0 mo B t σ) (hI : Inv σ) (hrg : (-2147483648 ≤ d ∧ d < 2147483648)) : C0 l yX4_pass wsX4_pass ({ frames := 4, cells := 0, slots := 0, locals := 79 } : Room) D cs [.ref mo, .int (iI d)] L f0 (fun v L1 f1 => MPi cs L f0 mo B (oPas d σ) v L1 f1) := by
  refine C0.of (cc := cX4_pass) (maxL := 6) (ret := (some .int)) (by decide) rfl (Nat.le_of_ble_eq_true rfl) ?_
  intro p e s m below meth c X hr hlk hin A hA w ls hl
  have hl : lv_has ls 6 [(0, .ref mo), (1, .int (iI d))] := hl
  obtain ⟨g, zz, ww, hM, hg, hz, hw⟩ := hX
  have hF : FM f0 f0 mo B := FM.rf _ _ _
  have hn := hI.n; have hk := hI.k; have ht := hI.t; have hsw := hI.s; have hz4 := hI.z4
  refine x_il_n X hl 1 rfl rfl dX4_pass_0 ?_
  refine x_iconst X dX4_pass_1 ?_
  refine x_bipush X (by decide) dX4_pass_2 ?_
  refine x_callS (As := [.int (iI d), .int (iI 1), .int (iI 100)]) (rest := []) (c1 := 0) (s1 := 0) X w hA (c_X4_in l D cs L f0 d 1 100 (by omega)) k_X4_pass_X4_in (by decide) rfl hl rfl (Nat.le_of_ble_eq_true rfl) (by decide) rfl rfl dX4_pass_4 (fun v L1 f1 H locs w hp => ?_)
  obtain ⟨rfl, rfl, hp⟩ := hp
  rcases hp with ⟨rfl, hq4⟩ | ⟨rfl, hq4⟩
  · show W p l e _ s m _ below meth c _ _ _ _ _ (F0 m 7 ls [.int (iI 1)])
    refine x_is_n (lv' := [(2, .int (iI 1)), (0, .ref mo), (1, .int (iI d))]) X hl rfl (by decide) rfl dX4_pass_7 (fun ls hl => ?_)
    refine x_al_n X hl 1 rfl rfl dX4_pass_8 ?_
    refine x_il_n X hl 0 rfl rfl dX4_pass_9 ?_
    refine x_ifT_ne (tgt := 17) X (by decide) (by decide) (by decide) dX4_pass_10 ?_
    refine x_al_n X hl 1 rfl rfl dX4_pass_17 ?_
    refine x_get X w hM.mm hM.fm fq_X4_pass_76 rfl dX4_pass_18 ?_
    refine x_il_n X hl 2 rfl rfl dX4_pass_21 ?_
    refine x_iadd X dX4_pass_22 ?_
    refine x_sipush X (by decide) dX4_pass_23 ?_
    refine x_icmp_le (tgt := 33) X (by omega) (by decide) dX4_pass_26 (fun hb26 => ?_) (fun hb26 => ?_)
    · refine x_iconst X dX4_pass_33 ?_
      refine x_callV (As := [.int (iI 0)]) (rest := []) (c1 := 0) (s1 := 0) X w hA (c_X4_goesWell l D cs L f0 mo B t (gN σ) (gK σ) (gT σ) (gP σ) (gB σ) (gS σ) g zz ww 0 hM (by omega)) k_X4_pass_X4_goesWell (by decide) hM.mm hM.fm rfl rfl rfl hl rfl (Nat.le_of_ble_eq_true rfl) (by decide) rfl rfl dX4_pass_34 (fun v L1 f1 H locs w hp => ?_)
      obtain ⟨rfl, hfm, hM, hp⟩ := hp
      have hF := hF.tr hfm
      rcases hp with ⟨rfl, hq34⟩ | ⟨rfl, hq34⟩
      · show W p l e _ s m _ below meth c _ _ _ _ _ (F0 m 37 ls [.int (iI 1)])
        refine x_ifT_ne (tgt := 42) X (by decide) (by decide) (by decide) dX4_pass_37 ?_
        refine x_iconst X dX4_pass_42 ?_
        refine x_is_n (lv' := [(3, .int (iI 0)), (2, .int (iI 1)), (0, .ref mo), (1, .int (iI d))]) X hl rfl (by decide) rfl dX4_pass_43 (fun ls hl => ?_)
        refine x_iconst X dX4_pass_44 ?_
        refine x_is (lv' := [(4, .int (iI 0)), (3, .int (iI 0)), (2, .int (iI 1)), (0, .ref mo), (1, .int (iI d))]) X hl (by decide) rfl dX4_pass_45 (fun ls hl => ?_)
        have loop47 : ∀ (N9 : Nat) (σ2 : Sg) (f1 : Nat → va_E) (i : Int) (tk : Int) (mm : Nat) (H : Heap) (locs : List Loc) (ls : Array Slot), mm < N9 → (Inv σ2) → (MX cs L f1 mo B 0 σ2) → (FM f0 f1 mo B) → (0 ≤ i ∧ i + (mm : Int) = d) → (gT σ2 + (mm : Int) ≤ 5000) → (tk + (oDays mm σ2).1 = (oDays d.toNat σ).1) → ((oDays mm σ2).2 = (oDays d.toNat σ).2) → XW D A s.heap L f1 H locs → lv_has ls 6 [(0, .ref mo), (1, .int (iI d)), (3, .int (iI tk)), (4, .int (iI i))] → W p l e ({ frames := 4, cells := 0, slots := 0, locals := 79 } : Room) s m ([.ref mo, .int (iI d)] : List Value).toArray below meth c H locs 0 0 (MQ below (CQ D cs A (fun v L1 f1 => MPi cs L f0 mo B (oPas d σ) v L1 f1)) ([.ref mo, .int (iI d)] : List Value).toArray s 0 0 A) (F0 m 47 ls []) := by
          intro N9
          induction N9 with
          | zero => intro σ2 f1 i tk mm H locs ls h9; exact absurd h9 (Nat.not_lt_zero _)
          | succ N9 ih47 =>
            intro σ2 f1 i tk mm H locs ls h9 hI2 hX hF hi hT hQ hQ2 w hl
            obtain ⟨g, zz, ww, hM, hg, hz, hw⟩ := hX
            have hn := hI2.n; have hk := hI2.k; have ht := hI2.t; have hsw := hI2.s; have hz4 := hI2.z4
            refine x_il X hl 3 rfl dX4_pass_47 ?_
            refine x_il_n X hl 1 rfl rfl dX4_pass_49 ?_
            refine x_icmp_ge (tgt := 143) X (by omega) (by decide) dX4_pass_50 (fun hb50 => ?_) (fun hb50 => ?_)
            · refine x_il_n X hl 2 rfl rfl dX4_pass_143 ?_
              refine x_iret X w hr hlk ⟨by decide, by decide⟩ dX4_pass_144 ?_
              have he9 : mm = 0 := by omega
              subst he9
              have hQ : tk + 0 = (oDays d.toNat σ).1 := hQ
              rw [Int.add_zero] at hQ
              have hQ2 : σ2 = (oDays d.toNat σ).2 := hQ2
              have ho : oPas d σ = (0, tk, σ2) := (if_pos (by omega)).trans ((if_neg (by omega)).trans (by rw [← hQ, ← hQ2]))
              rw [ho]
              exact ⟨rfl, rfl, hF, ⟨_, _, _, hM, hg, hz, hw⟩⟩
            · obtain ⟨m1, rfl⟩ : ∃ m1 : Nat, mm = m1 + 1 := ⟨mm - 1, by omega⟩
              refine x_al_n X hl 0 rfl rfl dX4_pass_53 ?_
              refine x_dup X rfl dX4_pass_54 ?_
              refine x_get X w hM.mm hM.fm fq_X4_pass_76 rfl dX4_pass_55 ?_
              refine x_iconst X dX4_pass_58 ?_
              refine x_iadd X dX4_pass_59 ?_
              refine x_put X w hM.mm hM.fm fp_X4_pass_76 rfl rfl (Nat.le_of_ble_eq_true rfl) rfl dX4_pass_60 (fun H locs w => ?_)
              obtain ⟨f63, w, hM, hF⟩ : ∃ f9, XW D A s.heap L f9 H locs ∧ ML cs L f9 mo B 0 (gN σ2) (gK σ2) ((gT σ2) + 1) (gP σ2) (gB σ2) (gS σ2) g zz ww ∧ FM f0 f9 mo B := ⟨_, w, hM.fld _ _ _ _ _ _ _, hF.m⟩
              have hId := Inv.day hI2 (by omega)
              refine x_iconst X dX4_pass_63 ?_
              refine x_is (lv' := [(5, .int (iI 0)), (0, .ref mo), (1, .int (iI d)), (3, .int (iI tk)), (4, .int (iI i))]) X hl (by decide) rfl dX4_pass_64 (fun ls hl => ?_)
              have loop66 : ∀ (N9 : Nat) (σ3 : Sg) (f3 : Nat → va_E) (pl : Int) (tk3 : Int) (m3 : Nat) (H : Heap) (locs : List Loc) (ls : Array Slot), m3 < N9 → (Inv σ3) → (MX cs L f3 mo B 0 σ3) → (FM f0 f3 mo B) → (0 ≤ pl ∧ pl + (m3 : Int) = gN σ3) → (gT σ3 = gT σ2 + 1) → (tk3 + (oLoop (ovP (gT σ2 + 1)) true m3 pl σ3).1 = tk + (oOv (oDay σ2)).1) → ((oLoop (ovP (gT σ2 + 1)) true m3 pl σ3).2 = (oOv (oDay σ2)).2) → XW D A s.heap L f3 H locs → lv_has ls 6 [(0, .ref mo), (1, .int (iI d)), (3, .int (iI tk3)), (4, .int (iI i)), (5, .int (iI pl))] → W p l e ({ frames := 4, cells := 0, slots := 0, locals := 79 } : Room) s m ([.ref mo, .int (iI d)] : List Value).toArray below meth c H locs 0 0 (MQ below (CQ D cs A (fun v L1 f1 => MPi cs L f0 mo B (oPas d σ) v L1 f1)) ([.ref mo, .int (iI d)] : List Value).toArray s 0 0 A) (F0 m 66 ls []) := by
                intro N9
                induction N9 with
                | zero => intro σ3 f3 pl tk3 m3 H locs ls h9; exact absurd h9 (Nat.not_lt_zero _)
                | succ N9 ih66 =>
                  intro σ3 f3 pl tk3 m3 H locs ls h9 hI3 hX hF hp0 hT3 hQ3 hQ4 w hl
                  obtain ⟨g, zz, ww, hM, hg, hz, hw⟩ := hX
                  have hn := hI3.n; have hk := hI3.k; have ht := hI3.t; have hsw := hI3.s; have hz4 := hI3.z4
                  refine x_il X hl 4 rfl dX4_pass_66 ?_
                  refine x_al_n X hl 0 rfl rfl dX4_pass_68 ?_
                  refine x_get X w hM.mm hM.fm fq_X4_pass_42 rfl dX4_pass_69 ?_
                  refine x_icmp_ge (tgt := 137) X (by omega) (by decide) dX4_pass_72 (fun hb72 => ?_) (fun hb72 => ?_)
                  · have he9 : m3 = 0 := by omega
                    subst he9
                    have hQ3 : tk3 + 0 = tk + (oOv (oDay σ2)).1 := hQ3
                    have hQ4 : σ3 = (oOv (oDay σ2)).2 := hQ4
                    refine x_iinc (lv' := [(4, .int (iI (i + 1))), (0, .ref mo), (1, .int (iI d)), (3, .int (iI tk3)), (5, .int (iI pl))]) X hl 3 rfl (by decide) rfl dX4_pass_137 (fun ls hl => ?_)
                    refine x_goto (tgt := 47) X (by decide) dX4_pass_140 ?_
                    refine ih47 σ3 f3 (i + 1) tk3 m1 _ _ _ (by omega) hI3 (⟨_, _, _, hM, hg, hz, hw⟩) hF (by omega) (by rw [hT3]; omega) (by rw [← hQ, hQ4]; show _ = tk + ((oOv (oDay σ2)).1 + (oDays m1 (oOv (oDay σ2)).2).1); omega) (by rw [hQ4]; exact hQ2) w (lv_sub hl [1, 2, 3, 0] rfl)
                  · obtain ⟨m4, rfl⟩ : ∃ m4 : Nat, m3 = m4 + 1 := ⟨m3 - 1, by omega⟩
                    have hrec := hI3.r pl (by omega) (by omega)
                    refine x_al_n X hl 0 rfl rfl dX4_pass_75 ?_
                    refine x_get X w hM.mm hM.fm fq_X4_pass_22 rfl dX4_pass_76 ?_
                    refine x_il X hl 4 rfl dX4_pass_79 ?_
                    refine x_ialdv (v := (gR σ3) pl 4) X w hM.m6 hM.f6 (by omega) (hg pl (by omega) (by omega) 4 (by decide)) dX4_pass_81 ?_
                    refine x_iconst X dX4_pass_82 ?_
                    refine x_icmp_eq (tgt := 131) X (by omega) (by decide) dX4_pass_83 (fun hb83 => ?_) (fun hb83 => ?_)
                    · rw [oLoop_f (ovP_f (by omega))] at hQ3 hQ4
                      refine x_iinc (lv' := [(5, .int (iI (pl + 1))), (0, .ref mo), (1, .int (iI d)), (3, .int (iI tk3)), (4, .int (iI i))]) X hl 4 rfl (by decide) rfl dX4_pass_131 (fun ls hl => ?_)
                      refine x_goto (tgt := 66) X (by decide) dX4_pass_134 ?_
                      refine ih66 σ3 f3 (pl + 1) tk3 m4 _ _ _ (by omega) hI3 (⟨_, _, _, hM, hg, hz, hw⟩) hF (by omega) hT3 hQ3 hQ4 w (lv_sub hl [1, 2, 3, 4, 0] rfl)
                    · refine x_al_n X hl 0 rfl rfl dX4_pass_86 ?_
                      refine x_get X w hM.mm hM.fm fq_X4_pass_76 rfl dX4_pass_87 ?_
                      refine x_al_n X hl 0 rfl rfl dX4_pass_90 ?_
                      refine x_get X w hM.mm hM.fm fq_X4_pass_22 rfl dX4_pass_91 ?_
                      refine x_il X hl 4 rfl dX4_pass_94 ?_
                      refine x_ialdv (v := (gR σ3) pl 4) X w hM.m6 hM.f6 (by omega) (hg pl (by omega) (by omega) 4 (by decide)) dX4_pass_96 ?_
                      refine x_bipush X (by decide) dX4_pass_97 ?_
                      refine x_iadd X dX4_pass_99 ?_
                      refine x_icmp_le (tgt := 131) X (by omega) (by decide) dX4_pass_100 (fun hb100 => ?_) (fun hb100 => ?_)
                      · rw [oLoop_f (ovP_f (by omega))] at hQ3 hQ4
                        refine x_iinc (lv' := [(5, .int (iI (pl + 1))), (0, .ref mo), (1, .int (iI d)), (3, .int (iI tk3)), (4, .int (iI i))]) X hl 4 rfl (by decide) rfl dX4_pass_131 (fun ls hl => ?_)
                        refine x_goto (tgt := 66) X (by decide) dX4_pass_134 ?_
                        refine ih66 σ3 f3 (pl + 1) tk3 m4 _ _ _ (by omega) hI3 (⟨_, _, _, hM, hg, hz, hw⟩) hF (by omega) hT3 hQ3 hQ4 w (lv_sub hl [1, 2, 3, 4, 0] rfl)
                      · have hN1 : gN (oTake pl (oAdd true (gR σ3 pl 1) σ3)) = gN σ3 - 1 := rfl
                        rw [oLoop_t (ovP_t (by omega))] at hQ3 hQ4
                        refine x_al_n X hl 0 rfl rfl dX4_pass_103 ?_
                        refine x_dup X rfl dX4_pass_104 ?_
                        refine x_get X w hM.mm hM.fm fq_X4_pass_94 rfl dX4_pass_105 ?_
                        refine x_al_n X hl 0 rfl rfl dX4_pass_108 ?_
                        refine x_get X w hM.mm hM.fm fq_X4_pass_13 rfl dX4_pass_109 ?_
                        refine x_il X hl 4 rfl dX4_pass_112 ?_
                        refine x_ialdv (v := (gR σ3) pl 1) X w hM.m3 hM.f3 (by omega) (hg pl (by omega) (by omega) 1 (by decide)) dX4_pass_114 ?_
                        refine x_iadd X dX4_pass_115 ?_
                        refine x_put X w hM.mm hM.fm fp_X4_pass_94 rfl rfl (Nat.le_of_ble_eq_true rfl) rfl dX4_pass_116 (fun H locs w => ?_)
                        obtain ⟨f119, w, hM, hF⟩ : ∃ f9, XW D A s.heap L f9 H locs ∧ ML cs L f9 mo B 0 (gN σ3) (gK σ3) (gT σ3) ((gP σ3) + ((gR σ3) pl 1)) (gB σ3) (gS σ3) g zz ww ∧ FM f0 f9 mo B := ⟨_, w, hM.fld _ _ _ _ _ _ _, hF.m⟩
                        refine x_al_n X hl 0 rfl rfl dX4_pass_119 ?_
                        refine x_il X hl 4 rfl dX4_pass_120 ?_
                        refine x_callV (As := [.int (iI pl)]) (rest := []) (c1 := 0) (s1 := 0) X w hA (c_X4_takeOut l D cs L f119 mo B 0 (oAdd true ((gR σ3) pl 1) σ3) pl ⟨_, _, _, hM, hg, hz, hw⟩ hI3 (show 0 ≤ pl ∧ pl < gN σ3 from by omega)) k_X4_pass_X4_takeOut (by decide) hM.mm hM.fm rfl rfl rfl hl rfl (Nat.le_of_ble_eq_true rfl) (by decide) rfl rfl dX4_pass_122 (fun v L1 f1 H locs w hp => ?_)
                        obtain ⟨rfl, rfl, hfm, hX⟩ := hp
                        have hF := hF.tr hfm
                        have hI122 : Inv (oTake pl (oAdd true ((gR σ3) pl 1) σ3)) := Inv.take hI3 (show 0 ≤ pl ∧ pl < gN σ3 from by omega)
                        obtain ⟨g, zz, ww, hM, hg, hz, hw⟩ := hX
                        show W p l e _ s m _ below meth c _ _ _ _ _ (F0 m 125 ls [])
                        refine x_iinc (lv' := [(3, .int (iI (tk3 + 1))), (0, .ref mo), (1, .int (iI d)), (4, .int (iI i)), (5, .int (iI pl))]) X hl 2 rfl (by decide) rfl dX4_pass_125 (fun ls hl => ?_)
                        refine x_goto (tgt := 66) X (by decide) dX4_pass_128 ?_
                        refine ih66 _ f1 pl (tk3 + 1) m4 _ _ _ (by omega) hI122 (⟨_, _, _, hM, hg, hz, hw⟩) hF (⟨by omega, by rw [hN1]; omega⟩) hT3 (by rw [← hQ3]; show _ = tk3 + (_ + 1); omega) hQ4 w (lv_sub hl [1, 2, 0, 3, 4] rfl)
              refine loop66 _ (oDay σ2) f63 0 tk ((gN σ2).toNat) _ _ _ (Nat.lt_succ_self _) hId (⟨_, _, _, hM, hg, hz, hw⟩) hF (show 0 ≤ (0 : Int) ∧ 0 + ((gN σ2).toNat : Int) = gN σ2 from by omega) rfl rfl rfl w (lv_sub hl [1, 2, 3, 4, 0] rfl)
        refine loop47 _ σ f1 0 0 (d.toNat) _ _ _ (Nat.lt_succ_self _) hI (⟨_, _, _, hM, hg, hz, hw⟩) hF (by omega) (by omega) (Int.zero_add _) rfl w (lv_sub hl [3, 4, 1, 0] rfl)
      · exfalso; omega
    · refine x_iconst X dX4_pass_29 ?_
      refine x_goto (tgt := 34) X (by decide) dX4_pass_30 ?_
      refine x_callV (As := [.int (iI 2)]) (rest := []) (c1 := 0) (s1 := 0) X w hA (c_X4_goesWell l D cs L f0 mo B t (gN σ) (gK σ) (gT σ) (gP σ) (gB σ) (gS σ) g zz ww 2 hM (by omega)) k_X4_pass_X4_goesWell (by decide) hM.mm hM.fm rfl rfl rfl hl rfl (Nat.le_of_ble_eq_true rfl) (by decide) rfl rfl dX4_pass_34 (fun v L1 f1 H locs w hp => ?_)
      obtain ⟨rfl, hfm, hM, hp⟩ := hp
      have hF := hF.tr hfm
      rcases hp with ⟨rfl, hq34⟩ | ⟨rfl, hq34⟩
      · exfalso; omega
      · show W p l e _ s m _ below meth c _ _ _ _ _ (F0 m 37 ls [.int (iI 0)])
        refine x_ifF_ne (tgt := 42) X (by decide) (by decide) (by decide) dX4_pass_37 ?_
        refine x_iconst X dX4_pass_40 ?_
        refine x_iret X w hr hlk ⟨by decide, by decide⟩ dX4_pass_41 ?_
        have ho : oPas d σ = (2, 0, σ) := (if_pos (by omega)).trans (if_pos (by omega))
        rw [ho]
        exact ⟨rfl, rfl, hF, ⟨_, _, _, hM, hg, hz, hw⟩⟩
  · show W p l e _ s m _ below meth c _ _ _ _ _ (F0 m 7 ls [.int (iI 0)])
    refine x_is_n (lv' := [(2, .int (iI 0)), (0, .ref mo), (1, .int (iI d))]) X hl rfl (by decide) rfl dX4_pass_7 (fun ls hl => ?_)
    refine x_al_n X hl 1 rfl rfl dX4_pass_8 ?_
    refine x_il_n X hl 0 rfl rfl dX4_pass_9 ?_
    refine x_ifF_ne (tgt := 17) X (by decide) (by decide) (by decide) dX4_pass_10 ?_
    refine x_iconst X dX4_pass_13 ?_
    refine x_goto (tgt := 34) X (by decide) dX4_pass_14 ?_
    refine x_callV (As := [.int (iI 1)]) (rest := []) (c1 := 0) (s1 := 0) X w hA (c_X4_goesWell l D cs L f0 mo B t (gN σ) (gK σ) (gT σ) (gP σ) (gB σ) (gS σ) g zz ww 1 hM (by omega)) k_X4_pass_X4_goesWell (by decide) hM.mm hM.fm rfl rfl rfl hl rfl (Nat.le_of_ble_eq_true rfl) (by decide) rfl rfl dX4_pass_34 (fun v L1 f1 H locs w hp => ?_)
    obtain ⟨rfl, hfm, hM, hp⟩ := hp
    have hF := hF.tr hfm
    rcases hp with ⟨rfl, hq34⟩ | ⟨rfl, hq34⟩
    · exfalso; omega
    · show W p l e _ s m _ below meth c _ _ _ _ _ (F0 m 37 ls [.int (iI 0)])
      refine x_ifF_ne (tgt := 42) X (by decide) (by decide) (by decide) dX4_pass_37 ?_
      refine x_iconst X dX4_pass_40 ?_
      refine x_iret X w hr hlk ⟨by decide, by decide⟩ dX4_pass_41 ?_
      have ho : oPas d σ = (1, 0, σ) := if_neg (by omega)
      rw [ho]
      exact ⟨rfl, rfl, hF, ⟨_, _, _, hM, hg, hz, hw⟩⟩

theorem k_X4_step_X4_in : XS wsX4_step RX4 38 yX4_in cX4_in 3 (some .boolean) wsX4_in 3 := ⟨gX4_step_X4_in, ⟨_, rfl⟩, by decide, by decide, by decide +kernel⟩
theorem iw_X4_step_X4 : ∀ w ∈ wsX40, w ∈ wsX4_step := by decide +kernel
theorem fq_X4_step_28 : XF wsX4_step RX4 28 4 12 := ⟨RX4, TX4, 14, iw_X4_step_X4, rfl, by decide, by decide +kernel⟩
theorem k_X4_step_X4_goesWell : XV wsX4_step RX4 63 RX4 yX4_goesWell cX4_goesWell 2 (some .boolean) wsX4_goesWell 1 := ⟨gX4_step_X4_goesWell, ⟨_, rfl⟩, rfl, by decide, by decide, by decide +kernel⟩
theorem fq_X4_step_45 : XF wsX4_step RX4 45 4 7 := ⟨RX4, TX4, 14, iw_X4_step_X4, rfl, by decide, by decide +kernel⟩
theorem fq_X4_step_25 : XF wsX4_step RX4 25 4 8 := ⟨RX4, TX4, 14, iw_X4_step_X4, rfl, by decide, by decide +kernel⟩
theorem k_X4_step_X4_dropPage : XV wsX4_step RX4 79 RX4 yX4_dropPage cX4_dropPage 3 none wsX4_dropPage 1 := ⟨gX4_step_X4_dropPage, ⟨_, rfl⟩, rfl, by decide, by decide, by decide +kernel⟩
theorem fp_X4_step_28 : XGn wsX4_step RX4 28 4 12 (tyX4 12) := ⟨RX4, TX4, 14, tyX4, iw_X4_step_X4, rfl, by decide, by decide +kernel, tyX4_ok, nmX4, rfl, by decide +kernel⟩
set_option maxHeartbeats 4000000 in
set_option maxRecDepth 100000 in
theorem c_X4_step (l : Launch) (D : va_G) (cs : ClassId × ClassId × ClassId) (L : List Nat) (f0 : Nat → va_E) (mo : Nat) (B : Nat → Nat) (t : Int) (σ : Sg) (d : Int) (hX : MX cs L f0 mo B t σ) (hI : Inv σ) (hrg : (-2147483648 ≤ d ∧ d < 2147483648)) : C0 l yX4_step wsX4_step ({ frames := 2, cells := 0, slots := 0, locals := 34 } : Room) D cs [.ref mo, .int (iI d)] L f0 (fun v L1 f1 => MPi cs L f0 mo B (oSte d σ) v L1 f1) := by
  refine C0.of (cc := cX4_step) (maxL := 4) (ret := (some .int)) (by decide) rfl (Nat.le_of_ble_eq_true rfl) ?_
  intro p e s m below meth c X hr hlk hin A hA w ls hl
  have hl : lv_has ls 4 [(0, .ref mo), (1, .int (iI d))] := hl
  obtain ⟨g, zz, ww, hM, hg, hz, hw⟩ := hX
  have hF : FM f0 f0 mo B := FM.rf _ _ _
  have hn := hI.n; have hk := hI.k; have ht := hI.t; have hsw := hI.s; have hz4 := hI.z4
  refine x_al_n X hl 0 rfl rfl dX4_step_0 ?_
  refine x_il_n X hl 1 rfl rfl dX4_step_1 ?_
  refine x_iconst X dX4_step_2 ?_
  refine x_bipush X (by decide) dX4_step_3 ?_
  refine x_callS (As := [.int (iI d), .int (iI 1), .int (iI 100)]) (rest := [.ref mo]) (c1 := 0) (s1 := 0) X w hA (c_X4_in l D cs L f0 d 1 100 (by omega)) k_X4_step_X4_in (by decide) rfl hl rfl (Nat.le_of_ble_eq_true rfl) (by decide) rfl rfl dX4_step_5 (fun v L1 f1 H locs w hp => ?_)
  obtain ⟨rfl, rfl, hp⟩ := hp
  rcases hp with ⟨rfl, hq5⟩ | ⟨rfl, hq5⟩
  · show W p l e _ s m _ below meth c _ _ _ _ _ (F0 m 8 ls [.int (iI 1), .ref mo])
    refine x_ifT_ne (tgt := 15) X (by decide) (by decide) (by decide) dX4_step_8 ?_
    refine x_al_n X hl 0 rfl rfl dX4_step_15 ?_
    refine x_get X w hM.mm hM.fm fq_X4_step_28 rfl dX4_step_16 ?_
    refine x_iconst X dX4_step_19 ?_
    refine x_icmp_ne (tgt := 27) X (by omega) (by decide) dX4_step_20 (fun hb20 => ?_) (fun hb20 => ?_)
    · refine x_iconst X dX4_step_27 ?_
      refine x_callV (As := [.int (iI 0)]) (rest := []) (c1 := 0) (s1 := 0) X w hA (c_X4_goesWell l D cs L f0 mo B t (gN σ) (gK σ) (gT σ) (gP σ) (gB σ) (gS σ) g zz ww 0 hM (by omega)) k_X4_step_X4_goesWell (by decide) hM.mm hM.fm rfl rfl rfl hl rfl (Nat.le_of_ble_eq_true rfl) (by decide) rfl rfl dX4_step_28 (fun v L1 f1 H locs w hp => ?_)
      obtain ⟨rfl, hfm, hM, hp⟩ := hp
      have hF := hF.tr hfm
      rcases hp with ⟨rfl, hq28⟩ | ⟨rfl, hq28⟩
      · show W p l e _ s m _ below meth c _ _ _ _ _ (F0 m 31 ls [.int (iI 1)])
        refine x_ifT_ne (tgt := 36) X (by decide) (by decide) (by decide) dX4_step_31 ?_
        refine x_iconst X dX4_step_36 ?_
        refine x_is_n (lv' := [(2, .int (iI 0)), (0, .ref mo), (1, .int (iI d))]) X hl rfl (by decide) rfl dX4_step_37 (fun ls hl => ?_)
        refine x_iconst X dX4_step_38 ?_
        refine x_is_n (lv' := [(3, .int (iI 0)), (2, .int (iI 0)), (0, .ref mo), (1, .int (iI d))]) X hl rfl (by decide) rfl dX4_step_39 (fun ls hl => ?_)
        have loop40 : ∀ (N9 : Nat) (σ2 : Sg) (f1 : Nat → va_E) (i : Int) (tk : Int) (mm : Nat) (H : Heap) (locs : List Loc) (ls : Array Slot), mm < N9 → (Inv σ2) → (MX cs L f1 mo B 0 σ2) → (FM f0 f1 mo B) → (0 ≤ i ∧ i + (mm : Int) = d) → (tk + (oSteps mm σ2).1 = (oSteps d.toNat σ).1) → ((oSteps mm σ2).2 = (oSteps d.toNat σ).2) → XW D A s.heap L f1 H locs → lv_has ls 4 [(0, .ref mo), (1, .int (iI d)), (2, .int (iI tk)), (3, .int (iI i))] → W p l e ({ frames := 2, cells := 0, slots := 0, locals := 34 } : Room) s m ([.ref mo, .int (iI d)] : List Value).toArray below meth c H locs 0 0 (MQ below (CQ D cs A (fun v L1 f1 => MPi cs L f0 mo B (oSte d σ) v L1 f1)) ([.ref mo, .int (iI d)] : List Value).toArray s 0 0 A) (F0 m 40 ls []) := by
          intro N9
          induction N9 with
          | zero => intro σ2 f1 i tk mm H locs ls h9; exact absurd h9 (Nat.not_lt_zero _)
          | succ N9 ih40 =>
            intro σ2 f1 i tk mm H locs ls h9 hI2 hX hF hi hQ hQ2 w hl
            obtain ⟨g, zz, ww, hM, hg, hz, hw⟩ := hX
            have hn := hI2.n; have hk := hI2.k; have ht := hI2.t; have hsw := hI2.s; have hz4 := hI2.z4
            refine x_il_n X hl 3 rfl rfl dX4_step_40 ?_
            refine x_il_n X hl 1 rfl rfl dX4_step_41 ?_
            refine x_icmp_ge (tgt := 161) X (by omega) (by decide) dX4_step_42 (fun hb42 => ?_) (fun hb42 => ?_)
            · refine x_il_n X hl 2 rfl rfl dX4_step_161 ?_
              refine x_iret X w hr hlk ⟨by decide, by decide⟩ dX4_step_162 ?_
              have he9 : mm = 0 := by omega
              subst he9
              have hQ : tk + 0 = (oSteps d.toNat σ).1 := hQ
              rw [Int.add_zero] at hQ
              have hQ2 : σ2 = (oSteps d.toNat σ).2 := hQ2
              have ho : oSte d σ = (0, tk, σ2) := (if_pos (by omega)).trans ((if_neg (by omega)).trans (by rw [← hQ, ← hQ2]))
              rw [ho]
              exact ⟨rfl, rfl, hF, ⟨_, _, _, hM, hg, hz, hw⟩⟩
            · refine x_al_n X hl 0 rfl rfl dX4_step_45 ?_
              refine x_get X w hM.mm hM.fm fq_X4_step_28 rfl dX4_step_46 ?_
              refine x_iconst X dX4_step_49 ?_
              refine x_icmp_eq (tgt := 161) X (by omega) (by decide) dX4_step_50 (fun hb50 => ?_) (fun hb50 => ?_)
              · refine x_il_n X hl 2 rfl rfl dX4_step_161 ?_
                refine x_iret X w hr hlk ⟨by decide, by decide⟩ dX4_step_162 ?_
                rw [oSteps_0 hb50] at hQ hQ2
                have hQ : tk + 0 = (oSteps d.toNat σ).1 := hQ
                rw [Int.add_zero] at hQ
                have hQ2 : σ2 = (oSteps d.toNat σ).2 := hQ2
                have ho : oSte d σ = (0, tk, σ2) := (if_pos (by omega)).trans ((if_neg (by omega)).trans (by rw [← hQ, ← hQ2]))
                rw [ho]
                exact ⟨rfl, rfl, hF, ⟨_, _, _, hM, hg, hz, hw⟩⟩
              · obtain ⟨m1, rfl⟩ : ∃ m1 : Nat, mm = m1 + 1 := ⟨mm - 1, by omega⟩
                refine x_al_n X hl 0 rfl rfl dX4_step_53 ?_
                refine x_get X w hM.mm hM.fm fq_X4_step_28 rfl dX4_step_54 ?_
                refine x_iconst X dX4_step_57 ?_
                refine x_iadd X dX4_step_58 ?_
                refine x_al_n X hl 0 rfl rfl dX4_step_59 ?_
                refine x_get X w hM.mm hM.fm fq_X4_step_45 rfl dX4_step_60 ?_
                refine x_icmp_lt (tgt := 74) X (by omega) (by decide) dX4_step_63 (fun hb63 => ?_) (fun hb63 => ?_)
                · have hzq := hz4 (gS σ2) (by omega) (by omega)
                  have hzr := hz4 (gS σ2 + 1) (by omega) (by omega)
                  refine x_al_n X hl 0 rfl rfl dX4_step_74 ?_
                  refine x_get X w hM.mm hM.fm fq_X4_step_25 rfl dX4_step_75 ?_
                  refine x_al_n X hl 0 rfl rfl dX4_step_78 ?_
                  refine x_get X w hM.mm hM.fm fq_X4_step_28 rfl dX4_step_79 ?_
                  refine x_ialdv (v := (gZ σ2) (gS σ2)) X w hM.m8 hM.f8 (by omega) (hz (gS σ2) (by omega) (by omega)) dX4_step_82 ?_
                  refine x_iconst X dX4_step_83 ?_
                  refine x_icmp_ne (tgt := 100) X (by omega) (by decide) dX4_step_84 (fun hb84 => ?_) (fun hb84 => ?_)
                  · refine x_al_n X hl 0 rfl rfl dX4_step_100 ?_
                    refine x_get X w hM.mm hM.fm fq_X4_step_25 rfl dX4_step_101 ?_
                    refine x_al_n X hl 0 rfl rfl dX4_step_104 ?_
                    refine x_get X w hM.mm hM.fm fq_X4_step_28 rfl dX4_step_105 ?_
                    refine x_dup2 X rfl rfl dX4_step_108 ?_
                    refine x_ialdv (v := (gZ σ2) (gS σ2)) X w hM.m8 hM.f8 (by omega) (hz (gS σ2) (by omega) (by omega)) dX4_step_109 ?_
                    refine x_iconst X dX4_step_110 ?_
                    refine x_iadd X dX4_step_111 ?_
                    refine x_iast X w hM.m8 hM.f8 (by omega) dX4_step_112 (fun H locs w => ?_)
                    obtain ⟨f113, zz113, w, hM, hF, hz113⟩ : ∃ f9 z9, XW D A s.heap L f9 H locs ∧ ML cs L f9 mo B 0 (gN σ2) (gK σ2) (gT σ2) (gP σ2) (gB σ2) (gS σ2) g z9 ww ∧ FM f0 f9 mo B ∧ (∀ j, 0 ≤ j → j < gK σ2 → z9 j = (uI (gZ σ2) (gS σ2) (((gZ σ2) (gS σ2)) + 1)) j) := ⟨_, _, w, hM.zw, hF.a 8, ag_u hz⟩
                    refine x_al_n X hl 0 rfl rfl dX4_step_113 ?_
                    refine x_get X w hM.mm hM.fm fq_X4_step_25 rfl dX4_step_114 ?_
                    refine x_al_n X hl 0 rfl rfl dX4_step_117 ?_
                    refine x_get X w hM.mm hM.fm fq_X4_step_28 rfl dX4_step_118 ?_
                    refine x_iconst X dX4_step_121 ?_
                    refine x_iadd X dX4_step_122 ?_
                    refine x_dup2 X rfl rfl dX4_step_123 ?_
                    refine x_ialdv (v := (gZ σ2) ((gS σ2) + 1)) X w hM.m8 hM.f8 (by omega) ((hz113 ((gS σ2) + 1) (by omega) (by omega)).trans (uI_n _ _ (by omega))) dX4_step_124 ?_
                    refine x_iconst X dX4_step_125 ?_
                    refine x_isub X dX4_step_126 ?_
                    refine x_iast X w hM.m8 hM.f8 (by omega) dX4_step_127 (fun H locs w => ?_)
                    obtain ⟨f128, zz128, w, hM, hF, hz128⟩ : ∃ f9 z9, XW D A s.heap L f9 H locs ∧ ML cs L f9 mo B 0 (gN σ2) (gK σ2) (gT σ2) (gP σ2) (gB σ2) (gS σ2) g z9 ww ∧ FM f0 f9 mo B ∧ (∀ j, 0 ≤ j → j < gK σ2 → z9 j = (uI (uI (gZ σ2) (gS σ2) (((gZ σ2) (gS σ2)) + 1)) ((gS σ2) + 1) (((gZ σ2) ((gS σ2) + 1)) - 1)) j) := ⟨_, _, w, hM.zw, hF.a 8, ag_u hz113⟩
                    refine x_iinc (lv' := [(2, .int (iI (tk + 1))), (0, .ref mo), (1, .int (iI d)), (3, .int (iI i))]) X hl 2 rfl (by decide) rfl dX4_step_128 (fun ls hl => ?_)
                    refine x_al_n X hl 1 rfl rfl dX4_step_131 ?_
                    refine x_get X w hM.mm hM.fm fq_X4_step_25 rfl dX4_step_132 ?_
                    refine x_al_n X hl 1 rfl rfl dX4_step_135 ?_
                    refine x_get X w hM.mm hM.fm fq_X4_step_28 rfl dX4_step_136 ?_
                    refine x_iconst X dX4_step_139 ?_
                    refine x_iadd X dX4_step_140 ?_
                    refine x_ialdv (v := ((gZ σ2) ((gS σ2) + 1)) - 1) X w hM.m8 hM.f8 (by omega) ((hz128 ((gS σ2) + 1) (by omega) (by omega)).trans (uI_s _ _ _)) dX4_step_141 ?_
                    refine x_if_ne (tgt := 155) X (by omega) (by decide) dX4_step_142 (fun hb142 => ?_) (fun hb142 => ?_)
                    · have hsw9 : oSw σ2 = (1, oMv σ2) := (if_pos (by omega)).trans (if_neg (by omega))
                      have hmv := mv_1 (z := gZ σ2) (k := gK σ2) (a := gS σ2 + 1) (b := gS σ2) (by omega) (by omega) hz128
                      have hX2 : MX cs L f128 mo B 0 (oMv σ2) := ⟨_, _, _, (by show ML cs L _ mo B _ _ (mvK (gZ σ2) (gK σ2) (gS σ2 + 1)) _ _ _ _ _ _ _; rw [hmv.1]; exact hM), hg, hmv.2, hw⟩
                      rw [oSteps_n hb50] at hQ hQ2
                      have hs1 : (oSw σ2).1 = 1 := by rw [hsw9]
                      have hX3 : MX cs L f128 mo B 0 (oSw σ2).2 := by rw [hsw9]; exact hX2
                      have hQ : tk + ((oSw σ2).1 + (oSteps m1 (oSw σ2).2).1) = (oSteps d.toNat σ).1 := hQ
                      refine x_iinc (lv' := [(3, .int (iI (i + 1))), (2, .int (iI (tk + 1))), (0, .ref mo), (1, .int (iI d))]) X hl 3 rfl (by decide) rfl dX4_step_155 (fun ls hl => ?_)
                      refine x_goto (tgt := 40) X (by decide) dX4_step_158 ?_
                      refine ih40 ((oSw σ2).2) f128 (i + 1) (tk + 1) m1 _ _ _ (by omega) (Inv.sw hI2 (by omega)) hX3 hF (by omega) (by omega) hQ2 w (lv_sub hl [2, 3, 1, 0] rfl)
                    · refine x_al_n X hl 1 rfl rfl dX4_step_145 ?_
                      refine x_al_n X hl 1 rfl rfl dX4_step_146 ?_
                      refine x_get X w hM.mm hM.fm fq_X4_step_28 rfl dX4_step_147 ?_
                      refine x_iconst X dX4_step_150 ?_
                      refine x_iadd X dX4_step_151 ?_
                      refine x_callV (As := [.int (iI ((gS σ2) + 1))]) (rest := []) (c1 := 0) (s1 := 0) X w hA (c_X4_dropPage l D cs L f128 mo B 0 (gN σ2) (gK σ2) (gT σ2) (gP σ2) (gB σ2) (gS σ2) g zz128 ww (uI (uI (gZ σ2) (gS σ2) (((gZ σ2) (gS σ2)) + 1)) ((gS σ2) + 1) (((gZ σ2) ((gS σ2) + 1)) - 1)) ((gS σ2) + 1) hM hz128 (by omega)) k_X4_step_X4_dropPage (by decide) hM.mm hM.fm rfl rfl rfl hl rfl (Nat.le_of_ble_eq_true rfl) (by decide) rfl rfl dX4_step_152 (fun v L1 f1 H locs w hp => ?_)
                      obtain ⟨rfl, rfl, hfm, zz152, hM, hz152⟩ := hp
                      have hF := hF.tr hfm
                      show W p l e _ s m _ below meth c _ _ _ _ _ (F0 m 155 ls [])
                      have hsw9 : oSw σ2 = (1, oMv σ2) := (if_pos (by omega)).trans (if_neg (by omega))
                      rw [del_u] at hz152
                      have hmv := mv_0 (z := gZ σ2) (k := gK σ2) (a := gS σ2 + 1) (b := gS σ2) (by omega) (by omega) hz152
                      have hX2 : MX cs L f1 mo B 0 (oMv σ2) := ⟨_, _, _, (by show ML cs L _ mo B _ _ (mvK (gZ σ2) (gK σ2) (gS σ2 + 1)) _ _ _ _ _ _ _; rw [hmv.1]; exact hM), hg, hmv.2, hw⟩
                      rw [oSteps_n hb50] at hQ hQ2
                      have hs1 : (oSw σ2).1 = 1 := by rw [hsw9]
                      have hX3 : MX cs L f1 mo B 0 (oSw σ2).2 := by rw [hsw9]; exact hX2
                      have hQ : tk + ((oSw σ2).1 + (oSteps m1 (oSw σ2).2).1) = (oSteps d.toNat σ).1 := hQ
                      refine x_iinc (lv' := [(3, .int (iI (i + 1))), (2, .int (iI (tk + 1))), (0, .ref mo), (1, .int (iI d))]) X hl 3 rfl (by decide) rfl dX4_step_155 (fun ls hl => ?_)
                      refine x_goto (tgt := 40) X (by decide) dX4_step_158 ?_
                      refine ih40 ((oSw σ2).2) f1 (i + 1) (tk + 1) m1 _ _ _ (by omega) (Inv.sw hI2 (by omega)) hX3 hF (by omega) (by omega) hQ2 w (lv_sub hl [2, 3, 1, 0] rfl)
                  · refine x_al_n X hl 0 rfl rfl dX4_step_87 ?_
                    refine x_dup X rfl dX4_step_88 ?_
                    refine x_get X w hM.mm hM.fm fq_X4_step_28 rfl dX4_step_89 ?_
                    refine x_iconst X dX4_step_92 ?_
                    refine x_iadd X dX4_step_93 ?_
                    refine x_put X w hM.mm hM.fm fp_X4_step_28 rfl rfl (Nat.le_of_ble_eq_true rfl) rfl dX4_step_94 (fun H locs w => ?_)
                    obtain ⟨f97, w, hM, hF⟩ : ∃ f9, XW D A s.heap L f9 H locs ∧ ML cs L f9 mo B 0 (gN σ2) (gK σ2) (gT σ2) (gP σ2) (gB σ2) ((gS σ2) + 1) g zz ww ∧ FM f0 f9 mo B := ⟨_, w, hM.fld _ _ _ _ _ _ _, hF.m⟩
                    refine x_goto (tgt := 155) X (by decide) dX4_step_97 ?_
                    have hsw9 : oSw σ2 = (0, oSetS (gS σ2 + 1) σ2) := (if_pos (by omega)).trans (if_pos (by omega))
                    have hX2 : MX cs L f97 mo B 0 (oSetS (gS σ2 + 1) σ2) := ⟨_, _, _, hM, hg, hz, hw⟩
                    rw [oSteps_n hb50] at hQ hQ2
                    have hs1 : (oSw σ2).1 = 0 := by rw [hsw9]
                    have hX3 : MX cs L f97 mo B 0 (oSw σ2).2 := by rw [hsw9]; exact hX2
                    have hQ : tk + ((oSw σ2).1 + (oSteps m1 (oSw σ2).2).1) = (oSteps d.toNat σ).1 := hQ
                    refine x_iinc (lv' := [(3, .int (iI (i + 1))), (0, .ref mo), (1, .int (iI d)), (2, .int (iI tk))]) X hl 3 rfl (by decide) rfl dX4_step_155 (fun ls hl => ?_)
                    refine x_goto (tgt := 40) X (by decide) dX4_step_158 ?_
                    refine ih40 ((oSw σ2).2) f97 (i + 1) tk m1 _ _ _ (by omega) (Inv.sw hI2 (by omega)) hX3 hF (by omega) (by omega) hQ2 w (lv_sub hl [1, 2, 3, 0] rfl)
                · refine x_al_n X hl 0 rfl rfl dX4_step_66 ?_
                  refine x_iconst X dX4_step_67 ?_
                  refine x_put X w hM.mm hM.fm fp_X4_step_28 rfl rfl (Nat.le_of_ble_eq_true rfl) rfl dX4_step_68 (fun H locs w => ?_)
                  obtain ⟨f71, w, hM, hF⟩ : ∃ f9, XW D A s.heap L f9 H locs ∧ ML cs L f9 mo B 0 (gN σ2) (gK σ2) (gT σ2) (gP σ2) (gB σ2) (-1) g zz ww ∧ FM f0 f9 mo B := ⟨_, w, hM.fld _ _ _ _ _ _ _, hF.m⟩
                  refine x_goto (tgt := 155) X (by decide) dX4_step_71 ?_
                  have hsw9 : oSw σ2 = (0, oSetS (-1) σ2) := if_neg (by omega)
                  have hX2 : MX cs L f71 mo B 0 (oSetS (-1) σ2) := ⟨_, _, _, hM, hg, hz, hw⟩
                  rw [oSteps_n hb50] at hQ hQ2
                  have hs1 : (oSw σ2).1 = 0 := by rw [hsw9]
                  have hX3 : MX cs L f71 mo B 0 (oSw σ2).2 := by rw [hsw9]; exact hX2
                  have hQ : tk + ((oSw σ2).1 + (oSteps m1 (oSw σ2).2).1) = (oSteps d.toNat σ).1 := hQ
                  refine x_iinc (lv' := [(3, .int (iI (i + 1))), (0, .ref mo), (1, .int (iI d)), (2, .int (iI tk))]) X hl 3 rfl (by decide) rfl dX4_step_155 (fun ls hl => ?_)
                  refine x_goto (tgt := 40) X (by decide) dX4_step_158 ?_
                  refine ih40 ((oSw σ2).2) f71 (i + 1) tk m1 _ _ _ (by omega) (Inv.sw hI2 (by omega)) hX3 hF (by omega) (by omega) hQ2 w (lv_sub hl [1, 2, 3, 0] rfl)
        refine loop40 _ σ f1 0 0 (d.toNat) _ _ _ (Nat.lt_succ_self _) hI (⟨_, _, _, hM, hg, hz, hw⟩) hF (by omega) (Int.zero_add _) rfl w (lv_sub hl [2, 3, 1, 0] rfl)
      · exfalso; omega
    · refine x_iconst X dX4_step_23 ?_
      refine x_goto (tgt := 28) X (by decide) dX4_step_24 ?_
      refine x_callV (As := [.int (iI 2)]) (rest := []) (c1 := 0) (s1 := 0) X w hA (c_X4_goesWell l D cs L f0 mo B t (gN σ) (gK σ) (gT σ) (gP σ) (gB σ) (gS σ) g zz ww 2 hM (by omega)) k_X4_step_X4_goesWell (by decide) hM.mm hM.fm rfl rfl rfl hl rfl (Nat.le_of_ble_eq_true rfl) (by decide) rfl rfl dX4_step_28 (fun v L1 f1 H locs w hp => ?_)
      obtain ⟨rfl, hfm, hM, hp⟩ := hp
      have hF := hF.tr hfm
      rcases hp with ⟨rfl, hq28⟩ | ⟨rfl, hq28⟩
      · exfalso; omega
      · show W p l e _ s m _ below meth c _ _ _ _ _ (F0 m 31 ls [.int (iI 0)])
        refine x_ifF_ne (tgt := 36) X (by decide) (by decide) (by decide) dX4_step_31 ?_
        refine x_iconst X dX4_step_34 ?_
        refine x_iret X w hr hlk ⟨by decide, by decide⟩ dX4_step_35 ?_
        have ho : oSte d σ = (2, 0, σ) := (if_pos (by omega)).trans (if_pos (by omega))
        rw [ho]
        exact ⟨rfl, rfl, hF, ⟨_, _, _, hM, hg, hz, hw⟩⟩
  · show W p l e _ s m _ below meth c _ _ _ _ _ (F0 m 8 ls [.int (iI 0), .ref mo])
    refine x_ifF_ne (tgt := 15) X (by decide) (by decide) (by decide) dX4_step_8 ?_
    refine x_iconst X dX4_step_11 ?_
    refine x_goto (tgt := 28) X (by decide) dX4_step_12 ?_
    refine x_callV (As := [.int (iI 1)]) (rest := []) (c1 := 0) (s1 := 0) X w hA (c_X4_goesWell l D cs L f0 mo B t (gN σ) (gK σ) (gT σ) (gP σ) (gB σ) (gS σ) g zz ww 1 hM (by omega)) k_X4_step_X4_goesWell (by decide) hM.mm hM.fm rfl rfl rfl hl rfl (Nat.le_of_ble_eq_true rfl) (by decide) rfl rfl dX4_step_28 (fun v L1 f1 H locs w hp => ?_)
    obtain ⟨rfl, hfm, hM, hp⟩ := hp
    have hF := hF.tr hfm
    rcases hp with ⟨rfl, hq28⟩ | ⟨rfl, hq28⟩
    · exfalso; omega
    · show W p l e _ s m _ below meth c _ _ _ _ _ (F0 m 31 ls [.int (iI 0)])
      refine x_ifF_ne (tgt := 36) X (by decide) (by decide) (by decide) dX4_step_31 ?_
      refine x_iconst X dX4_step_34 ?_
      refine x_iret X w hr hlk ⟨by decide, by decide⟩ dX4_step_35 ?_
      have ho : oSte d σ = (1, 0, σ) := if_neg (by omega)
      rw [ho]
      exact ⟨rfl, rfl, hF, ⟨_, _, _, hM, hg, hz, hw⟩⟩
