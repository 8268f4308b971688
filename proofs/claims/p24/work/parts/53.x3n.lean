/-! the class's methods where what they are given is in range -/
set_option maxHeartbeats 4000000 in
set_option maxRecDepth 100000 in
theorem c_X3_requireCase0 (l : Launch) (D : va_G) (cs : ClassId × ClassId × ClassId) (L : List Nat) (f0 : Nat → va_E) (nu : Int) (hrg : -2147483648 ≤ nu ∧ nu < 2147483648) (hin9 : 0 ≤ nu ∧ nu ≤ 999) : C0 l yX3_requireCase wsX3_requireCase ({ frames := 6, cells := 0, slots := 0, locals := 90 } : Room) D cs [.int (iI nu)] L f0 (fun v L1 f1 => L = L1 ∧ f0 = f1 ∧ v = none) := by
  refine C0.of (cc := cX3_requireCase) (maxL := 1) (ret := none) (by decide) rfl (Nat.le_of_ble_eq_true rfl) ?_
  intro p e s m below meth c X hr hlk hin A hA w ls hl
  have hl : lv_has ls 1 [(0, .int (iI nu))] := hl
  refine x_il_n X hl 0 rfl rfl dX3_requireCase_0 ?_
  refine x_iconst X dX3_requireCase_1 ?_
  refine x_sipush X (by decide) dX3_requireCase_2 ?_
  refine x_callS (As := [.int (iI nu), .int (iI 0), .int (iI 999)]) (rest := []) (c1 := 0) (s1 := 0) X w hA (c_X3_isIn l D cs L f0 nu 0 999 (by omega)) k_X3_requireCase_X3_isIn (by decide) rfl hl rfl (Nat.le_of_ble_eq_true rfl) (by decide) rfl rfl dX3_requireCase_5 (fun v L1 f1 H locs w hp => ?_)
  obtain ⟨rfl, rfl, hp⟩ := hp
  rcases hp with ⟨rfl, hq5⟩ | ⟨rfl, hq5⟩
  · show W p l e _ s m _ below meth c _ _ _ _ _ (F0 m 8 ls [.int (iI 1)])
    refine x_ifT_ne (tgt := 21) X (by decide) (by decide) (by decide) dX3_requireCase_8 ?_
    refine x_vret X w hr hlk ⟨by decide, by decide⟩ dX3_requireCase_21 ?_
    exact ⟨rfl, rfl, rfl⟩
  · exfalso; omega

set_option maxHeartbeats 4000000 in
set_option maxRecDepth 100000 in
theorem c_X3_size0 (l : Launch) (D : va_G) (cs : ClassId × ClassId × ClassId) (L : List Nat) (f0 : Nat → va_E) (x br ba pr sz lr : Nat) (σ : Sg) (pg : Int) (hC : CC cs L f0 x br ba pr sz lr σ) (hI : Inv σ) (hrg : (-2147483648 ≤ pg ∧ pg < 2147483648)) (hin9 : 0 ≤ pg ∧ pg < gK σ) : C0 l yX3_size wsX3_size ({ frames := 6, cells := 0, slots := 0, locals := 90 } : Room) D cs [.ref x, .int (iI pg)] L f0 (fun v L1 f1 => L = L1 ∧ f0 = f1 ∧ v = some (.int (iI (gZ σ pg)))) := by
  refine C0.of (cc := cX3_size) (maxL := 2) (ret := (some .int)) (by decide) rfl (Nat.le_of_ble_eq_true rfl) ?_
  intro p e s m below meth c X hr hlk hin A hA w ls hl
  have hl : lv_has ls 2 [(0, .ref x), (1, .int (iI pg))] := hl
  have hn := hI.n; have hk := hI.k; have ht := hI.t; have hsw := hI.s; have hz4 := hI.z4
  have hF : FC L f0 f0 x br ba pr sz lr := FC.rf _ _ _ _ _ _ _ _
  refine x_al_n X hl 0 rfl rfl dX3_size_0 ?_
  refine x_get X w hC.mx hC.fx fq_X3_size_19 rfl dX3_size_1 ?_
  refine x_il_n X hl 1 rfl rfl dX3_size_4 ?_
  refine x_callV (As := [.int (iI pg)]) (rest := []) (c1 := 0) (s1 := 0) X w hA (c_X2_has l D cs L f0 pr sz (gK σ) (gZ σ) pg hC.pp (by omega)) k_X3_size_X2_has (by decide) hC.pp.mp hC.pp.fp rfl rfl rfl hl rfl (Nat.le_of_ble_eq_true rfl) (by decide) rfl rfl dX3_size_5 (fun v L1 f1 H locs w hp => ?_)
  obtain ⟨rfl, rfl, hp⟩ := hp
  rcases hp with ⟨rfl, hq5⟩ | ⟨rfl, hq5⟩
  · show W p l e _ s m _ below meth c _ _ _ _ _ (F0 m 8 ls [.int (iI 1)])
    refine x_ifT_ne (tgt := 21) X (by decide) (by decide) (by decide) dX3_size_8 ?_
    refine x_al_n X hl 0 rfl rfl dX3_size_21 ?_
    refine x_get X w hC.mx hC.fx fq_X3_size_19 rfl dX3_size_22 ?_
    refine x_il_n X hl 1 rfl rfl dX3_size_25 ?_
    refine x_callV (As := [.int (iI pg)]) (rest := []) (c1 := 0) (s1 := 0) X w hA (c_X2_sizeOf l D cs L f0 pr sz (gK σ) (gZ σ) pg hC.pp (by omega)) k_X3_size_X2_sizeOf (by decide) hC.pp.mp hC.pp.fp rfl rfl rfl hl rfl (Nat.le_of_ble_eq_true rfl) (by decide) rfl rfl dX3_size_26 (fun v L1 f1 H locs w hp => ?_)
    obtain ⟨rfl, rfl, hp⟩ := hp
    rcases hp with ⟨rfl, hq26⟩ | ⟨rfl, hq26⟩
    · show W p l e _ s m _ below meth c _ _ _ _ _ (F0 m 29 ls [.int (iI ((gZ σ) pg))])
      refine x_iret X w hr hlk ⟨by decide, by decide⟩ dX3_size_29 ?_
      exact ⟨rfl, rfl, rfl⟩
    · exfalso; omega
  · exfalso; omega

set_option maxHeartbeats 4000000 in
set_option maxRecDepth 100000 in
theorem c_X3_at0 (l : Launch) (D : va_G) (cs : ClassId × ClassId × ClassId) (L : List Nat) (f0 : Nat → va_E) (x br ba pr sz lr : Nat) (σ : Sg) (pg pl : Int) (hC : CC cs L f0 x br ba pr sz lr σ) (hI : Inv σ) (hrg : (-2147483648 ≤ pg ∧ pg < 2147483648) ∧ (-2147483648 ≤ pl ∧ pl < 2147483648)) (hin9 : 0 ≤ pg ∧ pg < gK σ) (hin8 : 0 ≤ pl ∧ pl < gZ σ pg) : C0 l yX3_at wsX3_at ({ frames := 6, cells := 0, slots := 0, locals := 90 } : Room) D cs [.ref x, .int (iI pg), .int (iI pl)] L f0 (fun v L1 f1 => L = L1 ∧ f0 = f1 ∧ v = some (.int (iI (gR σ (sm (gZ σ) pg + pl) 0)))) := by
  refine C0.of (cc := cX3_at) (maxL := 3) (ret := (some .int)) (by decide) rfl (Nat.le_of_ble_eq_true rfl) ?_
  intro p e s m below meth c X hr hlk hin A hA w ls hl
  have hl : lv_has ls 3 [(0, .ref x), (1, .int (iI pg)), (2, .int (iI pl))] := hl
  have hn := hI.n; have hk := hI.k; have ht := hI.t; have hsw := hI.s; have hz4 := hI.z4
  have hF : FC L f0 f0 x br ba pr sz lr := FC.rf _ _ _ _ _ _ _ _
  refine x_al_n X hl 0 rfl rfl dX3_at_0 ?_
  refine x_get X w hC.mx hC.fx fq_X3_at_19 rfl dX3_at_1 ?_
  refine x_il_n X hl 1 rfl rfl dX3_at_4 ?_
  refine x_callV (As := [.int (iI pg)]) (rest := []) (c1 := 0) (s1 := 0) X w hA (c_X2_has l D cs L f0 pr sz (gK σ) (gZ σ) pg hC.pp (by omega)) k_X3_at_X2_has (by decide) hC.pp.mp hC.pp.fp rfl rfl rfl hl rfl (Nat.le_of_ble_eq_true rfl) (by decide) rfl rfl dX3_at_5 (fun v L1 f1 H locs w hp => ?_)
  obtain ⟨rfl, rfl, hp⟩ := hp
  rcases hp with ⟨rfl, hq5⟩ | ⟨rfl, hq5⟩
  · show W p l e _ s m _ below meth c _ _ _ _ _ (F0 m 8 ls [.int (iI 1)])
    have hzz := hz4 pg (by omega) (by omega)
    refine x_ifF_eq (tgt := 29) X (by decide) (by decide) (by decide) dX3_at_8 ?_
    refine x_il_n X hl 2 rfl rfl dX3_at_11 ?_
    refine x_iconst X dX3_at_12 ?_
    refine x_al_n X hl 0 rfl rfl dX3_at_13 ?_
    refine x_get X w hC.mx hC.fx fq_X3_at_19 rfl dX3_at_14 ?_
    refine x_il_n X hl 1 rfl rfl dX3_at_17 ?_
    refine x_callV (As := [.int (iI pg)]) (rest := [.int (iI 0), .int (iI pl)]) (c1 := 0) (s1 := 0) X w hA (c_X2_sizeOf l D cs L f0 pr sz (gK σ) (gZ σ) pg hC.pp (by omega)) k_X3_at_X2_sizeOf (by decide) hC.pp.mp hC.pp.fp rfl rfl rfl hl rfl (Nat.le_of_ble_eq_true rfl) (by decide) rfl rfl dX3_at_18 (fun v L1 f1 H locs w hp => ?_)
    obtain ⟨rfl, rfl, hp⟩ := hp
    rcases hp with ⟨rfl, hq18⟩ | ⟨rfl, hq18⟩
    · show W p l e _ s m _ below meth c _ _ _ _ _ (F0 m 21 ls [.int (iI ((gZ σ) pg)), .int (iI 0), .int (iI pl)])
      refine x_iconst X dX3_at_21 ?_
      refine x_isub X dX3_at_22 ?_
      refine x_callS (As := [.int (iI pl), .int (iI 0), .int (iI (((gZ σ) pg) - 1))]) (rest := []) (c1 := 0) (s1 := 0) X w hA (c_X3_isIn l D cs L f0 pl 0 (((gZ σ) pg) - 1) (by omega)) k_X3_at_X3_isIn (by decide) rfl hl rfl (Nat.le_of_ble_eq_true rfl) (by decide) rfl rfl dX3_at_23 (fun v L1 f1 H locs w hp => ?_)
      obtain ⟨rfl, rfl, hp⟩ := hp
      rcases hp with ⟨rfl, hq23⟩ | ⟨rfl, hq23⟩
      · show W p l e _ s m _ below meth c _ _ _ _ _ (F0 m 26 ls [.int (iI 1)])
        refine x_ifT_ne (tgt := 39) X (by decide) (by decide) (by decide) dX3_at_26 ?_
        refine x_al_n X hl 0 rfl rfl dX3_at_39 ?_
        refine x_get X w hC.mx hC.fx fq_X3_at_10 rfl dX3_at_40 ?_
        refine x_al_n X hl 0 rfl rfl dX3_at_43 ?_
        refine x_get X w hC.mx hC.fx fq_X3_at_19 rfl dX3_at_44 ?_
        refine x_il_n X hl 1 rfl rfl dX3_at_47 ?_
        refine x_callV (As := [.int (iI pg)]) (rest := [.ref br]) (c1 := 0) (s1 := 0) X w hA (c_X2_beginOf l D cs L f0 pr sz (gK σ) (gZ σ) pg hC.pp (by omega)) k_X3_at_X2_beginOf (by decide) hC.pp.mp hC.pp.fp rfl rfl rfl hl rfl (Nat.le_of_ble_eq_true rfl) (by decide) rfl rfl dX3_at_48 (fun v L1 f1 H locs w hp => ?_)
        obtain ⟨rfl, rfl, hp⟩ := hp
        subst hp
        show W p l e _ s m _ below meth c _ _ _ _ _ (F0 m 51 ls [.int (iI (sm (gZ σ) pg)), .ref br])
        have h1s := sm_b hz4 (p := pg) (by omega)
        have h2s := sm_s (gZ σ) (p := pg) (by omega)
        have h3s := sm_mo hI.z0 (a := pg + 1) (b := gK σ) (by omega)
        rw [hI.sm] at h3s
        refine x_il_n X hl 2 rfl rfl dX3_at_51 ?_
        refine x_iadd X dX3_at_52 ?_
        obtain ⟨r53, hRB, hO⟩ := hC.rb
        refine x_callV (As := [.int (iI ((sm (gZ σ) pg) + pl))]) (rest := []) (c1 := 0) (s1 := 0) X w hA (c_X1_numberAt l D cs L f0 br ba (gN σ) r53 (gR σ) ((sm (gZ σ) pg) + pl) hRB hO (by omega)) k_X3_at_X1_numberAt (by decide) hC.mb hC.fb rfl rfl rfl hl rfl (Nat.le_of_ble_eq_true rfl) (by decide) rfl rfl dX3_at_53 (fun v L1 f1 H locs w hp => ?_)
        obtain ⟨rfl, rfl, hp⟩ := hp
        rcases hp with ⟨rfl, hq53⟩ | ⟨rfl, hq53⟩
        · show W p l e _ s m _ below meth c _ _ _ _ _ (F0 m 56 ls [.int (iI ((gR σ) ((sm (gZ σ) pg) + pl) 0))])
          refine x_iret X w hr hlk ⟨by decide, by decide⟩ dX3_at_56 ?_
          exact ⟨rfl, rfl, rfl⟩
        · exfalso; omega
      · exfalso; omega
    · exfalso; omega
  · exfalso; omega

set_option maxHeartbeats 4000000 in
set_option maxRecDepth 100000 in
theorem c_X3_pageOf0 (l : Launch) (D : va_G) (cs : ClassId × ClassId × ClassId) (L : List Nat) (f0 : Nat → va_E) (x br ba pr sz lr : Nat) (σ : Sg) (nu : Int) (hC : CC cs L f0 x br ba pr sz lr σ) (hI : Inv σ) (hrg : (-2147483648 ≤ nu ∧ nu < 2147483648)) (hin9 : 0 ≤ nu ∧ nu ≤ 999) : C0 l yX3_pageOf wsX3_pageOf ({ frames := 7, cells := 0, slots := 0, locals := 110 } : Room) D cs [.ref x, .int (iI nu)] L f0 (fun v L1 f1 => L = L1 ∧ f0 = f1 ∧ v = some (.int (iI (pw (gZ σ) (gK σ) (qF nu σ))))) := by
  refine C0.of (cc := cX3_pageOf) (maxL := 2) (ret := (some .int)) (by decide) rfl (Nat.le_of_ble_eq_true rfl) ?_
  intro p e s m below meth c X hr hlk hin A hA w ls hl
  have hl : lv_has ls 2 [(0, .ref x), (1, .int (iI nu))] := hl
  have hn := hI.n; have hk := hI.k; have ht := hI.t; have hsw := hI.s; have hz4 := hI.z4
  have hF : FC L f0 f0 x br ba pr sz lr := FC.rf _ _ _ _ _ _ _ _
  refine x_il_n X hl 1 rfl rfl dX3_pageOf_0 ?_
  refine x_callS (As := [.int (iI nu)]) (rest := []) (c1 := 0) (s1 := 0) X w hA (c_X3_requireCase0 l D cs L f0 nu (by omega) (by omega)) k_X3_pageOf_X3_requireCase (by decide) rfl hl rfl (Nat.le_of_ble_eq_true rfl) (by decide) rfl rfl dX3_pageOf_1 (fun v L1 f1 H locs w hp => ?_)
  obtain ⟨rfl, rfl, rfl⟩ := hp
  show W p l e _ s m _ below meth c _ _ _ _ _ (F0 m 4 ls [])
  refine x_al_n X hl 0 rfl rfl dX3_pageOf_4 ?_
  refine x_get X w hC.mx hC.fx fq_X3_pageOf_19 rfl dX3_pageOf_5 ?_
  refine x_al_n X hl 0 rfl rfl dX3_pageOf_8 ?_
  refine x_get X w hC.mx hC.fx fq_X3_pageOf_10 rfl dX3_pageOf_9 ?_
  refine x_il_n X hl 1 rfl rfl dX3_pageOf_12 ?_
  obtain ⟨r13, hRB, hO⟩ := hC.rb
  refine x_callV (As := [.int (iI nu)]) (rest := [.ref pr]) (c1 := 0) (s1 := 0) X w hA (c_X1_placeOf l D cs L f0 br ba (gN σ) r13 (gR σ) nu hRB hO (by omega) hI.r0 hI.so) k_X3_pageOf_X1_placeOf (by decide) hC.mb hC.fb rfl rfl rfl hl rfl (Nat.le_of_ble_eq_true rfl) (by decide) rfl rfl dX3_pageOf_13 (fun v L1 f1 H locs w hp => ?_)
  obtain ⟨rfl, rfl, hp⟩ := hp
  subst hp
  show W p l e _ s m _ below meth c _ _ _ _ _ (F0 m 16 ls [.int (iI (fd (gR σ) (gN σ) nu)), .ref pr])
  have hfr := fd_rg (R := gR σ) (n := gN σ) (v := nu) (by omega)
  refine x_callV (As := [.int (iI (fd (gR σ) (gN σ) nu))]) (rest := []) (c1 := 0) (s1 := 0) X w hA (c_X2_pageWith l D cs L f0 pr sz (gK σ) (gZ σ) (fd (gR σ) (gN σ) nu) hC.pp (by omega) hz4) k_X3_pageOf_X2_pageWith (by decide) hC.pp.mp hC.pp.fp rfl rfl rfl hl rfl (Nat.le_of_ble_eq_true rfl) (by decide) rfl rfl dX3_pageOf_16 (fun v L1 f1 H locs w hp => ?_)
  obtain ⟨rfl, rfl, hp⟩ := hp
  subst hp
  show W p l e _ s m _ below meth c _ _ _ _ _ (F0 m 19 ls [.int (iI (pw (gZ σ) (gK σ) (fd (gR σ) (gN σ) nu)))])
  refine x_iret X w hr hlk ⟨by decide, by decide⟩ dX3_pageOf_19 ?_
  exact ⟨rfl, rfl, rfl⟩

set_option maxHeartbeats 4000000 in
set_option maxRecDepth 100000 in
theorem c_X3_sum0 (l : Launch) (D : va_G) (cs : ClassId × ClassId × ClassId) (L : List Nat) (f0 : Nat → va_E) (x br ba pr sz lr : Nat) (σ : Sg) (nu : Int) (hC : CC cs L f0 x br ba pr sz lr σ) (hI : Inv σ) (hrg : (-2147483648 ≤ nu ∧ nu < 2147483648)) (hin9 : 0 ≤ nu ∧ nu ≤ 999) (hin8 : qF nu σ ≠ -1) : C0 l yX3_sum wsX3_sum ({ frames := 7, cells := 0, slots := 0, locals := 120 } : Room) D cs [.ref x, .int (iI nu)] L f0 (fun v L1 f1 => L = L1 ∧ f0 = f1 ∧ v = some (.int (iI (gR σ (qF nu σ) 1)))) := by
  refine C0.of (cc := cX3_sum) (maxL := 3) (ret := (some .int)) (by decide) rfl (Nat.le_of_ble_eq_true rfl) ?_
  intro p e s m below meth c X hr hlk hin A hA w ls hl
  have hl : lv_has ls 3 [(0, .ref x), (1, .int (iI nu))] := hl
  have hn := hI.n; have hk := hI.k; have ht := hI.t; have hsw := hI.s; have hz4 := hI.z4
  have hF : FC L f0 f0 x br ba pr sz lr := FC.rf _ _ _ _ _ _ _ _
  refine x_il_n X hl 1 rfl rfl dX3_sum_0 ?_
  refine x_callS (As := [.int (iI nu)]) (rest := []) (c1 := 0) (s1 := 0) X w hA (c_X3_requireCase0 l D cs L f0 nu (by omega) (by omega)) k_X3_sum_X3_requireCase (by decide) rfl hl rfl (Nat.le_of_ble_eq_true rfl) (by decide) rfl rfl dX3_sum_1 (fun v L1 f1 H locs w hp => ?_)
  obtain ⟨rfl, rfl, rfl⟩ := hp
  show W p l e _ s m _ below meth c _ _ _ _ _ (F0 m 4 ls [])
  refine x_al_n X hl 0 rfl rfl dX3_sum_4 ?_
  refine x_get X w hC.mx hC.fx fq_X3_sum_10 rfl dX3_sum_5 ?_
  refine x_il_n X hl 1 rfl rfl dX3_sum_8 ?_
  obtain ⟨r9, hRB, hO⟩ := hC.rb
  refine x_callV (As := [.int (iI nu)]) (rest := []) (c1 := 0) (s1 := 0) X w hA (c_X1_find l D cs L f0 br ba (gN σ) r9 (gR σ) nu hRB hO (by omega) hI.r0 hI.so) k_X3_sum_X1_find (by decide) hC.mb hC.fb rfl rfl rfl hl rfl (Nat.le_of_ble_eq_true rfl) (by decide) rfl rfl dX3_sum_9 (fun v L1 f1 H locs w hp => ?_)
  obtain ⟨rfl, rfl, hp⟩ := hp
  rcases hp with ⟨a9, rfl, ha9, hm9, hf9, hq9⟩ | ⟨rfl, hq9⟩
  · show W p l e _ s m _ below meth c _ _ _ _ _ (F0 m 12 ls [.ref a9])
    refine x_as_n (lv' := [(2, .ref a9), (0, .ref x), (1, .int (iI nu))]) X hl rfl (by decide) rfl dX3_sum_12 (fun ls hl => ?_)
    refine x_al_n X hl 0 rfl rfl dX3_sum_13 ?_
    refine x_ifnonnull_r (tgt := 21) X (by decide) dX3_sum_14 ?_
    refine x_al_n X hl 0 rfl rfl dX3_sum_21 ?_
    refine x_get X w hm9 hf9 fq_X3_sum_97 rfl dX3_sum_22 ?_
    refine x_iret X w hr hlk ⟨by decide, by decide⟩ dX3_sum_25 ?_
    exact ⟨rfl, rfl, rfl⟩
  · show W p l e _ s m _ below meth c _ _ _ _ _ (F0 m 12 ls [.null])
    refine x_asN_n (lv' := [(2, .null), (0, .ref x), (1, .int (iI nu))]) X hl rfl (by decide) rfl dX3_sum_12 (fun ls hl => ?_)
    refine x_alN_n X hl 0 rfl rfl dX3_sum_13 ?_
    refine x_ifnonnull_n X dX3_sum_14 ?_
    refine x_iconst X dX3_sum_17 ?_
    refine x_goto (tgt := 25) X (by decide) dX3_sum_18 ?_
    refine x_iret X w hr hlk ⟨by decide, by decide⟩ dX3_sum_25 ?_
    exact absurd hq9 hin8

set_option maxHeartbeats 4000000 in
set_option maxRecDepth 100000 in
theorem c_X3_heldBy0 (l : Launch) (D : va_G) (cs : ClassId × ClassId × ClassId) (L : List Nat) (f0 : Nat → va_E) (x br ba pr sz lr : Nat) (σ : Sg) (sy : Int) (hC : CC cs L f0 x br ba pr sz lr σ) (hI : Inv σ) (hrg : (-2147483648 ≤ sy ∧ sy < 2147483648)) (hin9 : 0 ≤ sy ∧ sy ≤ 9) : C0 l yX3_heldBy wsX3_heldBy ({ frames := 6, cells := 0, slots := 0, locals := 90 } : Room) D cs [.ref x, .int (iI sy)] L f0 (fun v L1 f1 => L = L1 ∧ f0 = f1 ∧ v = some (.int (iI (hs (gR σ) sy (gN σ))))) := by
  refine C0.of (cc := cX3_heldBy) (maxL := 2) (ret := (some .int)) (by decide) rfl (Nat.le_of_ble_eq_true rfl) ?_
  intro p e s m below meth c X hr hlk hin A hA w ls hl
  have hl : lv_has ls 2 [(0, .ref x), (1, .int (iI sy))] := hl
  have hn := hI.n; have hk := hI.k; have ht := hI.t; have hsw := hI.s; have hz4 := hI.z4
  have hF : FC L f0 f0 x br ba pr sz lr := FC.rf _ _ _ _ _ _ _ _
  refine x_il_n X hl 1 rfl rfl dX3_heldBy_0 ?_
  refine x_iconst X dX3_heldBy_1 ?_
  refine x_bipush X (by decide) dX3_heldBy_2 ?_
  refine x_callS (As := [.int (iI sy), .int (iI 0), .int (iI 9)]) (rest := []) (c1 := 0) (s1 := 0) X w hA (c_X3_isIn l D cs L f0 sy 0 9 (by omega)) k_X3_heldBy_X3_isIn (by decide) rfl hl rfl (Nat.le_of_ble_eq_true rfl) (by decide) rfl rfl dX3_heldBy_4 (fun v L1 f1 H locs w hp => ?_)
  obtain ⟨rfl, rfl, hp⟩ := hp
  rcases hp with ⟨rfl, hq4⟩ | ⟨rfl, hq4⟩
  · show W p l e _ s m _ below meth c _ _ _ _ _ (F0 m 7 ls [.int (iI 1)])
    refine x_ifT_ne (tgt := 20) X (by decide) (by decide) (by decide) dX3_heldBy_7 ?_
    refine x_al_n X hl 0 rfl rfl dX3_heldBy_20 ?_
    refine x_get X w hC.mx hC.fx fq_X3_heldBy_10 rfl dX3_heldBy_21 ?_
    refine x_il_n X hl 1 rfl rfl dX3_heldBy_24 ?_
    obtain ⟨r25, hRB, hO⟩ := hC.rb
    refine x_callV (As := [.int (iI sy)]) (rest := []) (c1 := 0) (s1 := 0) X w hA (c_X1_sumOfSurety l D cs L f0 br ba (gN σ) r25 (gR σ) sy hRB hO (by omega) hI.r2) k_X3_heldBy_X1_sumOfSurety (by decide) hC.mb hC.fb rfl rfl rfl hl rfl (Nat.le_of_ble_eq_true rfl) (by decide) rfl rfl dX3_heldBy_25 (fun v L1 f1 H locs w hp => ?_)
    obtain ⟨rfl, rfl, hp⟩ := hp
    subst hp
    show W p l e _ s m _ below meth c _ _ _ _ _ (F0 m 28 ls [.int (iI (hs (gR σ) sy (gN σ)))])
    refine x_iret X w hr hlk ⟨by decide, by decide⟩ dX3_heldBy_28 ?_
    exact ⟨rfl, rfl, rfl⟩
  · exfalso; omega

set_option maxHeartbeats 4000000 in
set_option maxRecDepth 100000 in
theorem c_X3_walk0 (l : Launch) (D : va_G) (cs : ClassId × ClassId × ClassId) (L : List Nat) (f0 : Nat → va_E) (x br ba pr sz lr : Nat) (σ : Sg) (rd : Int) (hC : CC cs L f0 x br ba pr sz lr σ) (hI : Inv σ) (hrg : (-2147483648 ≤ rd ∧ rd < 2147483648)) (hin9 : 0 ≤ rd ∧ rd ≤ 3) : C0 l yX3_walk wsX3_walk ({ frames := 6, cells := 0, slots := 0, locals := 90 } : Room) D cs [.ref x, .int (iI rd)] L f0 (fun v L1 f1 => L = L1 ∧ v = some (.int (iI (wkV rd σ))) ∧ CC cs L1 f1 x br ba pr sz lr (oSetW (uI (gW σ) rd (wkV rd σ)) σ)) := by
  refine C0.of (cc := cX3_walk) (maxL := 2) (ret := (some .int)) (by decide) rfl (Nat.le_of_ble_eq_true rfl) ?_
  intro p e s m below meth c X hr hlk hin A hA w ls hl
  have hl : lv_has ls 2 [(0, .ref x), (1, .int (iI rd))] := hl
  have hn := hI.n; have hk := hI.k; have ht := hI.t; have hsw := hI.s; have hz4 := hI.z4
  have hF : FC L f0 f0 x br ba pr sz lr := FC.rf _ _ _ _ _ _ _ _
  refine x_il_n X hl 1 rfl rfl dX3_walk_0 ?_
  refine x_iconst X dX3_walk_1 ?_
  refine x_iconst X dX3_walk_2 ?_
  refine x_callS (As := [.int (iI rd), .int (iI 0), .int (iI 3)]) (rest := []) (c1 := 0) (s1 := 0) X w hA (c_X3_isIn l D cs L f0 rd 0 3 (by omega)) k_X3_walk_X3_isIn (by decide) rfl hl rfl (Nat.le_of_ble_eq_true rfl) (by decide) rfl rfl dX3_walk_3 (fun v L1 f1 H locs w hp => ?_)
  obtain ⟨rfl, rfl, hp⟩ := hp
  rcases hp with ⟨rfl, hq3⟩ | ⟨rfl, hq3⟩
  · show W p l e _ s m _ below meth c _ _ _ _ _ (F0 m 6 ls [.int (iI 1)])
    refine x_ifT_ne (tgt := 19) X (by decide) (by decide) (by decide) dX3_walk_6 ?_
    obtain ⟨ww, hfl, hwl⟩ := hC.fl
    have hww := hI.w rd (by omega) (by omega)
    refine x_al_n X hl 0 rfl rfl dX3_walk_19 ?_
    refine x_get X w hC.mx hC.fx fq_X3_walk_23 rfl dX3_walk_20 ?_
    refine x_il_n X hl 1 rfl rfl dX3_walk_23 ?_
    refine x_al_n X hl 0 rfl rfl dX3_walk_24 ?_
    refine x_get X w hC.mx hC.fx fq_X3_walk_10 rfl dX3_walk_25 ?_
    refine x_al_n X hl 0 rfl rfl dX3_walk_28 ?_
    refine x_get X w hC.mx hC.fx fq_X3_walk_10 rfl dX3_walk_29 ?_
    refine x_al_n X hl 0 rfl rfl dX3_walk_32 ?_
    refine x_get X w hC.mx hC.fx fq_X3_walk_23 rfl dX3_walk_33 ?_
    refine x_il_n X hl 1 rfl rfl dX3_walk_36 ?_
    refine x_ialdv (v := gW σ rd) X w hC.ml hfl (by omega) (hwl rd (by omega) (by omega)) dX3_walk_37 ?_
    obtain ⟨r38, hRB, hO⟩ := hC.rb
    refine x_callV (As := [.int (iI (gW σ rd))]) (rest := [.ref br, .int (iI rd), .ref lr]) (c1 := 0) (s1 := 0) X w hA (c_X1_countUpTo l D cs L f0 br ba (gN σ) r38 (gR σ) (gW σ rd) hRB hO (by omega) hI.r0) k_X3_walk_X1_countUpTo (by decide) hC.mb hC.fb rfl rfl rfl hl rfl (Nat.le_of_ble_eq_true rfl) (by decide) rfl rfl dX3_walk_38 (fun v L1 f1 H locs w hp => ?_)
    obtain ⟨rfl, rfl, hp⟩ := hp
    subst hp
    show W p l e _ s m _ below meth c _ _ _ _ _ (F0 m 41 ls [.int (iI (cu (gR σ) (gN σ) (gW σ rd))), .ref br, .int (iI rd), .ref lr])
    have hcu := cu_is (gR σ) (n := gN σ) (gW σ rd) hn.1
    have hcu1 := hcu.1
    have hcu2 := hcu.2.1
    obtain ⟨r41, hRB, hO⟩ := hC.rb
    refine x_callV (As := [.int (iI (cu (gR σ) (gN σ) (gW σ rd)))]) (rest := [.int (iI rd), .ref lr]) (c1 := 0) (s1 := 0) X w hA (c_X1_numberAt l D cs L f0 br ba (gN σ) r41 (gR σ) (cu (gR σ) (gN σ) (gW σ rd)) hRB hO (by omega)) k_X3_walk_X1_numberAt (by decide) hC.mb hC.fb rfl rfl rfl hl rfl (Nat.le_of_ble_eq_true rfl) (by decide) rfl rfl dX3_walk_41 (fun v L1 f1 H locs w hp => ?_)
    obtain ⟨rfl, rfl, hp⟩ := hp
    rcases hp with ⟨rfl, hq41⟩ | ⟨rfl, hq41⟩
    · show W p l e _ s m _ below meth c _ _ _ _ _ (F0 m 44 ls [.int (iI ((gR σ) (cu (gR σ) (gN σ) (gW σ rd)) 0)), .int (iI rd), .ref lr])
      refine x_iast X w hC.ml hfl (by omega) dX3_walk_44 (fun H locs w => ?_)
      obtain ⟨f45, w, hC, hF⟩ : ∃ f9, XW D A s.heap L f9 H locs ∧ CX cs L f9 x br ba pr sz lr (gN σ) (gR σ) (gK σ) (gZ σ) (gT σ) (gP σ) (gB σ) (gS σ) (uI (gW σ) rd ((gR σ) (cu (gR σ) (gN σ) (gW σ rd)) 0)) ∧ FC L f0 f9 x br ba pr sz lr := ⟨_, w, hC.rd hfl hwl, hF.l⟩
      obtain ⟨ww, hfl, hwl⟩ := hC.fl
      refine x_al_n X hl 0 rfl rfl dX3_walk_45 ?_
      refine x_get X w hC.mx hC.fx fq_X3_walk_23 rfl dX3_walk_46 ?_
      refine x_il_n X hl 1 rfl rfl dX3_walk_49 ?_
      refine x_ialdv (v := (gR σ) (cu (gR σ) (gN σ) (gW σ rd)) 0) X w hC.ml hfl (by omega) ((hwl rd (by omega) (by omega)).trans (uI_s _ _ _)) dX3_walk_50 ?_
      refine x_iret X w hr hlk ⟨by decide, by decide⟩ dX3_walk_51 ?_
      have he9 : wkV rd σ = (gR σ) (cu (gR σ) (gN σ) (gW σ rd)) 0 := if_pos (by omega)
      rw [he9]
      exact ⟨rfl, rfl, hC⟩
    · show W p l e _ s m _ below meth c _ _ _ _ _ (F0 m 44 ls [.int (iI (-1)), .int (iI rd), .ref lr])
      refine x_iast X w hC.ml hfl (by omega) dX3_walk_44 (fun H locs w => ?_)
      obtain ⟨f45, w, hC, hF⟩ : ∃ f9, XW D A s.heap L f9 H locs ∧ CX cs L f9 x br ba pr sz lr (gN σ) (gR σ) (gK σ) (gZ σ) (gT σ) (gP σ) (gB σ) (gS σ) (uI (gW σ) rd (-1)) ∧ FC L f0 f9 x br ba pr sz lr := ⟨_, w, hC.rd hfl hwl, hF.l⟩
      obtain ⟨ww, hfl, hwl⟩ := hC.fl
      refine x_al_n X hl 0 rfl rfl dX3_walk_45 ?_
      refine x_get X w hC.mx hC.fx fq_X3_walk_23 rfl dX3_walk_46 ?_
      refine x_il_n X hl 1 rfl rfl dX3_walk_49 ?_
      refine x_ialdv (v := -1) X w hC.ml hfl (by omega) ((hwl rd (by omega) (by omega)).trans (uI_s _ _ _)) dX3_walk_50 ?_
      refine x_iret X w hr hlk ⟨by decide, by decide⟩ dX3_walk_51 ?_
      have he9 : wkV rd σ = -1 := if_neg (by omega)
      rw [he9]
      exact ⟨rfl, rfl, hC⟩
  · exfalso; omega

set_option maxHeartbeats 4000000 in
set_option maxRecDepth 100000 in
theorem c_X3_step0 (l : Launch) (D : va_G) (cs : ClassId × ClassId × ClassId) (L : List Nat) (f0 : Nat → va_E) (x br ba pr sz lr : Nat) (σ : Sg) (d : Int) (hC : CC cs L f0 x br ba pr sz lr σ) (hI : Inv σ) (hrg : (-2147483648 ≤ d ∧ d < 2147483648)) (hin9 : 1 ≤ d ∧ d ≤ 100) (hin8 : gS σ ≠ -1) : C0 l yX3_step wsX3_step ({ frames := 6, cells := 0, slots := 0, locals := 97 } : Room) D cs [.ref x, .int (iI d)] L f0 (fun v L1 f1 => L = L1 ∧ v = some (.int (iI (oSteps d.toNat σ).1)) ∧ CC cs L1 f1 x br ba pr sz lr (oSteps d.toNat σ).2) := by
  refine C0.of (cc := cX3_step) (maxL := 4) (ret := (some .int)) (by decide) rfl (Nat.le_of_ble_eq_true rfl) ?_
  intro p e s m below meth c X hr hlk hin A hA w ls hl
  have hl : lv_has ls 4 [(0, .ref x), (1, .int (iI d))] := hl
  have hn := hI.n; have hk := hI.k; have ht := hI.t; have hsw := hI.s; have hz4 := hI.z4
  have hF : FC L f0 f0 x br ba pr sz lr := FC.rf _ _ _ _ _ _ _ _
  refine x_il_n X hl 1 rfl rfl dX3_step_0 ?_
  refine x_iconst X dX3_step_1 ?_
  refine x_bipush X (by decide) dX3_step_2 ?_
  refine x_callS (As := [.int (iI d), .int (iI 1), .int (iI 100)]) (rest := []) (c1 := 0) (s1 := 0) X w hA (c_X3_isIn l D cs L f0 d 1 100 (by omega)) k_X3_step_X3_isIn (by decide) rfl hl rfl (Nat.le_of_ble_eq_true rfl) (by decide) rfl rfl dX3_step_4 (fun v L1 f1 H locs w hp => ?_)
  obtain ⟨rfl, rfl, hp⟩ := hp
  rcases hp with ⟨rfl, hq4⟩ | ⟨rfl, hq4⟩
  · show W p l e _ s m _ below meth c _ _ _ _ _ (F0 m 7 ls [.int (iI 1)])
    refine x_ifT_ne (tgt := 20) X (by decide) (by decide) (by decide) dX3_step_7 ?_
    refine x_al_n X hl 0 rfl rfl dX3_step_20 ?_
    refine x_get X w hC.mx hC.fx fq_X3_step_27 rfl dX3_step_21 ?_
    refine x_iconst X dX3_step_24 ?_
    refine x_icmpT_ne (tgt := 38) X (by omega) (by omega) (by decide) dX3_step_25 ?_
    refine x_iconst X dX3_step_38 ?_
    refine x_is_n (lv' := [(2, .int (iI 0)), (0, .ref x), (1, .int (iI d))]) X hl rfl (by decide) rfl dX3_step_39 (fun ls hl => ?_)
    refine x_iconst X dX3_step_40 ?_
    refine x_is_n (lv' := [(3, .int (iI 0)), (2, .int (iI 0)), (0, .ref x), (1, .int (iI d))]) X hl rfl (by decide) rfl dX3_step_41 (fun ls hl => ?_)
    have loop42 : ∀ (N9 : Nat) (σ2 : Sg) (f1 : Nat → va_E) (i : Int) (tk : Int) (mm : Nat) (H : Heap) (locs : List Loc) (ls : Array Slot), mm < N9 → (Inv σ2) → (CC cs L f1 x br ba pr sz lr σ2) → (FC L f0 f1 x br ba pr sz lr) → (0 ≤ i ∧ i + (mm : Int) = d) → (tk + (oSteps mm σ2).1 = (oSteps d.toNat σ).1) → ((oSteps mm σ2).2 = (oSteps d.toNat σ).2) → XW D A s.heap L f1 H locs → lv_has ls 4 [(0, .ref x), (1, .int (iI d)), (2, .int (iI tk)), (3, .int (iI i))] → W p l e ({ frames := 6, cells := 0, slots := 0, locals := 97 } : Room) s m ([.ref x, .int (iI d)] : List Value).toArray below meth c H locs 0 0 (MQ below (CQ D cs A (fun v L1 f1 => L = L1 ∧ v = some (.int (iI (oSteps d.toNat σ).1)) ∧ CC cs L1 f1 x br ba pr sz lr (oSteps d.toNat σ).2)) ([.ref x, .int (iI d)] : List Value).toArray s 0 0 A) (F0 m 42 ls []) := by
      intro N9
      induction N9 with
      | zero => intro σ2 f1 i tk mm H locs ls h9; exact absurd h9 (Nat.not_lt_zero _)
      | succ N9 ih42 =>
        intro σ2 f1 i tk mm H locs ls h9 hI2 hC hF hi hQ hQ2 w hl
        have hn := hI2.n; have hk := hI2.k; have ht := hI2.t; have hsw := hI2.s; have hz4 := hI2.z4
        refine x_il_n X hl 3 rfl rfl dX3_step_42 ?_
        refine x_il_n X hl 1 rfl rfl dX3_step_43 ?_
        refine x_icmp_ge (tgt := 68) X (by omega) (by decide) dX3_step_44 (fun hb44 => ?_) (fun hb44 => ?_)
        · refine x_il_n X hl 2 rfl rfl dX3_step_68 ?_
          refine x_iret X w hr hlk ⟨by decide, by decide⟩ dX3_step_69 ?_
          have he9 : mm = 0 := by omega
          subst he9
          have hQ : tk + 0 = (oSteps d.toNat σ).1 := hQ
          rw [Int.add_zero] at hQ
          have hQ2 : σ2 = (oSteps d.toNat σ).2 := hQ2
          rw [← hQ, ← hQ2]
          exact ⟨rfl, rfl, hC⟩
        · refine x_al_n X hl 0 rfl rfl dX3_step_47 ?_
          refine x_get X w hC.mx hC.fx fq_X3_step_27 rfl dX3_step_48 ?_
          refine x_iconst X dX3_step_51 ?_
          refine x_icmp_eq (tgt := 68) X (by omega) (by decide) dX3_step_52 (fun hb52 => ?_) (fun hb52 => ?_)
          · refine x_il_n X hl 2 rfl rfl dX3_step_68 ?_
            refine x_iret X w hr hlk ⟨by decide, by decide⟩ dX3_step_69 ?_
            rw [oSteps_0 hb52] at hQ hQ2
            have hQ : tk + 0 = (oSteps d.toNat σ).1 := hQ
            rw [Int.add_zero] at hQ
            have hQ2 : σ2 = (oSteps d.toNat σ).2 := hQ2
            rw [← hQ, ← hQ2]
            exact ⟨rfl, rfl, hC⟩
          · obtain ⟨m1, rfl⟩ : ∃ m1 : Nat, mm = m1 + 1 := ⟨mm - 1, by omega⟩
            rw [oSteps_n hb52] at hQ hQ2
            refine x_il_n X hl 2 rfl rfl dX3_step_55 ?_
            refine x_al_n X hl 0 rfl rfl dX3_step_56 ?_
            refine x_callV (As := []) (rest := [.int (iI tk)]) (c1 := 0) (s1 := 0) X w hA (c_X3_sweepOn l D cs L f1 x br ba pr sz lr σ2 hC hI2 (by omega)) k_X3_step_X3_sweepOn (by decide) hC.mx hC.fx rfl rfl rfl hl rfl (Nat.le_of_ble_eq_true rfl) (by decide) rfl rfl dX3_step_57 (fun v L1 f1 H locs w hp => ?_)
            obtain ⟨rfl, rfl, hFT, hC⟩ := hp
            have hF := hF.t hFT
            have hI57 := Inv.sw hI2 (by omega)
            show W p l e _ s m _ below meth c _ _ _ _ _ (F0 m 60 ls [.int (iI ((oSw σ2).1)), .int (iI tk)])
            refine x_iadd X dX3_step_60 ?_
            refine x_is_n (lv' := [(2, .int (iI (tk + ((oSw σ2).1)))), (0, .ref x), (1, .int (iI d)), (3, .int (iI i))]) X hl rfl (by decide) rfl dX3_step_61 (fun ls hl => ?_)
            refine x_iinc (lv' := [(3, .int (iI (i + 1))), (2, .int (iI (tk + ((oSw σ2).1)))), (0, .ref x), (1, .int (iI d))]) X hl 3 rfl (by decide) rfl dX3_step_62 (fun ls hl => ?_)
            refine x_goto (tgt := 42) X (by decide) dX3_step_65 ?_
            refine ih42 _ f1 (i + 1) (tk + (oSw σ2).1) m1 _ _ _ (by omega) hI57 hC hF (by omega) (by rw [← hQ]; show _ = tk + ((oSw σ2).1 + (oSteps m1 (oSw σ2).2).1); omega) hQ2 w (lv_sub hl [2, 3, 1, 0] rfl)
    refine loop42 _ σ f0 0 0 (d.toNat) _ _ _ (Nat.lt_succ_self _) hI hC hF (by omega) (Int.zero_add _) rfl w (lv_sub hl [2, 3, 1, 0] rfl)
  · exfalso; omega
