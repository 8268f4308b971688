/-! the law: what it asks of a register, of two -/
theorem k_L_areAlike_X3_records : XV wsL_areAlike RL 90 RX3 yX3_records cX3_records 1 (some .int) wsX3_records 0 := ⟨gL_areAlike_X3_records, ⟨_, rfl⟩, rfl, by decide, by decide, by decide +kernel⟩
theorem k_L_areAlike_X3_pages : XV wsL_areAlike RL 46 RX3 yX3_pages cX3_pages 1 (some .int) wsX3_pages 0 := ⟨gL_areAlike_X3_pages, ⟨_, rfl⟩, rfl, by decide, by decide, by decide +kernel⟩
theorem k_L_areAlike_X3_kept : XV wsL_areAlike RL 93 RX3 yX3_kept cX3_kept 1 (some .int) wsX3_kept 0 := ⟨gL_areAlike_X3_kept, ⟨_, rfl⟩, rfl, by decide, by decide, by decide +kernel⟩
theorem k_L_areAlike_X3_paidBack : XV wsL_areAlike RL 96 RX3 yX3_paidBack cX3_paidBack 1 (some .int) wsX3_paidBack 0 := ⟨gL_areAlike_X3_paidBack, ⟨_, rfl⟩, rfl, by decide, by decide, by decide +kernel⟩
theorem k_L_areAlike_X3_today : XV wsL_areAlike RL 72 RX3 yX3_today cX3_today 1 (some .int) wsX3_today 0 := ⟨gL_areAlike_X3_today, ⟨_, rfl⟩, rfl, by decide, by decide, by decide +kernel⟩
theorem k_L_areAlike_X3_sweeping : XV wsL_areAlike RL 99 RX3 yX3_sweeping cX3_sweeping 1 (some .int) wsX3_sweeping 0 := ⟨gL_areAlike_X3_sweeping, ⟨_, rfl⟩, rfl, by decide, by decide, by decide +kernel⟩
theorem k_L_areAlike_X3_size : XV wsL_areAlike RL 55 RX3 yX3_size cX3_size 2 (some .int) wsX3_size 1 := ⟨gL_areAlike_X3_size, ⟨_, rfl⟩, rfl, by decide, by decide, by decide +kernel⟩
theorem k_L_areAlike_X3_at : XV wsL_areAlike RL 58 RX3 yX3_at cX3_at 3 (some .int) wsX3_at 2 := ⟨gL_areAlike_X3_at, ⟨_, rfl⟩, rfl, by decide, by decide, by decide +kernel⟩
set_option maxHeartbeats 4000000 in
set_option maxRecDepth 100000 in
theorem c_L_areAlike (l : Launch) (D : va_G) (cs : ClassId × ClassId × ClassId) (Lo Lp : List Nat) (f0 : Nat → va_E) (x br ba pr sz lr : Nat) (y yb yc yd ye yf : Nat) (σ : Sg) (hC : CC cs Lo f0 x br ba pr sz lr σ) (hD : CC cs Lp f0 y yb yc yd ye yf σ) (hI : Inv σ) : C0 l yL_areAlike wsL_areAlike ({ frames := 7, cells := 0, slots := 0, locals := 112 } : Room) D cs [.ref x, .ref y] (Lo ++ Lp) f0 (fun v L1 f1 => Lo ++ Lp = L1 ∧ f0 = f1 ∧ v = some (.int (iI 1))) := by
  refine C0.of (cc := cL_areAlike) (maxL := 4) (ret := (some .boolean)) (by decide) rfl (Nat.le_of_ble_eq_true rfl) ?_
  intro p e s m below meth c X hr hlk hin A hA w ls hl
  have hl : lv_has ls 4 [(0, .ref x), (1, .ref y)] := hl
  have hk := hI.k
  refine x_al_n X hl 0 rfl rfl dL_areAlike_0 ?_
  refine x_callV (As := []) (rest := []) (c1 := 0) (s1 := 0) X w hA (c_X3_records l D cs (Lo ++ Lp) f0 x br ba pr sz lr σ (CX.inL hC Lp)) k_L_areAlike_X3_records (by decide) (CX.inL hC Lp).mx (CX.inL hC Lp).fx rfl rfl rfl hl rfl (Nat.le_of_ble_eq_true rfl) (by decide) rfl rfl dL_areAlike_1 (fun v L1 f1 H locs w hp => ?_)
  obtain ⟨rfl, rfl, hp⟩ := hp
  subst hp
  show W p l e _ s m _ below meth c _ _ _ _ _ (F0 m 4 ls [.int (iI (gN σ))])
  refine x_al_n X hl 1 rfl rfl dL_areAlike_4 ?_
  refine x_callV (As := []) (rest := [.int (iI (gN σ))]) (c1 := 0) (s1 := 0) X w hA (c_X3_records l D cs (Lo ++ Lp) f0 y yb yc yd ye yf σ (CX.inR hD Lo)) k_L_areAlike_X3_records (by decide) (CX.inR hD Lo).mx (CX.inR hD Lo).fx rfl rfl rfl hl rfl (Nat.le_of_ble_eq_true rfl) (by decide) rfl rfl dL_areAlike_5 (fun v L1 f1 H locs w hp => ?_)
  obtain ⟨rfl, rfl, hp⟩ := hp
  subst hp
  show W p l e _ s m _ below meth c _ _ _ _ _ (F0 m 8 ls [.int (iI (gN σ)), .int (iI (gN σ))])
  refine x_icmpS_ne (tgt := 70) X (by decide) dL_areAlike_8 ?_
  refine x_al_n X hl 0 rfl rfl dL_areAlike_11 ?_
  refine x_callV (As := []) (rest := []) (c1 := 0) (s1 := 0) X w hA (c_X3_pages l D cs (Lo ++ Lp) f0 x br ba pr sz lr σ (CX.inL hC Lp)) k_L_areAlike_X3_pages (by decide) (CX.inL hC Lp).mx (CX.inL hC Lp).fx rfl rfl rfl hl rfl (Nat.le_of_ble_eq_true rfl) (by decide) rfl rfl dL_areAlike_12 (fun v L1 f1 H locs w hp => ?_)
  obtain ⟨rfl, rfl, hp⟩ := hp
  subst hp
  show W p l e _ s m _ below meth c _ _ _ _ _ (F0 m 15 ls [.int (iI (gK σ))])
  refine x_al_n X hl 1 rfl rfl dL_areAlike_15 ?_
  refine x_callV (As := []) (rest := [.int (iI (gK σ))]) (c1 := 0) (s1 := 0) X w hA (c_X3_pages l D cs (Lo ++ Lp) f0 y yb yc yd ye yf σ (CX.inR hD Lo)) k_L_areAlike_X3_pages (by decide) (CX.inR hD Lo).mx (CX.inR hD Lo).fx rfl rfl rfl hl rfl (Nat.le_of_ble_eq_true rfl) (by decide) rfl rfl dL_areAlike_16 (fun v L1 f1 H locs w hp => ?_)
  obtain ⟨rfl, rfl, hp⟩ := hp
  subst hp
  show W p l e _ s m _ below meth c _ _ _ _ _ (F0 m 19 ls [.int (iI (gK σ)), .int (iI (gK σ))])
  refine x_icmpS_ne (tgt := 70) X (by decide) dL_areAlike_19 ?_
  refine x_al_n X hl 0 rfl rfl dL_areAlike_22 ?_
  refine x_callV (As := []) (rest := []) (c1 := 0) (s1 := 0) X w hA (c_X3_kept l D cs (Lo ++ Lp) f0 x br ba pr sz lr σ (CX.inL hC Lp)) k_L_areAlike_X3_kept (by decide) (CX.inL hC Lp).mx (CX.inL hC Lp).fx rfl rfl rfl hl rfl (Nat.le_of_ble_eq_true rfl) (by decide) rfl rfl dL_areAlike_23 (fun v L1 f1 H locs w hp => ?_)
  obtain ⟨rfl, rfl, hp⟩ := hp
  subst hp
  show W p l e _ s m _ below meth c _ _ _ _ _ (F0 m 26 ls [.int (iI (gP σ))])
  refine x_al_n X hl 1 rfl rfl dL_areAlike_26 ?_
  refine x_callV (As := []) (rest := [.int (iI (gP σ))]) (c1 := 0) (s1 := 0) X w hA (c_X3_kept l D cs (Lo ++ Lp) f0 y yb yc yd ye yf σ (CX.inR hD Lo)) k_L_areAlike_X3_kept (by decide) (CX.inR hD Lo).mx (CX.inR hD Lo).fx rfl rfl rfl hl rfl (Nat.le_of_ble_eq_true rfl) (by decide) rfl rfl dL_areAlike_27 (fun v L1 f1 H locs w hp => ?_)
  obtain ⟨rfl, rfl, hp⟩ := hp
  subst hp
  show W p l e _ s m _ below meth c _ _ _ _ _ (F0 m 30 ls [.int (iI (gP σ)), .int (iI (gP σ))])
  refine x_icmpS_ne (tgt := 70) X (by decide) dL_areAlike_30 ?_
  refine x_al_n X hl 0 rfl rfl dL_areAlike_33 ?_
  refine x_callV (As := []) (rest := []) (c1 := 0) (s1 := 0) X w hA (c_X3_paidBack l D cs (Lo ++ Lp) f0 x br ba pr sz lr σ (CX.inL hC Lp)) k_L_areAlike_X3_paidBack (by decide) (CX.inL hC Lp).mx (CX.inL hC Lp).fx rfl rfl rfl hl rfl (Nat.le_of_ble_eq_true rfl) (by decide) rfl rfl dL_areAlike_34 (fun v L1 f1 H locs w hp => ?_)
  obtain ⟨rfl, rfl, hp⟩ := hp
  subst hp
  show W p l e _ s m _ below meth c _ _ _ _ _ (F0 m 37 ls [.int (iI (gB σ))])
  refine x_al_n X hl 1 rfl rfl dL_areAlike_37 ?_
  refine x_callV (As := []) (rest := [.int (iI (gB σ))]) (c1 := 0) (s1 := 0) X w hA (c_X3_paidBack l D cs (Lo ++ Lp) f0 y yb yc yd ye yf σ (CX.inR hD Lo)) k_L_areAlike_X3_paidBack (by decide) (CX.inR hD Lo).mx (CX.inR hD Lo).fx rfl rfl rfl hl rfl (Nat.le_of_ble_eq_true rfl) (by decide) rfl rfl dL_areAlike_38 (fun v L1 f1 H locs w hp => ?_)
  obtain ⟨rfl, rfl, hp⟩ := hp
  subst hp
  show W p l e _ s m _ below meth c _ _ _ _ _ (F0 m 41 ls [.int (iI (gB σ)), .int (iI (gB σ))])
  refine x_icmpS_ne (tgt := 70) X (by decide) dL_areAlike_41 ?_
  refine x_al_n X hl 0 rfl rfl dL_areAlike_44 ?_
  refine x_callV (As := []) (rest := []) (c1 := 0) (s1 := 0) X w hA (c_X3_today l D cs (Lo ++ Lp) f0 x br ba pr sz lr σ (CX.inL hC Lp)) k_L_areAlike_X3_today (by decide) (CX.inL hC Lp).mx (CX.inL hC Lp).fx rfl rfl rfl hl rfl (Nat.le_of_ble_eq_true rfl) (by decide) rfl rfl dL_areAlike_45 (fun v L1 f1 H locs w hp => ?_)
  obtain ⟨rfl, rfl, hp⟩ := hp
  subst hp
  show W p l e _ s m _ below meth c _ _ _ _ _ (F0 m 48 ls [.int (iI (gT σ))])
  refine x_al_n X hl 1 rfl rfl dL_areAlike_48 ?_
  refine x_callV (As := []) (rest := [.int (iI (gT σ))]) (c1 := 0) (s1 := 0) X w hA (c_X3_today l D cs (Lo ++ Lp) f0 y yb yc yd ye yf σ (CX.inR hD Lo)) k_L_areAlike_X3_today (by decide) (CX.inR hD Lo).mx (CX.inR hD Lo).fx rfl rfl rfl hl rfl (Nat.le_of_ble_eq_true rfl) (by decide) rfl rfl dL_areAlike_49 (fun v L1 f1 H locs w hp => ?_)
  obtain ⟨rfl, rfl, hp⟩ := hp
  subst hp
  show W p l e _ s m _ below meth c _ _ _ _ _ (F0 m 52 ls [.int (iI (gT σ)), .int (iI (gT σ))])
  refine x_icmpS_ne (tgt := 70) X (by decide) dL_areAlike_52 ?_
  refine x_al_n X hl 0 rfl rfl dL_areAlike_55 ?_
  refine x_callV (As := []) (rest := []) (c1 := 0) (s1 := 0) X w hA (c_X3_sweeping l D cs (Lo ++ Lp) f0 x br ba pr sz lr σ (CX.inL hC Lp)) k_L_areAlike_X3_sweeping (by decide) (CX.inL hC Lp).mx (CX.inL hC Lp).fx rfl rfl rfl hl rfl (Nat.le_of_ble_eq_true rfl) (by decide) rfl rfl dL_areAlike_56 (fun v L1 f1 H locs w hp => ?_)
  obtain ⟨rfl, rfl, hp⟩ := hp
  subst hp
  show W p l e _ s m _ below meth c _ _ _ _ _ (F0 m 59 ls [.int (iI (gS σ))])
  refine x_al_n X hl 1 rfl rfl dL_areAlike_59 ?_
  refine x_callV (As := []) (rest := [.int (iI (gS σ))]) (c1 := 0) (s1 := 0) X w hA (c_X3_sweeping l D cs (Lo ++ Lp) f0 y yb yc yd ye yf σ (CX.inR hD Lo)) k_L_areAlike_X3_sweeping (by decide) (CX.inR hD Lo).mx (CX.inR hD Lo).fx rfl rfl rfl hl rfl (Nat.le_of_ble_eq_true rfl) (by decide) rfl rfl dL_areAlike_60 (fun v L1 f1 H locs w hp => ?_)
  obtain ⟨rfl, rfl, hp⟩ := hp
  subst hp
  show W p l e _ s m _ below meth c _ _ _ _ _ (F0 m 63 ls [.int (iI (gS σ)), .int (iI (gS σ))])
  refine x_icmpS_ne (tgt := 70) X (by decide) dL_areAlike_63 ?_
  refine x_iconst X dL_areAlike_66 ?_
  refine x_goto (tgt := 71) X (by decide) dL_areAlike_67 ?_
  refine x_is_n (lv' := [(2, .int (iI 1)), (0, .ref x), (1, .ref y)]) X hl rfl (by decide) rfl dL_areAlike_71 (fun ls hl => ?_)
  refine x_iconst X dL_areAlike_72 ?_
  refine x_is_n (lv' := [(3, .int (iI 0)), (2, .int (iI 1)), (0, .ref x), (1, .ref y)]) X hl rfl (by decide) rfl dL_areAlike_73 (fun ls hl => ?_)
  have loop74 : ∀ (N9 : Nat) (pg : Int) (H : Heap) (locs : List Loc) (ls : Array Slot), (gK σ - pg).toNat < N9 → (0 ≤ pg ∧ pg ≤ gK σ) → XW D A s.heap (Lo ++ Lp) f0 H locs → lv_has ls 4 [(0, .ref x), (1, .ref y), (2, .int (iI 1)), (3, .int (iI pg))] → W p l e ({ frames := 7, cells := 0, slots := 0, locals := 112 } : Room) s m ([.ref x, .ref y] : List Value).toArray below meth c H locs 0 0 (MQ below (CQ D cs A (fun v L1 f1 => Lo ++ Lp = L1 ∧ f0 = f1 ∧ v = some (.int (iI 1)))) ([.ref x, .ref y] : List Value).toArray s 0 0 A) (F0 m 74 ls []) := by
    intro N9
    induction N9 with
    | zero => intro pg H locs ls h9; exact absurd h9 (Nat.not_lt_zero _)
    | succ N9 ih74 =>
      intro pg H locs ls h9 hpg w hl
      refine x_il_n X hl 3 rfl rfl dL_areAlike_74 ?_
      refine x_al_n X hl 0 rfl rfl dL_areAlike_75 ?_
      refine x_callV (As := []) (rest := [.int (iI pg)]) (c1 := 0) (s1 := 0) X w hA (c_X3_pages l D cs (Lo ++ Lp) f0 x br ba pr sz lr σ (CX.inL hC Lp)) k_L_areAlike_X3_pages (by decide) (CX.inL hC Lp).mx (CX.inL hC Lp).fx rfl rfl rfl hl rfl (Nat.le_of_ble_eq_true rfl) (by decide) rfl rfl dL_areAlike_76 (fun v L1 f1 H locs w hp => ?_)
      obtain ⟨rfl, rfl, hp⟩ := hp
      subst hp
      show W p l e _ s m _ below meth c _ _ _ _ _ (F0 m 79 ls [.int (iI (gK σ)), .int (iI pg)])
      refine x_icmp_ge (tgt := 126) X (by omega) (by decide) dL_areAlike_79 (fun hb79 => ?_) (fun hb79 => ?_)
      · refine x_il_n X hl 2 rfl rfl dL_areAlike_126 ?_
        refine x_zret X w hr hlk ⟨by decide, by decide⟩ (by omega) dL_areAlike_127 ?_
        exact ⟨rfl, rfl, rfl⟩
      · refine x_il_n X hl 2 rfl rfl dL_areAlike_82 ?_
        refine x_ifF_eq (tgt := 126) X (by decide) (by decide) (by decide) dL_areAlike_83 ?_
        have hz9 := hI.z1 pg (by omega) (by omega)
        refine x_al_n X hl 0 rfl rfl dL_areAlike_86 ?_
        refine x_il_n X hl 3 rfl rfl dL_areAlike_87 ?_
        refine x_callV (As := [.int (iI pg)]) (rest := []) (c1 := 0) (s1 := 0) X w hA (c_X3_size0 l D cs (Lo ++ Lp) f0 x br ba pr sz lr σ pg (CX.inL hC Lp) hI (by omega) (by omega)) k_L_areAlike_X3_size (by decide) (CX.inL hC Lp).mx (CX.inL hC Lp).fx rfl rfl rfl hl rfl (Nat.le_of_ble_eq_true rfl) (by decide) rfl rfl dL_areAlike_88 (fun v L1 f1 H locs w hp => ?_)
        obtain ⟨rfl, rfl, hp⟩ := hp
        subst hp
        show W p l e _ s m _ below meth c _ _ _ _ _ (F0 m 91 ls [.int (iI (gZ σ pg))])
        refine x_al_n X hl 1 rfl rfl dL_areAlike_91 ?_
        refine x_il_n X hl 3 rfl rfl dL_areAlike_92 ?_
        refine x_callV (As := [.int (iI pg)]) (rest := [.int (iI (gZ σ pg))]) (c1 := 0) (s1 := 0) X w hA (c_X3_size0 l D cs (Lo ++ Lp) f0 y yb yc yd ye yf σ pg (CX.inR hD Lo) hI (by omega) (by omega)) k_L_areAlike_X3_size (by decide) (CX.inR hD Lo).mx (CX.inR hD Lo).fx rfl rfl rfl hl rfl (Nat.le_of_ble_eq_true rfl) (by decide) rfl rfl dL_areAlike_93 (fun v L1 f1 H locs w hp => ?_)
        obtain ⟨rfl, rfl, hp⟩ := hp
        subst hp
        show W p l e _ s m _ below meth c _ _ _ _ _ (F0 m 96 ls [.int (iI (gZ σ pg)), .int (iI (gZ σ pg))])
        refine x_icmpS_ne (tgt := 118) X (by decide) dL_areAlike_96 ?_
        refine x_al_n X hl 0 rfl rfl dL_areAlike_99 ?_
        refine x_il_n X hl 3 rfl rfl dL_areAlike_100 ?_
        refine x_iconst X dL_areAlike_101 ?_
        refine x_callV (As := [.int (iI pg), .int (iI 0)]) (rest := []) (c1 := 0) (s1 := 0) X w hA (c_X3_at0 l D cs (Lo ++ Lp) f0 x br ba pr sz lr σ pg 0 (CX.inL hC Lp) hI ⟨(by omega), (by omega)⟩ (by omega) (by omega)) k_L_areAlike_X3_at (by decide) (CX.inL hC Lp).mx (CX.inL hC Lp).fx rfl rfl rfl hl rfl (Nat.le_of_ble_eq_true rfl) (by decide) rfl rfl dL_areAlike_102 (fun v L1 f1 H locs w hp => ?_)
        obtain ⟨rfl, rfl, hp⟩ := hp
        subst hp
        show W p l e _ s m _ below meth c _ _ _ _ _ (F0 m 105 ls [.int (iI (gR σ (sm (gZ σ) pg + 0) 0))])
        refine x_al_n X hl 1 rfl rfl dL_areAlike_105 ?_
        refine x_il_n X hl 3 rfl rfl dL_areAlike_106 ?_
        refine x_iconst X dL_areAlike_107 ?_
        refine x_callV (As := [.int (iI pg), .int (iI 0)]) (rest := [.int (iI (gR σ (sm (gZ σ) pg + 0) 0))]) (c1 := 0) (s1 := 0) X w hA (c_X3_at0 l D cs (Lo ++ Lp) f0 y yb yc yd ye yf σ pg 0 (CX.inR hD Lo) hI ⟨(by omega), (by omega)⟩ (by omega) (by omega)) k_L_areAlike_X3_at (by decide) (CX.inR hD Lo).mx (CX.inR hD Lo).fx rfl rfl rfl hl rfl (Nat.le_of_ble_eq_true rfl) (by decide) rfl rfl dL_areAlike_108 (fun v L1 f1 H locs w hp => ?_)
        obtain ⟨rfl, rfl, hp⟩ := hp
        subst hp
        show W p l e _ s m _ below meth c _ _ _ _ _ (F0 m 111 ls [.int (iI (gR σ (sm (gZ σ) pg + 0) 0)), .int (iI (gR σ (sm (gZ σ) pg + 0) 0))])
        refine x_icmpS_ne (tgt := 118) X (by decide) dL_areAlike_111 ?_
        refine x_iconst X dL_areAlike_114 ?_
        refine x_goto (tgt := 119) X (by decide) dL_areAlike_115 ?_
        refine x_is_n (lv' := [(2, .int (iI 1)), (0, .ref x), (1, .ref y), (3, .int (iI pg))]) X hl rfl (by decide) rfl dL_areAlike_119 (fun ls hl => ?_)
        refine x_iinc (lv' := [(3, .int (iI (pg + 1))), (2, .int (iI 1)), (0, .ref x), (1, .ref y)]) X hl 3 rfl (by decide) rfl dL_areAlike_120 (fun ls hl => ?_)
        refine x_goto (tgt := 74) X (by decide) dL_areAlike_123 ?_
        refine ih74 (pg + 1) _ _ _ (by omega) (by omega) w (lv_sub hl [2, 3, 1, 0] rfl)
  refine loop74 _ 0 _ _ _ (Nat.lt_succ_self _) (by omega) w (lv_sub hl [2, 3, 1, 0] rfl)

theorem k_L_arePagesSo_X3_pages : XV wsL_arePagesSo RL 46 RX3 yX3_pages cX3_pages 1 (some .int) wsX3_pages 0 := ⟨gL_arePagesSo_X3_pages, ⟨_, rfl⟩, rfl, by decide, by decide, by decide +kernel⟩
theorem k_L_arePagesSo_X3_records : XV wsL_arePagesSo RL 90 RX3 yX3_records cX3_records 1 (some .int) wsX3_records 0 := ⟨gL_arePagesSo_X3_records, ⟨_, rfl⟩, rfl, by decide, by decide, by decide +kernel⟩
theorem k_L_arePagesSo_X3_heldBy : XV wsL_arePagesSo RL 108 RX3 yX3_heldBy cX3_heldBy 2 (some .int) wsX3_heldBy 1 := ⟨gL_arePagesSo_X3_heldBy, ⟨_, rfl⟩, rfl, by decide, by decide, by decide +kernel⟩
theorem k_L_arePagesSo_X3_size : XV wsL_arePagesSo RL 55 RX3 yX3_size cX3_size 2 (some .int) wsX3_size 1 := ⟨gL_arePagesSo_X3_size, ⟨_, rfl⟩, rfl, by decide, by decide, by decide +kernel⟩
theorem k_L_arePagesSo_X3_at : XV wsL_arePagesSo RL 58 RX3 yX3_at cX3_at 3 (some .int) wsX3_at 2 := ⟨gL_arePagesSo_X3_at, ⟨_, rfl⟩, rfl, by decide, by decide, by decide +kernel⟩
theorem k_L_arePagesSo_X3_pageOf : XV wsL_arePagesSo RL 102 RX3 yX3_pageOf cX3_pageOf 2 (some .int) wsX3_pageOf 1 := ⟨gL_arePagesSo_X3_pageOf, ⟨_, rfl⟩, rfl, by decide, by decide, by decide +kernel⟩
theorem k_L_arePagesSo_X3_sum : XV wsL_arePagesSo RL 105 RX3 yX3_sum cX3_sum 3 (some .int) wsX3_sum 1 := ⟨gL_arePagesSo_X3_sum, ⟨_, rfl⟩, rfl, by decide, by decide, by decide +kernel⟩
set_option maxHeartbeats 4000000 in
set_option maxRecDepth 100000 in
theorem c_L_arePagesSo (l : Launch) (D : va_G) (cs : ClassId × ClassId × ClassId) (L : List Nat) (f0 : Nat → va_E) (x br ba pr sz lr : Nat) (σ : Sg) (hC : CC cs L f0 x br ba pr sz lr σ) (hI : Inv σ) : C0 l yL_arePagesSo wsL_arePagesSo ({ frames := 8, cells := 0, slots := 0, locals := 142 } : Room) D cs [.ref x] L f0 (fun v L1 f1 => L = L1 ∧ f0 = f1 ∧ v = some (.int (iI 1))) := by
  refine C0.of (cc := cL_arePagesSo) (maxL := 9) (ret := (some .boolean)) (by decide) rfl (Nat.le_of_ble_eq_true rfl) ?_
  intro p e s m below meth c X hr hlk hin A hA w ls hl
  have hl : lv_has ls 9 [(0, .ref x)] := hl
  have hk := hI.k; have hn := hI.n
  refine x_iconst X dL_arePagesSo_0 ?_
  refine x_is_n (lv' := [(1, .int (iI (-1))), (0, .ref x)]) X hl rfl (by decide) rfl dL_arePagesSo_1 (fun ls hl => ?_)
  refine x_iconst X dL_arePagesSo_2 ?_
  refine x_is_n (lv' := [(2, .int (iI 0)), (1, .int (iI (-1))), (0, .ref x)]) X hl rfl (by decide) rfl dL_arePagesSo_3 (fun ls hl => ?_)
  refine x_iconst X dL_arePagesSo_4 ?_
  refine x_is_n (lv' := [(3, .int (iI 0)), (2, .int (iI 0)), (1, .int (iI (-1))), (0, .ref x)]) X hl rfl (by decide) rfl dL_arePagesSo_5 (fun ls hl => ?_)
  refine x_iconst X dL_arePagesSo_6 ?_
  refine x_is (lv' := [(4, .int (iI 0)), (3, .int (iI 0)), (2, .int (iI 0)), (1, .int (iI (-1))), (0, .ref x)]) X hl (by decide) rfl dL_arePagesSo_7 (fun ls hl => ?_)
  refine x_iconst X dL_arePagesSo_9 ?_
  refine x_is (lv' := [(5, .int (iI 0)), (4, .int (iI 0)), (3, .int (iI 0)), (2, .int (iI 0)), (1, .int (iI (-1))), (0, .ref x)]) X hl (by decide) rfl dL_arePagesSo_10 (fun ls hl => ?_)
  have loop12 : ∀ (N9 : Nat) (la : Int) (mn : Int) (he : Int) (pg : Int) (H : Heap) (locs : List Loc) (ls : Array Slot), (gK σ - pg).toNat < N9 → (0 ≤ pg ∧ pg ≤ gK σ) → (mn = sm (gZ σ) pg) → (la = lst (gR σ) mn) → (he = hd (gR σ) mn) → XW D A s.heap L f0 H locs → lv_has ls 9 [(0, .ref x), (1, .int (iI la)), (2, .int (iI mn)), (3, .int (iI he)), (4, .int (iI 0)), (5, .int (iI pg))] → W p l e ({ frames := 8, cells := 0, slots := 0, locals := 142 } : Room) s m ([.ref x] : List Value).toArray below meth c H locs 0 0 (MQ below (CQ D cs A (fun v L1 f1 => L = L1 ∧ f0 = f1 ∧ v = some (.int (iI 1)))) ([.ref x] : List Value).toArray s 0 0 A) (F0 m 12 ls []) := by
    intro N9
    induction N9 with
    | zero => intro la mn he pg H locs ls h9; exact absurd h9 (Nat.not_lt_zero _)
    | succ N9 ih12 =>
      intro la mn he pg H locs ls h9 hpg hm hla hhe w hl
      subst hla; subst hhe; subst hm
      refine x_il X hl 5 rfl dL_arePagesSo_12 ?_
      refine x_al_n X hl 0 rfl rfl dL_arePagesSo_14 ?_
      refine x_callV (As := []) (rest := [.int (iI pg)]) (c1 := 0) (s1 := 0) X w hA (c_X3_pages l D cs L f0 x br ba pr sz lr σ hC) k_L_arePagesSo_X3_pages (by decide) hC.mx hC.fx rfl rfl rfl hl rfl (Nat.le_of_ble_eq_true rfl) (by decide) rfl rfl dL_arePagesSo_15 (fun v L1 f1 H locs w hp => ?_)
      obtain ⟨rfl, rfl, hp⟩ := hp
      subst hp
      show W p l e _ s m _ below meth c _ _ _ _ _ (F0 m 18 ls [.int (iI (gK σ)), .int (iI pg)])
      refine x_icmp_ge (tgt := 121) X (by omega) (by decide) dL_arePagesSo_18 (fun hb18 => ?_) (fun hb18 => ?_)
      · rw [show sm (gZ σ) pg = gN σ from by rw [show pg = gK σ by omega]; exact hI.sm] at hl
        refine x_iconst X dL_arePagesSo_121 ?_
        refine x_is (lv' := [(5, .int (iI 0)), (0, .ref x), (1, .int (iI (lst (gR σ) (gN σ)))), (2, .int (iI (gN σ))), (3, .int (iI (hd (gR σ) (gN σ)))), (4, .int (iI 0))]) X hl (by decide) rfl dL_arePagesSo_122 (fun ls hl => ?_)
        have loop124 : ∀ (N9 : Nat) (aa : Int) (sr : Int) (H : Heap) (locs : List Loc) (ls : Array Slot), (10 - sr).toNat < N9 → (0 ≤ sr ∧ sr ≤ 10) → (aa = al (gR σ) (gN σ) sr) → XW D A s.heap L f0 H locs → lv_has ls 9 [(0, .ref x), (2, .int (iI (gN σ))), (3, .int (iI (hd (gR σ) (gN σ)))), (4, .int (iI aa)), (5, .int (iI sr))] → W p l e ({ frames := 8, cells := 0, slots := 0, locals := 142 } : Room) s m ([.ref x] : List Value).toArray below meth c H locs 0 0 (MQ below (CQ D cs A (fun v L1 f1 => L = L1 ∧ f0 = f1 ∧ v = some (.int (iI 1)))) ([.ref x] : List Value).toArray s 0 0 A) (F0 m 124 ls []) := by
          intro N9
          induction N9 with
          | zero => intro aa sr H locs ls h9; exact absurd h9 (Nat.not_lt_zero _)
          | succ N9 ih124 =>
            intro aa sr H locs ls h9 hsr haa w hl
            subst haa
            refine x_il X hl 4 rfl dL_arePagesSo_124 ?_
            refine x_bipush X (by decide) dL_arePagesSo_126 ?_
            refine x_icmp_ge (tgt := 148) X (by omega) (by decide) dL_arePagesSo_128 (fun hb128 => ?_) (fun hb128 => ?_)
            · rw [show al (gR σ) (gN σ) sr = hd (gR σ) (gN σ) from by rw [show sr = 10 by omega]; exact al_10 hI.n.1 hI.r2] at hl
              have hkn := kn_0 hI
              refine x_il_n X hl 1 rfl rfl dL_arePagesSo_148 ?_
              refine x_al_n X hl 0 rfl rfl dL_arePagesSo_149 ?_
              refine x_callV (As := []) (rest := [.int (iI (gN σ))]) (c1 := 0) (s1 := 0) X w hA (c_X3_records l D cs L f0 x br ba pr sz lr σ hC) k_L_arePagesSo_X3_records (by decide) hC.mx hC.fx rfl rfl rfl hl rfl (Nat.le_of_ble_eq_true rfl) (by decide) rfl rfl dL_arePagesSo_150 (fun v L1 f1 H locs w hp => ?_)
              obtain ⟨rfl, rfl, hp⟩ := hp
              subst hp
              show W p l e _ s m _ below meth c _ _ _ _ _ (F0 m 153 ls [.int (iI (gN σ)), .int (iI (gN σ))])
              refine x_icmpS_ne (tgt := 190) X (by decide) dL_arePagesSo_153 ?_
              refine x_il_n X hl 2 rfl rfl dL_arePagesSo_156 ?_
              refine x_il X hl 3 rfl dL_arePagesSo_157 ?_
              refine x_icmpS_ne (tgt := 190) X (by decide) dL_arePagesSo_159 ?_
              refine x_al_n X hl 0 rfl rfl dL_arePagesSo_162 ?_
              refine x_callV (As := []) (rest := []) (c1 := 0) (s1 := 0) X w hA (c_X3_pages l D cs L f0 x br ba pr sz lr σ hC) k_L_arePagesSo_X3_pages (by decide) hC.mx hC.fx rfl rfl rfl hl rfl (Nat.le_of_ble_eq_true rfl) (by decide) rfl rfl dL_arePagesSo_163 (fun v L1 f1 H locs w hp => ?_)
              obtain ⟨rfl, rfl, hp⟩ := hp
              subst hp
              show W p l e _ s m _ below meth c _ _ _ _ _ (F0 m 166 ls [.int (iI (gK σ))])
              refine x_if_ne (tgt := 173) X (by omega) (by decide) dL_arePagesSo_166 (fun hb166 => ?_) (fun hb166 => ?_)
              · refine x_iconst X dL_arePagesSo_173 ?_
                refine x_il_n X hl 1 rfl rfl dL_arePagesSo_174 ?_
                refine x_ifT_ne (tgt := 182) X (by omega) (by omega) (by decide) dL_arePagesSo_175 ?_
                refine x_iconst X dL_arePagesSo_182 ?_
                refine x_icmpF_ne (tgt := 190) X (by decide) (by decide) (by decide) dL_arePagesSo_183 ?_
                refine x_iconst X dL_arePagesSo_186 ?_
                refine x_goto (tgt := 191) X (by decide) dL_arePagesSo_187 ?_
                refine x_zret X w hr hlk ⟨by decide, by decide⟩ (by omega) dL_arePagesSo_191 ?_
                exact ⟨rfl, rfl, rfl⟩
              · refine x_iconst X dL_arePagesSo_169 ?_
                refine x_goto (tgt := 174) X (by decide) dL_arePagesSo_170 ?_
                refine x_il_n X hl 1 rfl rfl dL_arePagesSo_174 ?_
                refine x_ifF_ne (tgt := 182) X (by omega) (by omega) (by decide) dL_arePagesSo_175 ?_
                refine x_iconst X dL_arePagesSo_178 ?_
                refine x_goto (tgt := 183) X (by decide) dL_arePagesSo_179 ?_
                refine x_icmpF_ne (tgt := 190) X (by decide) (by decide) (by decide) dL_arePagesSo_183 ?_
                refine x_iconst X dL_arePagesSo_186 ?_
                refine x_goto (tgt := 191) X (by decide) dL_arePagesSo_187 ?_
                refine x_zret X w hr hlk ⟨by decide, by decide⟩ (by omega) dL_arePagesSo_191 ?_
                exact ⟨rfl, rfl, rfl⟩
            · refine x_il X hl 3 rfl dL_arePagesSo_131 ?_
              refine x_al_n X hl 0 rfl rfl dL_arePagesSo_133 ?_
              refine x_il X hl 4 rfl dL_arePagesSo_134 ?_
              refine x_callV (As := [.int (iI sr)]) (rest := [.int (iI (al (gR σ) (gN σ) sr))]) (c1 := 0) (s1 := 0) X w hA (c_X3_heldBy0 l D cs L f0 x br ba pr sz lr σ sr hC hI (by omega) (by omega)) k_L_arePagesSo_X3_heldBy (by decide) hC.mx hC.fx rfl rfl rfl hl rfl (Nat.le_of_ble_eq_true rfl) (by decide) rfl rfl dL_arePagesSo_136 (fun v L1 f1 H locs w hp => ?_)
              obtain ⟨rfl, rfl, hp⟩ := hp
              subst hp
              show W p l e _ s m _ below meth c _ _ _ _ _ (F0 m 139 ls [.int (iI (hs (gR σ) sr (gN σ))), .int (iI (al (gR σ) (gN σ) sr))])
              refine x_iadd X dL_arePagesSo_139 ?_
              refine x_is (lv' := [(4, .int (iI ((al (gR σ) (gN σ) sr) + (hs (gR σ) sr (gN σ))))), (0, .ref x), (2, .int (iI (gN σ))), (3, .int (iI (hd (gR σ) (gN σ)))), (5, .int (iI sr))]) X hl (by decide) rfl dL_arePagesSo_140 (fun ls hl => ?_)
              refine x_iinc (lv' := [(5, .int (iI (sr + 1))), (4, .int (iI ((al (gR σ) (gN σ) sr) + (hs (gR σ) sr (gN σ))))), (0, .ref x), (2, .int (iI (gN σ))), (3, .int (iI (hd (gR σ) (gN σ))))]) X hl 4 rfl (by decide) rfl dL_arePagesSo_142 (fun ls hl => ?_)
              refine x_goto (tgt := 124) X (by decide) dL_arePagesSo_145 ?_
              refine ih124 (al (gR σ) (gN σ) sr + hs (gR σ) sr (gN σ)) (sr + 1) _ _ _ (by omega) (by omega) ((al_s _ _ (by omega)).symm) w (lv_sub hl [2, 3, 4, 1, 0] rfl)
        refine loop124 _ 0 0 _ _ _ (Nat.lt_succ_self _) (by omega) rfl w (lv_sub hl [1, 3, 4, 5, 0] rfl)
      · have hz9 := hI.z1 pg (by omega) (by omega)
        refine x_al_n X hl 0 rfl rfl dL_arePagesSo_21 ?_
        refine x_il X hl 5 rfl dL_arePagesSo_22 ?_
        refine x_callV (As := [.int (iI pg)]) (rest := []) (c1 := 0) (s1 := 0) X w hA (c_X3_size0 l D cs L f0 x br ba pr sz lr σ pg hC hI (by omega) (by omega)) k_L_arePagesSo_X3_size (by decide) hC.mx hC.fx rfl rfl rfl hl rfl (Nat.le_of_ble_eq_true rfl) (by decide) rfl rfl dL_arePagesSo_24 (fun v L1 f1 H locs w hp => ?_)
        obtain ⟨rfl, rfl, hp⟩ := hp
        subst hp
        show W p l e _ s m _ below meth c _ _ _ _ _ (F0 m 27 ls [.int (iI (gZ σ pg))])
        refine x_is (lv' := [(6, .int (iI (gZ σ pg))), (0, .ref x), (1, .int (iI (lst (gR σ) (sm (gZ σ) pg)))), (2, .int (iI (sm (gZ σ) pg))), (3, .int (iI (hd (gR σ) (sm (gZ σ) pg)))), (4, .int (iI 0)), (5, .int (iI pg))]) X hl (by decide) rfl dL_arePagesSo_27 (fun ls hl => ?_)
        refine x_il X hl 0 rfl dL_arePagesSo_29 ?_
        refine x_iconst X dL_arePagesSo_31 ?_
        refine x_icmpF_lt (tgt := 41) X (by omega) (by omega) (by decide) dL_arePagesSo_32 ?_
        refine x_il X hl 0 rfl dL_arePagesSo_35 ?_
        refine x_iconst X dL_arePagesSo_37 ?_
        refine x_icmpT_le (tgt := 43) X (by omega) (by omega) (by decide) dL_arePagesSo_38 ?_
        refine x_iconst X dL_arePagesSo_43 ?_
        refine x_is (lv' := [(7, .int (iI 0)), (6, .int (iI (gZ σ pg))), (0, .ref x), (1, .int (iI (lst (gR σ) (sm (gZ σ) pg)))), (2, .int (iI (sm (gZ σ) pg))), (3, .int (iI (hd (gR σ) (sm (gZ σ) pg)))), (4, .int (iI 0)), (5, .int (iI pg))]) X hl (by decide) rfl dL_arePagesSo_44 (fun ls hl => ?_)
        have loop46 : ∀ (N9 : Nat) (la2 : Int) (he2 : Int) (pl : Int) (H : Heap) (locs : List Loc) (ls : Array Slot), (gZ σ pg - pl).toNat < N9 → (0 ≤ pl ∧ pl ≤ gZ σ pg) → (la2 = lst (gR σ) (sm (gZ σ) pg + pl)) → (he2 = hd (gR σ) (sm (gZ σ) pg + pl)) → XW D A s.heap L f0 H locs → lv_has ls 9 [(0, .ref x), (1, .int (iI la2)), (2, .int (iI (sm (gZ σ) pg))), (3, .int (iI he2)), (4, .int (iI 0)), (5, .int (iI pg)), (6, .int (iI (gZ σ pg))), (7, .int (iI pl))] → W p l e ({ frames := 8, cells := 0, slots := 0, locals := 142 } : Room) s m ([.ref x] : List Value).toArray below meth c H locs 0 0 (MQ below (CQ D cs A (fun v L1 f1 => L = L1 ∧ f0 = f1 ∧ v = some (.int (iI 1)))) ([.ref x] : List Value).toArray s 0 0 A) (F0 m 46 ls []) := by
          intro N9
          induction N9 with
          | zero => intro la2 he2 pl H locs ls h9; exact absurd h9 (Nat.not_lt_zero _)
          | succ N9 ih46 =>
            intro la2 he2 pl H locs ls h9 hpl hla2 hhe2 w hl
            subst hla2; subst hhe2
            refine x_il X hl 7 rfl dL_arePagesSo_46 ?_
            refine x_il X hl 6 rfl dL_arePagesSo_48 ?_
            refine x_icmp_ge (tgt := 110) X (by omega) (by decide) dL_arePagesSo_50 (fun hb50 => ?_) (fun hb50 => ?_)
            · refine x_il_n X hl 2 rfl rfl dL_arePagesSo_110 ?_
              refine x_il X hl 6 rfl dL_arePagesSo_111 ?_
              refine x_iadd X dL_arePagesSo_113 ?_
              refine x_is_n (lv' := [(2, .int (iI ((sm (gZ σ) pg) + (gZ σ pg)))), (0, .ref x), (1, .int (iI (lst (gR σ) (sm (gZ σ) pg + pl)))), (3, .int (iI (hd (gR σ) (sm (gZ σ) pg + pl)))), (4, .int (iI 0)), (5, .int (iI pg)), (6, .int (iI (gZ σ pg))), (7, .int (iI pl))]) X hl rfl (by decide) rfl dL_arePagesSo_114 (fun ls hl => ?_)
              refine x_iinc (lv' := [(5, .int (iI (pg + 1))), (2, .int (iI ((sm (gZ σ) pg) + (gZ σ pg)))), (0, .ref x), (1, .int (iI (lst (gR σ) (sm (gZ σ) pg + pl)))), (3, .int (iI (hd (gR σ) (sm (gZ σ) pg + pl)))), (4, .int (iI 0)), (6, .int (iI (gZ σ pg))), (7, .int (iI pl))]) X hl 5 rfl (by decide) rfl dL_arePagesSo_115 (fun ls hl => ?_)
              refine x_goto (tgt := 12) X (by decide) dL_arePagesSo_118 ?_
              refine ih12 (lst (gR σ) (sm (gZ σ) pg + pl)) (sm (gZ σ) pg + gZ σ pg) (hd (gR σ) (sm (gZ σ) pg + pl)) (pg + 1) _ _ _ (by omega) (by omega) ((sm_s _ (by omega)).symm) (by rw [show pl = gZ σ pg by omega]) (by rw [show pl = gZ σ pg by omega]) w (lv_sub hl [2, 3, 1, 4, 5, 0] rfl)
            · have hq9 := pl_in hI (pg := pg) (pl := pl) (by omega) (by omega)
              have hr9 := hI.r (sm (gZ σ) pg + pl) hq9.1.1 hq9.1.2
              have hll := lst_lt hI hq9.1
              have hlb := lst_b hI (q := sm (gZ σ) pg + pl) (by omega)
              refine x_al_n X hl 0 rfl rfl dL_arePagesSo_53 ?_
              refine x_il X hl 5 rfl dL_arePagesSo_54 ?_
              refine x_il X hl 7 rfl dL_arePagesSo_56 ?_
              refine x_callV (As := [.int (iI pg), .int (iI pl)]) (rest := []) (c1 := 0) (s1 := 0) X w hA (c_X3_at0 l D cs L f0 x br ba pr sz lr σ pg pl hC hI ⟨(by omega), (by omega)⟩ (by omega) (by omega)) k_L_arePagesSo_X3_at (by decide) hC.mx hC.fx rfl rfl rfl hl rfl (Nat.le_of_ble_eq_true rfl) (by decide) rfl rfl dL_arePagesSo_58 (fun v L1 f1 H locs w hp => ?_)
              obtain ⟨rfl, rfl, hp⟩ := hp
              subst hp
              show W p l e _ s m _ below meth c _ _ _ _ _ (F0 m 61 ls [.int (iI (gR σ (sm (gZ σ) pg + pl) 0))])
              refine x_is (lv' := [(8, .int (iI (gR σ (sm (gZ σ) pg + pl) 0))), (0, .ref x), (1, .int (iI (lst (gR σ) (sm (gZ σ) pg + pl)))), (2, .int (iI (sm (gZ σ) pg))), (3, .int (iI (hd (gR σ) (sm (gZ σ) pg + pl)))), (4, .int (iI 0)), (5, .int (iI pg)), (6, .int (iI (gZ σ pg))), (7, .int (iI pl))]) X hl (by decide) rfl dL_arePagesSo_61 (fun ls hl => ?_)
              refine x_il X hl 0 rfl dL_arePagesSo_63 ?_
              refine x_il_n X hl 2 rfl rfl dL_arePagesSo_65 ?_
              refine x_icmpF_le (tgt := 90) X (by omega) (by omega) (by decide) dL_arePagesSo_66 ?_
              refine x_al_n X hl 1 rfl rfl dL_arePagesSo_69 ?_
              refine x_il X hl 0 rfl dL_arePagesSo_70 ?_
              refine x_callV (As := [.int (iI (gR σ (sm (gZ σ) pg + pl) 0))]) (rest := []) (c1 := 0) (s1 := 0) X w hA (c_X3_pageOf0 l D cs L f0 x br ba pr sz lr σ (gR σ (sm (gZ σ) pg + pl) 0) hC hI (by omega) (by omega)) k_L_arePagesSo_X3_pageOf (by decide) hC.mx hC.fx rfl rfl rfl hl rfl (Nat.le_of_ble_eq_true rfl) (by decide) rfl rfl dL_arePagesSo_72 (fun v L1 f1 H locs w hp => ?_)
              obtain ⟨rfl, rfl, hp⟩ := hp
              subst hp
              show W p l e _ s m _ below meth c _ _ _ _ _ (F0 m 75 ls [.int (iI (pw (gZ σ) (gK σ) (qF (gR σ (sm (gZ σ) pg + pl) 0) σ)))])
              rw [show pw (gZ σ) (gK σ) (qF (gR σ (sm (gZ σ) pg + pl) 0) σ) = pg from by rw [qf_at hI hq9.1, hq9.2]]
              refine x_il X hl 6 rfl dL_arePagesSo_75 ?_
              refine x_icmpS_ne (tgt := 90) X (by decide) dL_arePagesSo_77 ?_
              refine x_al_n X hl 1 rfl rfl dL_arePagesSo_80 ?_
              refine x_il X hl 0 rfl dL_arePagesSo_81 ?_
              refine x_callV (As := [.int (iI (gR σ (sm (gZ σ) pg + pl) 0))]) (rest := []) (c1 := 0) (s1 := 0) X w hA (c_X3_sum0 l D cs L f0 x br ba pr sz lr σ (gR σ (sm (gZ σ) pg + pl) 0) hC hI (by omega) (by omega) (by rw [qf_at hI hq9.1]; omega)) k_L_arePagesSo_X3_sum (by decide) hC.mx hC.fx rfl rfl rfl hl rfl (Nat.le_of_ble_eq_true rfl) (by decide) rfl rfl dL_arePagesSo_83 (fun v L1 f1 H locs w hp => ?_)
              obtain ⟨rfl, rfl, hp⟩ := hp
              subst hp
              show W p l e _ s m _ below meth c _ _ _ _ _ (F0 m 86 ls [.int (iI (gR σ (qF (gR σ (sm (gZ σ) pg + pl) 0) σ) 1))])
              rw [show gR σ (qF (gR σ (sm (gZ σ) pg + pl) 0) σ) 1 = gR σ (sm (gZ σ) pg + pl) 1 from by rw [qf_at hI hq9.1]]
              refine x_iconst X dL_arePagesSo_86 ?_
              refine x_icmpT_ge (tgt := 92) X (by omega) (by omega) (by decide) dL_arePagesSo_87 ?_
              refine x_il X hl 0 rfl dL_arePagesSo_92 ?_
              refine x_is_n (lv' := [(1, .int (iI (gR σ (sm (gZ σ) pg + pl) 0))), (8, .int (iI (gR σ (sm (gZ σ) pg + pl) 0))), (0, .ref x), (2, .int (iI (sm (gZ σ) pg))), (3, .int (iI (hd (gR σ) (sm (gZ σ) pg + pl)))), (4, .int (iI 0)), (5, .int (iI pg)), (6, .int (iI (gZ σ pg))), (7, .int (iI pl))]) X hl rfl (by decide) rfl dL_arePagesSo_94 (fun ls hl => ?_)
              refine x_il_n X hl 4 rfl rfl dL_arePagesSo_95 ?_
              refine x_al_n X hl 2 rfl rfl dL_arePagesSo_96 ?_
              refine x_il X hl 1 rfl dL_arePagesSo_97 ?_
              refine x_callV (As := [.int (iI (gR σ (sm (gZ σ) pg + pl) 0))]) (rest := [.int (iI (hd (gR σ) (sm (gZ σ) pg + pl)))]) (c1 := 0) (s1 := 0) X w hA (c_X3_sum0 l D cs L f0 x br ba pr sz lr σ (gR σ (sm (gZ σ) pg + pl) 0) hC hI (by omega) (by omega) (by rw [qf_at hI hq9.1]; omega)) k_L_arePagesSo_X3_sum (by decide) hC.mx hC.fx rfl rfl rfl hl rfl (Nat.le_of_ble_eq_true rfl) (by decide) rfl rfl dL_arePagesSo_99 (fun v L1 f1 H locs w hp => ?_)
              obtain ⟨rfl, rfl, hp⟩ := hp
              subst hp
              show W p l e _ s m _ below meth c _ _ _ _ _ (F0 m 102 ls [.int (iI (gR σ (qF (gR σ (sm (gZ σ) pg + pl) 0) σ) 1)), .int (iI (hd (gR σ) (sm (gZ σ) pg + pl)))])
              rw [show gR σ (qF (gR σ (sm (gZ σ) pg + pl) 0) σ) 1 = gR σ (sm (gZ σ) pg + pl) 1 from by rw [qf_at hI hq9.1]]
              refine x_iadd X dL_arePagesSo_102 ?_
              refine x_is_n (lv' := [(3, .int (iI ((hd (gR σ) (sm (gZ σ) pg + pl)) + (gR σ (sm (gZ σ) pg + pl) 1)))), (1, .int (iI (gR σ (sm (gZ σ) pg + pl) 0))), (8, .int (iI (gR σ (sm (gZ σ) pg + pl) 0))), (0, .ref x), (2, .int (iI (sm (gZ σ) pg))), (4, .int (iI 0)), (5, .int (iI pg)), (6, .int (iI (gZ σ pg))), (7, .int (iI pl))]) X hl rfl (by decide) rfl dL_arePagesSo_103 (fun ls hl => ?_)
              refine x_iinc (lv' := [(7, .int (iI (pl + 1))), (3, .int (iI ((hd (gR σ) (sm (gZ σ) pg + pl)) + (gR σ (sm (gZ σ) pg + pl) 1)))), (1, .int (iI (gR σ (sm (gZ σ) pg + pl) 0))), (8, .int (iI (gR σ (sm (gZ σ) pg + pl) 0))), (0, .ref x), (2, .int (iI (sm (gZ σ) pg))), (4, .int (iI 0)), (5, .int (iI pg)), (6, .int (iI (gZ σ pg)))]) X hl 8 rfl (by decide) rfl dL_arePagesSo_104 (fun ls hl => ?_)
              refine x_goto (tgt := 46) X (by decide) dL_arePagesSo_107 ?_
              refine ih46 (gR σ (sm (gZ σ) pg + pl) 0) (hd (gR σ) (sm (gZ σ) pg + pl) + gR σ (sm (gZ σ) pg + pl) 1) (pl + 1) _ _ _ (by omega) (by omega) (by rw [← Int.add_assoc, lst_s _ (by omega)]) (by rw [← Int.add_assoc, hd_s _ (by omega)]) w (lv_sub hl [4, 2, 5, 1, 6, 7, 8, 0] rfl)
        refine loop46 _ (lst (gR σ) (sm (gZ σ) pg)) (hd (gR σ) (sm (gZ σ) pg)) 0 _ _ _ (Nat.lt_succ_self _) (by omega) (by rw [Int.add_zero]) (by rw [Int.add_zero]) w (lv_sub hl [2, 3, 4, 5, 6, 7, 1, 0] rfl)
  refine loop12 _ (-1) 0 0 0 _ _ _ (Nat.lt_succ_self _) (by omega) ((sm_0 _).symm) rfl rfl w (lv_sub hl [5, 4, 3, 2, 1, 0] rfl)

theorem k_L_isWalked_X3_walk : XV wsL_isWalked RL 43 RX3 yX3_walk cX3_walk 2 (some .int) wsX3_walk 1 := ⟨gL_isWalked_X3_walk, ⟨_, rfl⟩, rfl, by decide, by decide, by decide +kernel⟩
theorem k_L_isWalked_X3_records : XV wsL_isWalked RL 90 RX3 yX3_records cX3_records 1 (some .int) wsX3_records 0 := ⟨gL_isWalked_X3_records, ⟨_, rfl⟩, rfl, by decide, by decide, by decide +kernel⟩
theorem k_L_isWalked_X3_pageOf : XV wsL_isWalked RL 102 RX3 yX3_pageOf cX3_pageOf 2 (some .int) wsX3_pageOf 1 := ⟨gL_isWalked_X3_pageOf, ⟨_, rfl⟩, rfl, by decide, by decide, by decide +kernel⟩
set_option maxHeartbeats 4000000 in
set_option maxRecDepth 100000 in
theorem c_L_isWalked (l : Launch) (D : va_G) (cs : ClassId × ClassId × ClassId) (Lo Lp : List Nat) (f0 : Nat → va_E) (x br ba pr sz lr : Nat) (y yb yc yd ye yf : Nat) (σ : Sg) (rd : Int) (hC : CC cs Lo f0 x br ba pr sz lr σ) (hD : CC cs Lp f0 y yb yc yd ye yf σ) (hI : Inv σ) (hrd : 0 ≤ rd ∧ rd ≤ 3) : C0 l yL_isWalked wsL_isWalked ({ frames := 8, cells := 0, slots := 0, locals := 131 } : Room) D cs [.ref x, .ref y, .int (iI rd)] (Lo ++ Lp) f0 (fun v L1 f1 => v = some (.int (iI 1)) ∧ ∃ La Lb, L1 = La ++ Lb ∧ CC cs La f1 x br ba pr sz lr (swk rd (-1) σ) ∧ CC cs Lb f1 y yb yc yd ye yf (swk rd (-1) σ)) := by
  refine C0.of (cc := cL_isWalked) (maxL := 7) (ret := (some .boolean)) (by decide) rfl (Nat.le_of_ble_eq_true rfl) ?_
  intro p e s m below meth c X hr hlk hin A hA w ls hl
  have hl : lv_has ls 7 [(0, .ref x), (1, .ref y), (2, .int (iI rd))] := hl
  have hk := hI.k; have hn := hI.n
  have hw0 := hI.w rd (by omega) (by omega)
  have hC : CC cs Lo f0 x br ba pr sz lr (swk rd (gW σ rd) σ) := by rw [swk_self]; exact hC
  have hD : CC cs Lp f0 y yb yc yd ye yf (swk rd (gW σ rd) σ) := by rw [swk_self]; exact hD
  refine x_iconst X dL_isWalked_0 ?_
  refine x_is_n (lv' := [(3, .int (iI 0)), (0, .ref x), (1, .ref y), (2, .int (iI rd))]) X hl rfl (by decide) rfl dL_isWalked_1 (fun ls hl => ?_)
  have loop2 : ∀ (N9 : Nat) (k : Nat) (s9 : Int) (f1 : Nat → va_E) (H : Heap) (locs : List Loc) (ls : Array Slot), 100 - k < N9 → (s9 = (k : Int)) → (CC cs Lo f1 x br ba pr sz lr (swk rd (itr σ (gW σ rd) k) σ)) → (CC cs Lp f1 y yb yc yd ye yf (swk rd (gW σ rd) σ)) → ((k : Int) ≤ cu (gR σ) (gN σ) (itr σ (gW σ rd) k)) → XW D A s.heap (Lo ++ Lp) f1 H locs → lv_has ls 7 [(0, .ref x), (1, .ref y), (2, .int (iI rd)), (3, .int (iI s9))] → W p l e ({ frames := 8, cells := 0, slots := 0, locals := 131 } : Room) s m ([.ref x, .ref y, .int (iI rd)] : List Value).toArray below meth c H locs 0 0 (MQ below (CQ D cs A (fun v L1 f1 => v = some (.int (iI 1)) ∧ ∃ La Lb, L1 = La ++ Lb ∧ CC cs La f1 x br ba pr sz lr (swk rd (-1) σ) ∧ CC cs Lb f1 y yb yc yd ye yf (swk rd (-1) σ))) ([.ref x, .ref y, .int (iI rd)] : List Value).toArray s 0 0 A) (F0 m 2 ls []) := by
    intro N9
    induction N9 with
    | zero => intro k s9 f1 H locs ls h9; exact absurd h9 (Nat.not_lt_zero _)
    | succ N9 ih2 =>
      intro k s9 f1 H locs ls h9 hs9 hC hD hk9 w hl
      have hcb := cu_b hI (itr σ (gW σ rd) k)
      refine x_il_n X hl 3 rfl rfl dL_isWalked_2 ?_
      refine x_bipush X (by decide) dL_isWalked_3 ?_
      refine x_icmpF_ge (tgt := 22) X (by omega) (by omega) (by decide) dL_isWalked_5 ?_
      refine x_al_n X hl 0 rfl rfl dL_isWalked_8 ?_
      refine x_il_n X hl 2 rfl rfl dL_isWalked_9 ?_
      refine x_callV (As := [.int (iI rd)]) (rest := []) (c1 := 0) (s1 := 0) X w hA (C0.fL Lp (c_X3_walk0 l D cs Lo f1 x br ba pr sz lr (swk rd (itr σ (gW σ rd) k) σ) rd hC (hI.swk (itr_b hI hw0 _)) (by omega) (by omega))) k_L_isWalked_X3_walk (by decide) (CX.inL hC Lp).mx (CX.inL hC Lp).fx rfl rfl rfl hl rfl (Nat.le_of_ble_eq_true rfl) (by decide) rfl rfl dL_isWalked_10 (fun v L1 f1 H locs w hp => ?_)
      obtain ⟨L2, f2, hL2, ⟨h7, hv, hC2⟩, he1, he2⟩ := hp
      subst h7
      obtain rfl : L1 = Lo ++ Lp := hL2
      rw [swk_V] at hv hC2
      rw [swk_S] at hC2
      subst hv
      have hC : CC cs Lo f1 x br ba pr sz lr (swk rd (nx σ (itr σ (gW σ rd) k)) σ) := CX.ext hC2 (fun _ q => q) he1
      have hD : CC cs Lp f1 y yb yc yd ye yf (swk rd (gW σ rd) σ) := CX.ext hD (fun _ q => q) he2
      have hxb10 := nx_b hI (itr σ (gW σ rd) k)
      show W p l e _ s m _ below meth c _ _ _ _ _ (F0 m 13 ls [.int (iI (nx σ (itr σ (gW σ rd) k)))])
      refine x_if_lt (tgt := 22) X (by omega) (by decide) dL_isWalked_13 (fun hb13 => ?_) (fun hb13 => ?_)
      · have hx1 : itr σ (gW σ rd) (k + 1) = -1 := by rw [itr_s]; omega
        refine x_iconst X dL_isWalked_22 ?_
        refine x_is (lv' := [(4, .int (iI 0)), (0, .ref x), (1, .ref y), (2, .int (iI rd)), (3, .int (iI s9))]) X hl (by decide) rfl dL_isWalked_23 (fun ls hl => ?_)
        have loop25 : ∀ (N9 : Nat) (j : Nat) (k4 : Int) (f4 : Nat → va_E) (H : Heap) (locs : List Loc) (ls : Array Slot), k + 2 - j < N9 → (k4 = (j : Int) ∧ j ≤ k + 1) → (CC cs Lo f4 x br ba pr sz lr (swk rd (nx σ (itr σ (gW σ rd) k)) σ)) → (CC cs Lp f4 y yb yc yd ye yf (swk rd (itr σ (gW σ rd) j) σ)) → XW D A s.heap (Lo ++ Lp) f4 H locs → lv_has ls 7 [(0, .ref x), (1, .ref y), (2, .int (iI rd)), (3, .int (iI s9)), (4, .int (iI k4))] → W p l e ({ frames := 8, cells := 0, slots := 0, locals := 131 } : Room) s m ([.ref x, .ref y, .int (iI rd)] : List Value).toArray below meth c H locs 0 0 (MQ below (CQ D cs A (fun v L1 f1 => v = some (.int (iI 1)) ∧ ∃ La Lb, L1 = La ++ Lb ∧ CC cs La f1 x br ba pr sz lr (swk rd (-1) σ) ∧ CC cs Lb f1 y yb yc yd ye yf (swk rd (-1) σ))) ([.ref x, .ref y, .int (iI rd)] : List Value).toArray s 0 0 A) (F0 m 25 ls []) := by
          intro N9
          induction N9 with
          | zero => intro j k4 f4 H locs ls h9; exact absurd h9 (Nat.not_lt_zero _)
          | succ N9 ih25 =>
            intro j k4 f4 H locs ls h9 hj hC hD w hl
            refine x_il X hl 4 rfl dL_isWalked_25 ?_
            refine x_il_n X hl 3 rfl rfl dL_isWalked_27 ?_
            refine x_icmp_gt (tgt := 44) X (by omega) (by decide) dL_isWalked_28 (fun hb28 => ?_) (fun hb28 => ?_)
            · have hjk : j = k + 1 := by omega
              subst hjk
              rw [hx1] at hD
              have hx2 : nx σ (itr σ (gW σ rd) k) = -1 := by omega
              rw [hx2] at hC
              refine x_iconst X dL_isWalked_44 ?_
              refine x_is (lv' := [(4, .int (iI (-1))), (0, .ref x), (1, .ref y), (2, .int (iI rd)), (3, .int (iI s9))]) X hl (by decide) rfl dL_isWalked_45 (fun ls hl => ?_)
              refine x_iconst X dL_isWalked_47 ?_
              refine x_is (lv' := [(5, .int (iI 0)), (4, .int (iI (-1))), (0, .ref x), (1, .ref y), (2, .int (iI rd)), (3, .int (iI s9))]) X hl (by decide) rfl dL_isWalked_48 (fun ls hl => ?_)
              have loop50 : ∀ (N9 : Nat) (w9 : Int) (k9 : Int) (f5 : Nat → va_E) (H : Heap) (locs : List Loc) (ls : Array Slot), (gN σ - k9).toNat < N9 → (-1 ≤ w9 ∧ w9 ≤ 999) → (cu (gR σ) (gN σ) w9 = k9) → (CC cs Lo f5 x br ba pr sz lr (swk rd w9 σ)) → (CC cs Lp f5 y yb yc yd ye yf (swk rd w9 σ)) → XW D A s.heap (Lo ++ Lp) f5 H locs → lv_has ls 7 [(0, .ref x), (1, .ref y), (2, .int (iI rd)), (4, .int (iI w9)), (5, .int (iI k9))] → W p l e ({ frames := 8, cells := 0, slots := 0, locals := 131 } : Room) s m ([.ref x, .ref y, .int (iI rd)] : List Value).toArray below meth c H locs 0 0 (MQ below (CQ D cs A (fun v L1 f1 => v = some (.int (iI 1)) ∧ ∃ La Lb, L1 = La ++ Lb ∧ CC cs La f1 x br ba pr sz lr (swk rd (-1) σ) ∧ CC cs Lb f1 y yb yc yd ye yf (swk rd (-1) σ))) ([.ref x, .ref y, .int (iI rd)] : List Value).toArray s 0 0 A) (F0 m 50 ls []) := by
                intro N9
                induction N9 with
                | zero => intro w9 k9 f5 H locs ls h9; exact absurd h9 (Nat.not_lt_zero _)
                | succ N9 ih50 =>
                  intro w9 k9 f5 H locs ls h9 hw9 hk8 hC hD w hl
                  have hcb9 := cu_b hI w9
                  refine x_il X hl 4 rfl dL_isWalked_50 ?_
                  refine x_al_n X hl 0 rfl rfl dL_isWalked_52 ?_
                  refine x_callV (As := []) (rest := [.int (iI k9)]) (c1 := 0) (s1 := 0) X w hA (c_X3_records l D cs (Lo ++ Lp) f5 x br ba pr sz lr (swk rd w9 σ) (CX.inL hC Lp)) k_L_isWalked_X3_records (by decide) (CX.inL hC Lp).mx (CX.inL hC Lp).fx rfl rfl rfl hl rfl (Nat.le_of_ble_eq_true rfl) (by decide) rfl rfl dL_isWalked_53 (fun v L1 f1 H locs w hp => ?_)
                  obtain ⟨rfl, rfl, hp⟩ := hp
                  subst hp
                  show W p l e _ s m _ below meth c _ _ _ _ _ (F0 m 56 ls [.int (iI (gN (swk rd w9 σ))), .int (iI k9)])
                  rw [show gN (swk rd w9 σ) = gN σ from rfl]
                  refine x_icmp_ge (tgt := 104) X (by omega) (by decide) dL_isWalked_56 (fun hb56 => ?_) (fun hb56 => ?_)
                  · have hno : nx σ w9 = -1 := nx_out (by omega)
                    refine x_al_n X hl 0 rfl rfl dL_isWalked_104 ?_
                    refine x_il_n X hl 2 rfl rfl dL_isWalked_105 ?_
                    refine x_callV (As := [.int (iI rd)]) (rest := []) (c1 := 0) (s1 := 0) X w hA (C0.fL Lp (c_X3_walk0 l D cs Lo f5 x br ba pr sz lr (swk rd w9 σ) rd hC (hI.swk hw9) (by omega) (by omega))) k_L_isWalked_X3_walk (by decide) (CX.inL hC Lp).mx (CX.inL hC Lp).fx rfl rfl rfl hl rfl (Nat.le_of_ble_eq_true rfl) (by decide) rfl rfl dL_isWalked_106 (fun v L1 f1 H locs w hp => ?_)
                    obtain ⟨L2, f2, hL2, ⟨h7, hv, hC2⟩, he1, he2⟩ := hp
                    subst h7
                    obtain rfl : L1 = Lo ++ Lp := hL2
                    rw [swk_V] at hv hC2
                    rw [swk_S] at hC2
                    subst hv
                    have hC : CC cs Lo f1 x br ba pr sz lr (swk rd (nx σ w9) σ) := CX.ext hC2 (fun _ q => q) he1
                    have hD : CC cs Lp f1 y yb yc yd ye yf (swk rd w9 σ) := CX.ext hD (fun _ q => q) he2
                    have hxb106 := nx_b hI w9
                    show W p l e _ s m _ below meth c _ _ _ _ _ (F0 m 109 ls [.int (iI (nx σ w9))])
                    rw [show nx σ w9 = -1 from hno]
                    refine x_iconst X dL_isWalked_109 ?_
                    refine x_icmpF_ne (tgt := 126) X (by decide) (by decide) (by decide) dL_isWalked_110 ?_
                    refine x_al_n X hl 1 rfl rfl dL_isWalked_113 ?_
                    refine x_il_n X hl 2 rfl rfl dL_isWalked_114 ?_
                    refine x_callV (As := [.int (iI rd)]) (rest := []) (c1 := 0) (s1 := 0) X w hA (C0.fR Lo (c_X3_walk0 l D cs Lp f1 y yb yc yd ye yf (swk rd w9 σ) rd hD (hI.swk hw9) (by omega) (by omega))) k_L_isWalked_X3_walk (by decide) (CX.inR hD Lo).mx (CX.inR hD Lo).fx rfl rfl rfl hl rfl (Nat.le_of_ble_eq_true rfl) (by decide) rfl rfl dL_isWalked_115 (fun v L1 f1 H locs w hp => ?_)
                    obtain ⟨L2, f2, hL2, ⟨h7, hv, hC2⟩, he1, he2⟩ := hp
                    subst h7
                    obtain rfl : L1 = Lo ++ Lp := hL2
                    rw [swk_V] at hv hC2
                    rw [swk_S] at hC2
                    subst hv
                    have hD : CC cs Lp f1 y yb yc yd ye yf (swk rd (nx σ w9) σ) := CX.ext hC2 (fun _ q => q) he1
                    have hC : CC cs Lo f1 x br ba pr sz lr (swk rd (nx σ w9) σ) := CX.ext hC (fun _ q => q) he2
                    have hxb115 := nx_b hI w9
                    show W p l e _ s m _ below meth c _ _ _ _ _ (F0 m 118 ls [.int (iI (nx σ w9))])
                    rw [show nx σ w9 = -1 from hno]
                    refine x_iconst X dL_isWalked_118 ?_
                    refine x_icmpF_ne (tgt := 126) X (by decide) (by decide) (by decide) dL_isWalked_119 ?_
                    refine x_iconst X dL_isWalked_122 ?_
                    refine x_goto (tgt := 127) X (by decide) dL_isWalked_123 ?_
                    refine x_zret X w hr hlk ⟨by decide, by decide⟩ (by omega) dL_isWalked_127 ?_
                    rw [hno] at hC hD
                    exact ⟨rfl, Lo, Lp, rfl, hC, hD⟩
                  · have hcb := cu_b hI w9
                    have hni := nx_in hI (wv := w9) (by omega)
                    refine x_al_n X hl 0 rfl rfl dL_isWalked_59 ?_
                    refine x_il_n X hl 2 rfl rfl dL_isWalked_60 ?_
                    refine x_callV (As := [.int (iI rd)]) (rest := []) (c1 := 0) (s1 := 0) X w hA (C0.fL Lp (c_X3_walk0 l D cs Lo f5 x br ba pr sz lr (swk rd w9 σ) rd hC (hI.swk hw9) (by omega) (by omega))) k_L_isWalked_X3_walk (by decide) (CX.inL hC Lp).mx (CX.inL hC Lp).fx rfl rfl rfl hl rfl (Nat.le_of_ble_eq_true rfl) (by decide) rfl rfl dL_isWalked_61 (fun v L1 f1 H locs w hp => ?_)
                    obtain ⟨L2, f2, hL2, ⟨h7, hv, hC2⟩, he1, he2⟩ := hp
                    subst h7
                    obtain rfl : L1 = Lo ++ Lp := hL2
                    rw [swk_V] at hv hC2
                    rw [swk_S] at hC2
                    subst hv
                    have hC : CC cs Lo f1 x br ba pr sz lr (swk rd (nx σ w9) σ) := CX.ext hC2 (fun _ q => q) he1
                    have hD : CC cs Lp f1 y yb yc yd ye yf (swk rd w9 σ) := CX.ext hD (fun _ q => q) he2
                    have hxb61 := nx_b hI w9
                    show W p l e _ s m _ below meth c _ _ _ _ _ (F0 m 64 ls [.int (iI (nx σ w9))])
                    refine x_is (lv' := [(6, .int (iI (nx σ w9))), (0, .ref x), (1, .ref y), (2, .int (iI rd)), (4, .int (iI w9)), (5, .int (iI k9))]) X hl (by decide) rfl dL_isWalked_64 (fun ls hl => ?_)
                    refine x_il X hl 0 rfl dL_isWalked_66 ?_
                    refine x_il X hl 4 rfl dL_isWalked_68 ?_
                    refine x_icmpF_le (tgt := 92) X (by omega) (by omega) (by decide) dL_isWalked_70 ?_
                    refine x_al_n X hl 1 rfl rfl dL_isWalked_73 ?_
                    refine x_il X hl 0 rfl dL_isWalked_74 ?_
                    refine x_callV (As := [.int (iI (nx σ w9))]) (rest := []) (c1 := 0) (s1 := 0) X w hA (c_X3_pageOf0 l D cs (Lo ++ Lp) f1 x br ba pr sz lr (swk rd (nx σ w9) σ) (nx σ w9) (CX.inL hC Lp) (hI.swk (nx_b hI _)) (by omega) (by omega)) k_L_isWalked_X3_pageOf (by decide) (CX.inL hC Lp).mx (CX.inL hC Lp).fx rfl rfl rfl hl rfl (Nat.le_of_ble_eq_true rfl) (by decide) rfl rfl dL_isWalked_76 (fun v L1 f1 H locs w hp => ?_)
                    obtain ⟨rfl, rfl, hp⟩ := hp
                    subst hp
                    show W p l e _ s m _ below meth c _ _ _ _ _ (F0 m 79 ls [.int (iI (pw (gZ (swk rd (nx σ w9) σ)) (gK (swk rd (nx σ w9) σ)) (qF (nx σ w9) (swk rd (nx σ w9) σ))))])
                    rw [show pw (gZ (swk rd (nx σ w9) σ)) (gK (swk rd (nx σ w9) σ)) (qF (nx σ w9) (swk rd (nx σ w9) σ)) = pw (gZ σ) (gK σ) (cu (gR σ) (gN σ) w9) from by show pw (gZ σ) (gK σ) (qF (nx σ w9) σ) = _; rw [hni.2.2.2.2]]
                    have hpg := hI.pgr (p := cu (gR σ) (gN σ) w9) (by omega)
                    refine x_ifF_lt (tgt := 92) X (by omega) (by omega) (by decide) dL_isWalked_79 ?_
                    refine x_al_n X hl 2 rfl rfl dL_isWalked_82 ?_
                    refine x_il_n X hl 3 rfl rfl dL_isWalked_83 ?_
                    refine x_callV (As := [.int (iI rd)]) (rest := []) (c1 := 0) (s1 := 0) X w hA (C0.fR Lo (c_X3_walk0 l D cs Lp f1 y yb yc yd ye yf (swk rd w9 σ) rd hD (hI.swk hw9) (by omega) (by omega))) k_L_isWalked_X3_walk (by decide) (CX.inR hD Lo).mx (CX.inR hD Lo).fx rfl rfl rfl hl rfl (Nat.le_of_ble_eq_true rfl) (by decide) rfl rfl dL_isWalked_84 (fun v L1 f1 H locs w hp => ?_)
                    obtain ⟨L2, f2, hL2, ⟨h7, hv, hC2⟩, he1, he2⟩ := hp
                    subst h7
                    obtain rfl : L1 = Lo ++ Lp := hL2
                    rw [swk_V] at hv hC2
                    rw [swk_S] at hC2
                    subst hv
                    have hD : CC cs Lp f1 y yb yc yd ye yf (swk rd (nx σ w9) σ) := CX.ext hC2 (fun _ q => q) he1
                    have hC : CC cs Lo f1 x br ba pr sz lr (swk rd (nx σ w9) σ) := CX.ext hC (fun _ q => q) he2
                    have hxb84 := nx_b hI w9
                    show W p l e _ s m _ below meth c _ _ _ _ _ (F0 m 87 ls [.int (iI (nx σ w9))])
                    refine x_il X hl 0 rfl dL_isWalked_87 ?_
                    refine x_icmpS_eq (tgt := 94) X (by decide) dL_isWalked_89 ?_
                    refine x_il X hl 0 rfl dL_isWalked_94 ?_
                    refine x_is (lv' := [(4, .int (iI (nx σ w9))), (6, .int (iI (nx σ w9))), (0, .ref x), (1, .ref y), (2, .int (iI rd)), (5, .int (iI k9))]) X hl (by decide) rfl dL_isWalked_96 (fun ls hl => ?_)
                    refine x_iinc (lv' := [(5, .int (iI (k9 + 1))), (4, .int (iI (nx σ w9))), (6, .int (iI (nx σ w9))), (0, .ref x), (1, .ref y), (2, .int (iI rd))]) X hl 5 rfl (by decide) rfl dL_isWalked_98 (fun ls hl => ?_)
                    refine x_goto (tgt := 50) X (by decide) dL_isWalked_101 ?_
                    refine ih50 (nx σ w9) (k9 + 1) f1 _ _ _ (by omega) (nx_b hI _) (by rw [hni.2.2.2.1, hk8]) hC hD w (lv_sub hl [3, 4, 5, 1, 0] rfl)
              refine loop50 _ (-1) 0 f4 _ _ _ (Nat.lt_succ_self _) (by omega) (cu_0 hI) hC hD w (lv_sub hl [2, 3, 4, 1, 0] rfl)
            · refine x_al_n X hl 1 rfl rfl dL_isWalked_31 ?_
              refine x_il_n X hl 2 rfl rfl dL_isWalked_32 ?_
              refine x_callV (As := [.int (iI rd)]) (rest := []) (c1 := 0) (s1 := 0) X w hA (C0.fR Lo (c_X3_walk0 l D cs Lp f4 y yb yc yd ye yf (swk rd (itr σ (gW σ rd) j) σ) rd hD (hI.swk (itr_b hI hw0 _)) (by omega) (by omega))) k_L_isWalked_X3_walk (by decide) (CX.inR hD Lo).mx (CX.inR hD Lo).fx rfl rfl rfl hl rfl (Nat.le_of_ble_eq_true rfl) (by decide) rfl rfl dL_isWalked_33 (fun v L1 f1 H locs w hp => ?_)
              obtain ⟨L2, f2, hL2, ⟨h7, hv, hC2⟩, he1, he2⟩ := hp
              subst h7
              obtain rfl : L1 = Lo ++ Lp := hL2
              rw [swk_V] at hv hC2
              rw [swk_S] at hC2
              subst hv
              have hD : CC cs Lp f1 y yb yc yd ye yf (swk rd (nx σ (itr σ (gW σ rd) j)) σ) := CX.ext hC2 (fun _ q => q) he1
              have hC : CC cs Lo f1 x br ba pr sz lr (swk rd (nx σ (itr σ (gW σ rd) k)) σ) := CX.ext hC (fun _ q => q) he2
              have hxb33 := nx_b hI (itr σ (gW σ rd) j)
              show W p l e _ s m _ below meth c _ _ _ _ _ (F0 m 36 ls [.int (iI (nx σ (itr σ (gW σ rd) j)))])
              refine x_is (lv' := [(5, .int (iI (nx σ (itr σ (gW σ rd) j)))), (0, .ref x), (1, .ref y), (2, .int (iI rd)), (3, .int (iI s9)), (4, .int (iI k4))]) X hl (by decide) rfl dL_isWalked_36 (fun ls hl => ?_)
              refine x_iinc (lv' := [(4, .int (iI (k4 + 1))), (5, .int (iI (nx σ (itr σ (gW σ rd) j)))), (0, .ref x), (1, .ref y), (2, .int (iI rd)), (3, .int (iI s9))]) X hl 5 rfl (by decide) rfl dL_isWalked_38 (fun ls hl => ?_)
              refine x_goto (tgt := 25) X (by decide) dL_isWalked_41 ?_
              refine ih25 (j + 1) (k4 + 1) f1 _ _ _ (by omega) (by omega) hC hD w (lv_sub hl [2, 3, 4, 5, 0] rfl)
        refine loop25 _ 0 0 f1 _ _ _ (Nat.lt_succ_self _) (⟨rfl, by omega⟩) hC hD w (lv_sub hl [1, 2, 3, 4, 0] rfl)
      · refine x_iinc (lv' := [(3, .int (iI (s9 + 1))), (0, .ref x), (1, .ref y), (2, .int (iI rd))]) X hl 3 rfl (by decide) rfl dL_isWalked_16 (fun ls hl => ?_)
        refine x_goto (tgt := 2) X (by decide) dL_isWalked_19 ?_
        refine ih2 (k + 1) (s9 + 1) f1 _ _ _ (by omega) (by omega) hC hD (by have h8 := nx_in hI (nx_lt hI (wv := itr σ (gW σ rd) k) (by omega)); rw [itr_s, h8.2.2.2.1]; omega) w (lv_sub hl [1, 2, 3, 0] rfl)
  refine loop2 _ 0 0 f0 _ _ _ (Nat.lt_succ_self _) rfl hC hD ((cu_b hI _).1) w (lv_sub hl [1, 2, 3, 0] rfl)
