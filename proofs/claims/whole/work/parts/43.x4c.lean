theorem k_X4_put_X4_isCase : XS wsX4_put RX4 56 yX4_isCase cX4_isCase 1 (some .boolean) wsX4_isCase 1 := ⟨gX4_put_X4_isCase, ⟨_, rfl⟩, by decide, by decide, by decide +kernel⟩
theorem k_X4_put_X4_in : XS wsX4_put RX4 38 yX4_in cX4_in 3 (some .boolean) wsX4_in 3 := ⟨gX4_put_X4_in, ⟨_, rfl⟩, by decide, by decide, by decide +kernel⟩
theorem k_X4_put_X4_find : XV wsX4_put RX4 60 RX4 yX4_find cX4_find 3 (some .int) wsX4_find 1 := ⟨gX4_put_X4_find, ⟨_, rfl⟩, rfl, by decide, by decide, by decide +kernel⟩
theorem k_X4_put_X4_goesWell : XV wsX4_put RX4 63 RX4 yX4_goesWell cX4_goesWell 2 (some .boolean) wsX4_goesWell 1 := ⟨gX4_put_X4_goesWell, ⟨_, rfl⟩, rfl, by decide, by decide, by decide +kernel⟩
theorem iw_X4_put_X4 : ∀ w ∈ wsX40, w ∈ wsX4_put := by decide +kernel
theorem fq_X4_put_42 : XF wsX4_put RX4 42 4 1 := ⟨RX4, TX4, 14, iw_X4_put_X4, rfl, by decide, by decide +kernel⟩
theorem fq_X4_put_45 : XF wsX4_put RX4 45 4 7 := ⟨RX4, TX4, 14, iw_X4_put_X4, rfl, by decide, by decide +kernel⟩
theorem k_X4_put_X4_pageFor : XV wsX4_put RX4 66 RX4 yX4_pageFor cX4_pageFor 4 (some .int) wsX4_pageFor 1 := ⟨gX4_put_X4_pageFor, ⟨_, rfl⟩, rfl, by decide, by decide, by decide +kernel⟩
theorem fq_X4_put_25 : XF wsX4_put RX4 25 4 8 := ⟨RX4, TX4, 14, iw_X4_put_X4, rfl, by decide, by decide +kernel⟩
theorem k_X4_put_X4_moveUp : XV wsX4_put RX4 73 RX4 yX4_moveUp cX4_moveUp 3 none wsX4_moveUp 1 := ⟨gX4_put_X4_moveUp, ⟨_, rfl⟩, rfl, by decide, by decide, by decide +kernel⟩
theorem fq_X4_put_7 : XF wsX4_put RX4 7 4 2 := ⟨RX4, TX4, 14, iw_X4_put_X4, rfl, by decide, by decide +kernel⟩
theorem fq_X4_put_13 : XF wsX4_put RX4 13 4 3 := ⟨RX4, TX4, 14, iw_X4_put_X4, rfl, by decide, by decide +kernel⟩
theorem fq_X4_put_16 : XF wsX4_put RX4 16 4 4 := ⟨RX4, TX4, 14, iw_X4_put_X4, rfl, by decide, by decide +kernel⟩
theorem fq_X4_put_19 : XF wsX4_put RX4 19 4 5 := ⟨RX4, TX4, 14, iw_X4_put_X4, rfl, by decide, by decide +kernel⟩
theorem fq_X4_put_76 : XF wsX4_put RX4 76 4 11 := ⟨RX4, TX4, 14, iw_X4_put_X4, rfl, by decide, by decide +kernel⟩
theorem fq_X4_put_22 : XF wsX4_put RX4 22 4 6 := ⟨RX4, TX4, 14, iw_X4_put_X4, rfl, by decide, by decide +kernel⟩
theorem fp_X4_put_42 : XGn wsX4_put RX4 42 4 1 (tyX4 1) := ⟨RX4, TX4, 14, tyX4, iw_X4_put_X4, rfl, by decide, by decide +kernel, tyX4_ok, nmX4, rfl, by decide +kernel⟩
theorem k_X4_put_X4_split : XV wsX4_put RX4 69 RX4 yX4_split cX4_split 3 none wsX4_split 1 := ⟨gX4_put_X4_split, ⟨_, rfl⟩, rfl, by decide, by decide, by decide +kernel⟩
theorem fp_X4_put_45 : XGn wsX4_put RX4 45 4 7 (tyX4 7) := ⟨RX4, TX4, 14, tyX4, iw_X4_put_X4, rfl, by decide, by decide +kernel, tyX4_ok, nmX4, rfl, by decide +kernel⟩
set_option maxHeartbeats 4000000 in
set_option maxRecDepth 100000 in
theorem c_X4_put (l : Launch) (D : va_G) (cs : ClassId × ClassId × ClassId) (L : List Nat) (f0 : Nat → va_E) (mo : Nat) (B : Nat → Nat) (t : Int) (σ : Sg) (nu su sy : Int) (hX : MX cs L f0 mo B t σ) (hI : Inv σ) (hrg : (-2147483648 ≤ nu ∧ nu < 2147483648) ∧ (-2147483648 ≤ su ∧ su < 2147483648) ∧ (-2147483648 ≤ sy ∧ sy < 2147483648)) : C0 l yX4_put wsX4_put ({ frames := 3, cells := 0, slots := 0, locals := 58 } : Room) D cs [.ref mo, .int (iI nu), .int (iI su), .int (iI sy)] L f0 (fun v L1 f1 => MPi cs L f0 mo B (oPut nu su sy σ) v L1 f1) := by
  refine C0.of (cc := cX4_put) (maxL := 7) (ret := (some .int)) (by decide) rfl (Nat.le_of_ble_eq_true rfl) ?_
  intro p e s m below meth c X hr hlk hin A hA w ls hl
  have hl : lv_has ls 7 [(0, .ref mo), (1, .int (iI nu)), (2, .int (iI su)), (3, .int (iI sy))] := hl
  obtain ⟨g, zz, ww, hM, hg, hz, hw⟩ := hX
  have hF : FM f0 f0 mo B := FM.rf _ _ _
  have hn := hI.n; have hk := hI.k; have ht := hI.t; have hsw := hI.s; have hz4 := hI.z4
  refine x_il_n X hl 1 rfl rfl dX4_put_0 ?_
  refine x_callS (As := [.int (iI nu)]) (rest := []) (c1 := 0) (s1 := 0) X w hA (c_X4_isCase l D cs L f0 nu (by omega)) k_X4_put_X4_isCase (by decide) rfl hl rfl (Nat.le_of_ble_eq_true rfl) (by decide) rfl rfl dX4_put_1 (fun v L1 f1 H locs w hp => ?_)
  obtain ⟨rfl, rfl, hp⟩ := hp
  rcases hp with ⟨rfl, hq1⟩ | ⟨rfl, hq1⟩
  · show W p l e _ s m _ below meth c _ _ _ _ _ (F0 m 4 ls [.int (iI 1)])
    refine x_ifF_eq (tgt := 32) X (by decide) (by decide) (by decide) dX4_put_4 ?_
    refine x_il_n X hl 2 rfl rfl dX4_put_7 ?_
    refine x_iconst X dX4_put_8 ?_
    refine x_sipush X (by decide) dX4_put_9 ?_
    refine x_callS (As := [.int (iI su), .int (iI 1), .int (iI 10000)]) (rest := []) (c1 := 0) (s1 := 0) X w hA (c_X4_in l D cs L f0 su 1 10000 (by omega)) k_X4_put_X4_in (by decide) rfl hl rfl (Nat.le_of_ble_eq_true rfl) (by decide) rfl rfl dX4_put_12 (fun v L1 f1 H locs w hp => ?_)
    obtain ⟨rfl, rfl, hp⟩ := hp
    rcases hp with ⟨rfl, hq12⟩ | ⟨rfl, hq12⟩
    · show W p l e _ s m _ below meth c _ _ _ _ _ (F0 m 15 ls [.int (iI 1)])
      refine x_ifF_eq (tgt := 32) X (by decide) (by decide) (by decide) dX4_put_15 ?_
      refine x_il_n X hl 3 rfl rfl dX4_put_18 ?_
      refine x_iconst X dX4_put_19 ?_
      refine x_bipush X (by decide) dX4_put_20 ?_
      refine x_callS (As := [.int (iI sy), .int (iI 0), .int (iI 9)]) (rest := []) (c1 := 0) (s1 := 0) X w hA (c_X4_in l D cs L f0 sy 0 9 (by omega)) k_X4_put_X4_in (by decide) rfl hl rfl (Nat.le_of_ble_eq_true rfl) (by decide) rfl rfl dX4_put_22 (fun v L1 f1 H locs w hp => ?_)
      obtain ⟨rfl, rfl, hp⟩ := hp
      rcases hp with ⟨rfl, hq22⟩ | ⟨rfl, hq22⟩
      · show W p l e _ s m _ below meth c _ _ _ _ _ (F0 m 25 ls [.int (iI 1)])
        refine x_ifF_eq (tgt := 32) X (by decide) (by decide) (by decide) dX4_put_25 ?_
        refine x_iconst X dX4_put_28 ?_
        refine x_goto (tgt := 33) X (by decide) dX4_put_29 ?_
        refine x_is (lv' := [(4, .int (iI 1)), (0, .ref mo), (1, .int (iI nu)), (2, .int (iI su)), (3, .int (iI sy))]) X hl (by decide) rfl dX4_put_33 (fun ls hl => ?_)
        refine x_al_n X hl 1 rfl rfl dX4_put_35 ?_
        refine x_il X hl 0 rfl dX4_put_36 ?_
        refine x_ifT_ne (tgt := 45) X (by decide) (by decide) (by decide) dX4_put_38 ?_
        refine x_al_n X hl 1 rfl rfl dX4_put_45 ?_
        refine x_il_n X hl 2 rfl rfl dX4_put_46 ?_
        refine x_callV (As := [.int (iI nu)]) (rest := [.ref mo]) (c1 := 0) (s1 := 0) X w hA (c_X4_find l D cs L f0 mo B t (gN σ) (gK σ) (gT σ) (gP σ) (gB σ) (gS σ) g zz ww (gR σ) nu hM hg (by omega) hI.r0 hI.so) k_X4_put_X4_find (by decide) hM.mm hM.fm rfl rfl rfl hl rfl (Nat.le_of_ble_eq_true rfl) (by decide) rfl rfl dX4_put_47 (fun v L1 f1 H locs w hp => ?_)
        obtain ⟨rfl, rfl, hp⟩ := hp
        subst hp
        show W p l e _ s m _ below meth c _ _ _ _ _ (F0 m 50 ls [.int (iI (fd (gR σ) (gN σ) nu)), .ref mo])
        have hfr := fd_rg (R := gR σ) (n := gN σ) (v := nu) (by omega)
        refine x_iconst X dX4_put_50 ?_
        refine x_icmp_ne (tgt := 63) X (by omega) (by decide) dX4_put_51 (fun hb51 => ?_) (fun hb51 => ?_)
        · refine x_iconst X dX4_put_63 ?_
          refine x_goto (tgt := 68) X (by decide) dX4_put_64 ?_
          refine x_callV (As := [.int (iI 2)]) (rest := []) (c1 := 0) (s1 := 0) X w hA (c_X4_goesWell l D cs L f0 mo B t (gN σ) (gK σ) (gT σ) (gP σ) (gB σ) (gS σ) g zz ww 2 hM (by omega)) k_X4_put_X4_goesWell (by decide) hM.mm hM.fm rfl rfl rfl hl rfl (Nat.le_of_ble_eq_true rfl) (by decide) rfl rfl dX4_put_68 (fun v L1 f1 H locs w hp => ?_)
          obtain ⟨rfl, hfm, hM, hp⟩ := hp
          have hF := hF.tr hfm
          rcases hp with ⟨rfl, hq68⟩ | ⟨rfl, hq68⟩
          · exfalso; omega
          · show W p l e _ s m _ below meth c _ _ _ _ _ (F0 m 71 ls [.int (iI 0)])
            refine x_ifF_ne (tgt := 76) X (by decide) (by decide) (by decide) dX4_put_71 ?_
            refine x_iconst X dX4_put_74 ?_
            refine x_iret X w hr hlk ⟨by decide, by decide⟩ dX4_put_75 ?_
            have ho : oPut nu su sy σ = (2, 0, σ) := (if_pos (by omega)).trans (if_pos (show qF nu σ ≠ -1 ∨ 80 ≤ gN σ from Or.inl hb51))
            rw [ho]
            exact ⟨rfl, rfl, hF, ⟨_, _, _, hM, hg, hz, hw⟩⟩
        · refine x_al_n X hl 1 rfl rfl dX4_put_54 ?_
          refine x_get X w hM.mm hM.fm fq_X4_put_42 rfl dX4_put_55 ?_
          refine x_bipush X (by decide) dX4_put_58 ?_
          refine x_icmp_ne (tgt := 67) X (by omega) (by decide) dX4_put_60 (fun hb60 => ?_) (fun hb60 => ?_)
          · refine x_iconst X dX4_put_67 ?_
            refine x_callV (As := [.int (iI 0)]) (rest := []) (c1 := 0) (s1 := 0) X w hA (c_X4_goesWell l D cs L f0 mo B t (gN σ) (gK σ) (gT σ) (gP σ) (gB σ) (gS σ) g zz ww 0 hM (by omega)) k_X4_put_X4_goesWell (by decide) hM.mm hM.fm rfl rfl rfl hl rfl (Nat.le_of_ble_eq_true rfl) (by decide) rfl rfl dX4_put_68 (fun v L1 f1 H locs w hp => ?_)
            obtain ⟨rfl, hfm, hM, hp⟩ := hp
            have hF := hF.tr hfm
            rcases hp with ⟨rfl, hq68⟩ | ⟨rfl, hq68⟩
            · show W p l e _ s m _ below meth c _ _ _ _ _ (F0 m 71 ls [.int (iI 1)])
              refine x_ifT_ne (tgt := 76) X (by decide) (by decide) (by decide) dX4_put_71 ?_
              have hcu := cu_is (gR σ) (n := gN σ) nu hn.1
              have hcu1 := hcu.1
              have hcu2 := hcu.2.1
              have hkn := k_le hk.1 hI.z1
              rw [hI.sm] at hkn
              have hne : ∀ j, 0 ≤ j → j < gN σ → gR σ j 0 ≠ nu := by
                rcases fd_or (R := gR σ) (n := gN σ) (v := nu) with h1 | h1
                · have h2 := h1.1; omega
                · exact h1.2
              refine x_al_n X hl 1 rfl rfl dX4_put_76 ?_
              refine x_get X w hM.mm hM.fm fq_X4_put_45 rfl dX4_put_77 ?_
              refine x_if_ne (tgt := 95) X (by omega) (by decide) dX4_put_80 (fun hb80 => ?_) (fun hb80 => ?_)
              · refine x_al_n X hl 1 rfl rfl dX4_put_95 ?_
                refine x_get X w hM.mm hM.fm fq_X4_put_42 rfl dX4_put_96 ?_
                refine x_ifT_ne (tgt := 106) X (by omega) (by omega) (by decide) dX4_put_99 ?_
                refine x_al_n X hl 1 rfl rfl dX4_put_106 ?_
                refine x_il_n X hl 2 rfl rfl dX4_put_107 ?_
                refine x_callV (As := [.int (iI nu)]) (rest := []) (c1 := 0) (s1 := 0) X w hA (c_X4_pageFor l D cs L f1 mo B 0 (gN σ) (gK σ) (gT σ) (gP σ) (gB σ) (gS σ) g zz ww (gR σ) (gZ σ) nu (cu (gR σ) (gN σ) nu) hM hg hz (by omega) hI.z1 hI.sm hI.r0 hI.so hcu hne) k_X4_put_X4_pageFor (by decide) hM.mm hM.fm rfl rfl rfl hl rfl (Nat.le_of_ble_eq_true rfl) (by decide) rfl rfl dX4_put_108 (fun v L1 f1 H locs w hp => ?_)
                obtain ⟨rfl, rfl, hp⟩ := hp
                subst hp
                show W p l e _ s m _ below meth c _ _ _ _ _ (F0 m 111 ls [.int (iI (pw (gZ σ) (gK σ) (pp1 (cu (gR σ) (gN σ) nu))))])
                refine x_is (lv' := [(5, .int (iI (pw (gZ σ) (gK σ) (pp1 (cu (gR σ) (gN σ) nu))))), (4, .int (iI 1)), (0, .ref mo), (1, .int (iI nu)), (2, .int (iI su)), (3, .int (iI sy))]) X hl (by decide) rfl dX4_put_111 (fun ls hl => ?_)
                have hpr := pp1_r (p := cu (gR σ) (gN σ) nu) (n := gN σ) ⟨hcu1, hcu2⟩ (by omega)
                have hpg := hI.pgr hpr
                have hzq := hz4 (pw (gZ σ) (gK σ) (pp1 (cu (gR σ) (gN σ) nu))) (by omega) (by omega)
                refine x_al_n X hl 2 rfl rfl dX4_put_113 ?_
                refine x_get X w hM.mm hM.fm fq_X4_put_25 rfl dX4_put_114 ?_
                refine x_il X hl 0 rfl dX4_put_117 ?_
                refine x_ialdv (v := (gZ σ) (pw (gZ σ) (gK σ) (pp1 (cu (gR σ) (gN σ) nu)))) X w hM.m8 hM.f8 (by omega) (hz (pw (gZ σ) (gK σ) (pp1 (cu (gR σ) (gN σ) nu))) (by omega) (by omega)) dX4_put_119 ?_
                refine x_iconst X dX4_put_120 ?_
                refine x_icmp_ne (tgt := 137) X (by omega) (by decide) dX4_put_121 (fun hb121 => ?_) (fun hb121 => ?_)
                · have hsK : spK (gZ σ) (gK σ) (cu (gR σ) (gN σ) nu) = gK σ := if_neg (by omega)
                  have hsZ : spZ (gZ σ) (gK σ) (cu (gR σ) (gN σ) nu) = gZ σ := if_neg (by omega)
                  refine x_al_n X hl 2 rfl rfl dX4_put_137 ?_
                  refine x_get X w hM.mm hM.fm fq_X4_put_25 rfl dX4_put_138 ?_
                  refine x_il X hl 0 rfl dX4_put_141 ?_
                  refine x_dup2 X rfl rfl dX4_put_143 ?_
                  refine x_ialdv (v := (gZ σ) (pw (gZ σ) (gK σ) (pp1 (cu (gR σ) (gN σ) nu)))) X w hM.m8 hM.f8 (by omega) (hz (pw (gZ σ) (gK σ) (pp1 (cu (gR σ) (gN σ) nu))) (by omega) (by omega)) dX4_put_144 ?_
                  refine x_iconst X dX4_put_145 ?_
                  refine x_iadd X dX4_put_146 ?_
                  refine x_iast X w hM.m8 hM.f8 (by omega) dX4_put_147 (fun H locs w => ?_)
                  obtain ⟨f148, zz148, w, hM, hF, hz148⟩ : ∃ f9 z9, XW D A s.heap L f9 H locs ∧ ML cs L f9 mo B 0 (gN σ) (gK σ) (gT σ) (gP σ) (gB σ) (gS σ) g z9 ww ∧ FM f0 f9 mo B ∧ (∀ j, 0 ≤ j → j < gK σ → z9 j = (uI (gZ σ) (pw (gZ σ) (gK σ) (pp1 (cu (gR σ) (gN σ) nu))) (((gZ σ) (pw (gZ σ) (gK σ) (pp1 (cu (gR σ) (gN σ) nu)))) + 1)) j) := ⟨_, _, w, hM.zw, hF.a 8, ag_u hz⟩
                  refine x_iconst X dX4_put_148 ?_
                  refine x_is (lv' := [(6, .int (iI 0)), (5, .int (iI (pw (gZ σ) (gK σ) (pp1 (cu (gR σ) (gN σ) nu))))), (4, .int (iI 1)), (0, .ref mo), (1, .int (iI nu)), (2, .int (iI su)), (3, .int (iI sy))]) X hl (by decide) rfl dX4_put_149 (fun ls hl => ?_)
                  have loop151 : ∀ (N9 : Nat) (i : Int) (H : Heap) (locs : List Loc) (ls : Array Slot), (gN σ - i).toNat < N9 → (0 ≤ i ∧ i ≤ gN σ) → (∀ j, 0 ≤ j → j < i → gR σ j 0 < nu) → XW D A s.heap L f148 H locs → lv_has ls 7 [(0, .ref mo), (1, .int (iI nu)), (2, .int (iI su)), (3, .int (iI sy)), (6, .int (iI i))] → W p l e ({ frames := 3, cells := 0, slots := 0, locals := 58 } : Room) s m ([.ref mo, .int (iI nu), .int (iI su), .int (iI sy)] : List Value).toArray below meth c H locs 0 0 (MQ below (CQ D cs A (fun v L1 f1 => MPi cs L f0 mo B (oPut nu su sy σ) v L1 f1)) ([.ref mo, .int (iI nu), .int (iI su), .int (iI sy)] : List Value).toArray s 0 0 A) (F0 m 151 ls []) := by
                    intro N9
                    induction N9 with
                    | zero => intro i H locs ls h9; exact absurd h9 (Nat.not_lt_zero _)
                    | succ N9 ih151 =>
                      intro i H locs ls h9 hi hj w hl
                      refine x_il X hl 4 rfl dX4_put_151 ?_
                      refine x_al_n X hl 0 rfl rfl dX4_put_153 ?_
                      refine x_get X w hM.mm hM.fm fq_X4_put_42 rfl dX4_put_154 ?_
                      refine x_icmp_ge (tgt := 177) X (by omega) (by decide) dX4_put_157 (fun hb157 => ?_) (fun hb157 => ?_)
                      · have hce : cu (gR σ) (gN σ) nu = i := cu_eq ⟨by omega, by omega, fun j a b => by have h9 := hj j a b; omega, fun h9 => by have h8 := hne i (by omega) h9; omega⟩
                        refine x_al_n X hl 0 rfl rfl dX4_put_177 ?_
                        refine x_il X hl 4 rfl dX4_put_178 ?_
                        refine x_callV (As := [.int (iI i)]) (rest := []) (c1 := 0) (s1 := 0) X w hA (c_X4_moveUp l D cs L f148 mo B 0 (gN σ) (gK σ) (gT σ) (gP σ) (gB σ) (gS σ) g zz148 ww i hM (by omega)) k_X4_put_X4_moveUp (by decide) hM.mm hM.fm rfl rfl rfl hl rfl (Nat.le_of_ble_eq_true rfl) (by decide) rfl rfl dX4_put_180 (fun v L1 f1 H locs w hp => ?_)
                        obtain ⟨rfl, rfl, hfm, g180, hM, hgm⟩ := hp
                        have hF := hF.tr hfm
                        show W p l e _ s m _ below meth c _ _ _ _ _ (F0 m 183 ls [])
                        refine x_al_n X hl 0 rfl rfl dX4_put_183 ?_
                        refine x_get X w hM.mm hM.fm fq_X4_put_7 rfl dX4_put_184 ?_
                        refine x_il X hl 4 rfl dX4_put_187 ?_
                        refine x_il_n X hl 1 rfl rfl dX4_put_189 ?_
                        refine x_iast X w hM.m2 hM.f2 (by omega) dX4_put_190 (fun H locs w => ?_)
                        obtain ⟨f191, g191, w, hM, hF, hge191⟩ : ∃ f9 g9, XW D A s.heap L f9 H locs ∧ ML cs L f9 mo B 0 (gN σ) (gK σ) (gT σ) (gP σ) (gB σ) (gS σ) g9 zz148 ww ∧ FM f0 f9 mo B ∧ g9 = uG g180 0 i nu := ⟨_, _, w, ML.w2 hM, FM.a 2 hF, rfl⟩
                        refine x_al_n X hl 0 rfl rfl dX4_put_191 ?_
                        refine x_get X w hM.mm hM.fm fq_X4_put_13 rfl dX4_put_192 ?_
                        refine x_il X hl 4 rfl dX4_put_195 ?_
                        refine x_il_n X hl 2 rfl rfl dX4_put_197 ?_
                        refine x_iast X w hM.m3 hM.f3 (by omega) dX4_put_198 (fun H locs w => ?_)
                        obtain ⟨f199, g199, w, hM, hF, hge199⟩ : ∃ f9 g9, XW D A s.heap L f9 H locs ∧ ML cs L f9 mo B 0 (gN σ) (gK σ) (gT σ) (gP σ) (gB σ) (gS σ) g9 zz148 ww ∧ FM f0 f9 mo B ∧ g9 = uG g191 1 i su := ⟨_, _, w, ML.w3 hM, FM.a 3 hF, rfl⟩
                        refine x_al_n X hl 0 rfl rfl dX4_put_199 ?_
                        refine x_get X w hM.mm hM.fm fq_X4_put_16 rfl dX4_put_200 ?_
                        refine x_il X hl 4 rfl dX4_put_203 ?_
                        refine x_il_n X hl 3 rfl rfl dX4_put_205 ?_
                        refine x_iast X w hM.m4 hM.f4 (by omega) dX4_put_206 (fun H locs w => ?_)
                        obtain ⟨f207, g207, w, hM, hF, hge207⟩ : ∃ f9 g9, XW D A s.heap L f9 H locs ∧ ML cs L f9 mo B 0 (gN σ) (gK σ) (gT σ) (gP σ) (gB σ) (gS σ) g9 zz148 ww ∧ FM f0 f9 mo B ∧ g9 = uG g199 2 i sy := ⟨_, _, w, ML.w4 hM, FM.a 4 hF, rfl⟩
                        refine x_al_n X hl 0 rfl rfl dX4_put_207 ?_
                        refine x_get X w hM.mm hM.fm fq_X4_put_19 rfl dX4_put_208 ?_
                        refine x_il X hl 4 rfl dX4_put_211 ?_
                        refine x_al_n X hl 0 rfl rfl dX4_put_213 ?_
                        refine x_get X w hM.mm hM.fm fq_X4_put_76 rfl dX4_put_214 ?_
                        refine x_iast X w hM.m5 hM.f5 (by omega) dX4_put_217 (fun H locs w => ?_)
                        obtain ⟨f218, g218, w, hM, hF, hge218⟩ : ∃ f9 g9, XW D A s.heap L f9 H locs ∧ ML cs L f9 mo B 0 (gN σ) (gK σ) (gT σ) (gP σ) (gB σ) (gS σ) g9 zz148 ww ∧ FM f0 f9 mo B ∧ g9 = uG g207 3 i (gT σ) := ⟨_, _, w, ML.w5 hM, FM.a 5 hF, rfl⟩
                        refine x_al_n X hl 0 rfl rfl dX4_put_218 ?_
                        refine x_get X w hM.mm hM.fm fq_X4_put_22 rfl dX4_put_219 ?_
                        refine x_il X hl 4 rfl dX4_put_222 ?_
                        refine x_iconst X dX4_put_224 ?_
                        refine x_iast X w hM.m6 hM.f6 (by omega) dX4_put_225 (fun H locs w => ?_)
                        obtain ⟨f226, g226, w, hM, hF, hge226⟩ : ∃ f9 g9, XW D A s.heap L f9 H locs ∧ ML cs L f9 mo B 0 (gN σ) (gK σ) (gT σ) (gP σ) (gB σ) (gS σ) g9 zz148 ww ∧ FM f0 f9 mo B ∧ g9 = uG g218 4 i (-1) := ⟨_, _, w, ML.w6 hM, FM.a 6 hF, rfl⟩
                        refine x_al_n X hl 0 rfl rfl dX4_put_226 ?_
                        refine x_dup X rfl dX4_put_227 ?_
                        refine x_get X w hM.mm hM.fm fq_X4_put_42 rfl dX4_put_228 ?_
                        refine x_iconst X dX4_put_231 ?_
                        refine x_iadd X dX4_put_232 ?_
                        refine x_put X w hM.mm hM.fm fp_X4_put_42 rfl rfl (Nat.le_of_ble_eq_true rfl) rfl dX4_put_233 (fun H locs w => ?_)
                        obtain ⟨f236, w, hM, hF⟩ : ∃ f9, XW D A s.heap L f9 H locs ∧ ML cs L f9 mo B 0 ((gN σ) + 1) (gK σ) (gT σ) (gP σ) (gB σ) (gS σ) g226 zz148 ww ∧ FM f0 f9 mo B := ⟨_, w, hM.fld _ _ _ _ _ _ _, hF.m⟩
                        refine x_al_n X hl 0 rfl rfl dX4_put_236 ?_
                        refine x_get X w hM.mm hM.fm fq_X4_put_45 rfl dX4_put_237 ?_
                        refine x_iret X w hr hlk ⟨by decide, by decide⟩ dX4_put_240 ?_
                        have ho : oPut nu su sy σ = (0, gK (oIns nu su sy σ), oIns nu su sy σ) := (if_pos (by omega)).trans (if_neg (show ¬ (qF nu σ ≠ -1 ∨ 80 ≤ gN σ) from fun h9 => h9.elim (fun h8 => h8 hb51) (fun h8 => by omega)))
                        have hR9 : ∀ j, 0 ≤ j → j < gN σ + 1 → ∀ c, c < 5 → g226 c j = ins (gR σ) (cu (gR σ) (gN σ) nu) (nR nu su sy (gT σ)) j c := by
                          rw [hce]
                          exact nw_g hn.1 (by omega) hg hgm (by rw [hge226, hge218, hge207, hge199, hge191])
                        have eK : adK (spK (gZ σ) (gK σ) (cu (gR σ) (gN σ) nu)) = gK σ := by rw [hsK]; exact if_neg (by omega)
                        have eZ : adZ (spZ (gZ σ) (gK σ) (cu (gR σ) (gN σ) nu)) (spK (gZ σ) (gK σ) (cu (gR σ) (gN σ) nu)) (cu (gR σ) (gN σ) nu) = uI (gZ σ) (pw (gZ σ) (gK σ) (pp1 (cu (gR σ) (gN σ) nu))) (((gZ σ) (pw (gZ σ) (gK σ) (pp1 (cu (gR σ) (gN σ) nu)))) + 1) := by rw [hsK, hsZ]; exact if_neg (by omega)
                        have hz9 := hz148
                        rw [ho]
                        refine ⟨?_, rfl, hF, g226, zz148, ww, ?_, hR9, ?_, hw⟩
                        · show _ = some (Value.int (iI (adK (spK (gZ σ) (gK σ) (cu (gR σ) (gN σ) nu)))))
                          rw [eK]
                        · show ML cs L _ mo B 0 _ (adK (spK (gZ σ) (gK σ) (cu (gR σ) (gN σ) nu))) _ _ _ _ _ _ _
                          rw [eK]; exact hM
                        · show ∀ j, 0 ≤ j → j < adK (spK (gZ σ) (gK σ) (cu (gR σ) (gN σ) nu)) → _ = adZ (spZ (gZ σ) (gK σ) (cu (gR σ) (gN σ) nu)) (spK (gZ σ) (gK σ) (cu (gR σ) (gN σ) nu)) (cu (gR σ) (gN σ) nu) j
                          rw [eK, eZ]; exact hz9
                      · have hq0 := hI.r0 i (by omega) (by omega)
                        refine x_al_n X hl 0 rfl rfl dX4_put_160 ?_
                        refine x_get X w hM.mm hM.fm fq_X4_put_7 rfl dX4_put_161 ?_
                        refine x_il X hl 4 rfl dX4_put_164 ?_
                        refine x_ialdv (v := (gR σ) i 0) X w hM.m2 hM.f2 (by omega) (hg i (by omega) (by omega) 0 (by decide)) dX4_put_166 ?_
                        refine x_il_n X hl 1 rfl rfl dX4_put_167 ?_
                        refine x_icmp_ge (tgt := 177) X (by omega) (by decide) dX4_put_168 (fun hb168 => ?_) (fun hb168 => ?_)
                        · have hce : cu (gR σ) (gN σ) nu = i := cu_eq ⟨by omega, by omega, fun j a b => by have h9 := hj j a b; omega, fun h9 => by have h8 := hne i (by omega) h9; omega⟩
                          refine x_al_n X hl 0 rfl rfl dX4_put_177 ?_
                          refine x_il X hl 4 rfl dX4_put_178 ?_
                          refine x_callV (As := [.int (iI i)]) (rest := []) (c1 := 0) (s1 := 0) X w hA (c_X4_moveUp l D cs L f148 mo B 0 (gN σ) (gK σ) (gT σ) (gP σ) (gB σ) (gS σ) g zz148 ww i hM (by omega)) k_X4_put_X4_moveUp (by decide) hM.mm hM.fm rfl rfl rfl hl rfl (Nat.le_of_ble_eq_true rfl) (by decide) rfl rfl dX4_put_180 (fun v L1 f1 H locs w hp => ?_)
                          obtain ⟨rfl, rfl, hfm, g180, hM, hgm⟩ := hp
                          have hF := hF.tr hfm
                          show W p l e _ s m _ below meth c _ _ _ _ _ (F0 m 183 ls [])
                          refine x_al_n X hl 0 rfl rfl dX4_put_183 ?_
                          refine x_get X w hM.mm hM.fm fq_X4_put_7 rfl dX4_put_184 ?_
                          refine x_il X hl 4 rfl dX4_put_187 ?_
                          refine x_il_n X hl 1 rfl rfl dX4_put_189 ?_
                          refine x_iast X w hM.m2 hM.f2 (by omega) dX4_put_190 (fun H locs w => ?_)
                          obtain ⟨f191, g191, w, hM, hF, hge191⟩ : ∃ f9 g9, XW D A s.heap L f9 H locs ∧ ML cs L f9 mo B 0 (gN σ) (gK σ) (gT σ) (gP σ) (gB σ) (gS σ) g9 zz148 ww ∧ FM f0 f9 mo B ∧ g9 = uG g180 0 i nu := ⟨_, _, w, ML.w2 hM, FM.a 2 hF, rfl⟩
                          refine x_al_n X hl 0 rfl rfl dX4_put_191 ?_
                          refine x_get X w hM.mm hM.fm fq_X4_put_13 rfl dX4_put_192 ?_
                          refine x_il X hl 4 rfl dX4_put_195 ?_
                          refine x_il_n X hl 2 rfl rfl dX4_put_197 ?_
                          refine x_iast X w hM.m3 hM.f3 (by omega) dX4_put_198 (fun H locs w => ?_)
                          obtain ⟨f199, g199, w, hM, hF, hge199⟩ : ∃ f9 g9, XW D A s.heap L f9 H locs ∧ ML cs L f9 mo B 0 (gN σ) (gK σ) (gT σ) (gP σ) (gB σ) (gS σ) g9 zz148 ww ∧ FM f0 f9 mo B ∧ g9 = uG g191 1 i su := ⟨_, _, w, ML.w3 hM, FM.a 3 hF, rfl⟩
                          refine x_al_n X hl 0 rfl rfl dX4_put_199 ?_
                          refine x_get X w hM.mm hM.fm fq_X4_put_16 rfl dX4_put_200 ?_
                          refine x_il X hl 4 rfl dX4_put_203 ?_
                          refine x_il_n X hl 3 rfl rfl dX4_put_205 ?_
                          refine x_iast X w hM.m4 hM.f4 (by omega) dX4_put_206 (fun H locs w => ?_)
                          obtain ⟨f207, g207, w, hM, hF, hge207⟩ : ∃ f9 g9, XW D A s.heap L f9 H locs ∧ ML cs L f9 mo B 0 (gN σ) (gK σ) (gT σ) (gP σ) (gB σ) (gS σ) g9 zz148 ww ∧ FM f0 f9 mo B ∧ g9 = uG g199 2 i sy := ⟨_, _, w, ML.w4 hM, FM.a 4 hF, rfl⟩
                          refine x_al_n X hl 0 rfl rfl dX4_put_207 ?_
                          refine x_get X w hM.mm hM.fm fq_X4_put_19 rfl dX4_put_208 ?_
                          refine x_il X hl 4 rfl dX4_put_211 ?_
                          refine x_al_n X hl 0 rfl rfl dX4_put_213 ?_
                          refine x_get X w hM.mm hM.fm fq_X4_put_76 rfl dX4_put_214 ?_
                          refine x_iast X w hM.m5 hM.f5 (by omega) dX4_put_217 (fun H locs w => ?_)
                          obtain ⟨f218, g218, w, hM, hF, hge218⟩ : ∃ f9 g9, XW D A s.heap L f9 H locs ∧ ML cs L f9 mo B 0 (gN σ) (gK σ) (gT σ) (gP σ) (gB σ) (gS σ) g9 zz148 ww ∧ FM f0 f9 mo B ∧ g9 = uG g207 3 i (gT σ) := ⟨_, _, w, ML.w5 hM, FM.a 5 hF, rfl⟩
                          refine x_al_n X hl 0 rfl rfl dX4_put_218 ?_
                          refine x_get X w hM.mm hM.fm fq_X4_put_22 rfl dX4_put_219 ?_
                          refine x_il X hl 4 rfl dX4_put_222 ?_
                          refine x_iconst X dX4_put_224 ?_
                          refine x_iast X w hM.m6 hM.f6 (by omega) dX4_put_225 (fun H locs w => ?_)
                          obtain ⟨f226, g226, w, hM, hF, hge226⟩ : ∃ f9 g9, XW D A s.heap L f9 H locs ∧ ML cs L f9 mo B 0 (gN σ) (gK σ) (gT σ) (gP σ) (gB σ) (gS σ) g9 zz148 ww ∧ FM f0 f9 mo B ∧ g9 = uG g218 4 i (-1) := ⟨_, _, w, ML.w6 hM, FM.a 6 hF, rfl⟩
                          refine x_al_n X hl 0 rfl rfl dX4_put_226 ?_
                          refine x_dup X rfl dX4_put_227 ?_
                          refine x_get X w hM.mm hM.fm fq_X4_put_42 rfl dX4_put_228 ?_
                          refine x_iconst X dX4_put_231 ?_
                          refine x_iadd X dX4_put_232 ?_
                          refine x_put X w hM.mm hM.fm fp_X4_put_42 rfl rfl (Nat.le_of_ble_eq_true rfl) rfl dX4_put_233 (fun H locs w => ?_)
                          obtain ⟨f236, w, hM, hF⟩ : ∃ f9, XW D A s.heap L f9 H locs ∧ ML cs L f9 mo B 0 ((gN σ) + 1) (gK σ) (gT σ) (gP σ) (gB σ) (gS σ) g226 zz148 ww ∧ FM f0 f9 mo B := ⟨_, w, hM.fld _ _ _ _ _ _ _, hF.m⟩
                          refine x_al_n X hl 0 rfl rfl dX4_put_236 ?_
                          refine x_get X w hM.mm hM.fm fq_X4_put_45 rfl dX4_put_237 ?_
                          refine x_iret X w hr hlk ⟨by decide, by decide⟩ dX4_put_240 ?_
                          have ho : oPut nu su sy σ = (0, gK (oIns nu su sy σ), oIns nu su sy σ) := (if_pos (by omega)).trans (if_neg (show ¬ (qF nu σ ≠ -1 ∨ 80 ≤ gN σ) from fun h9 => h9.elim (fun h8 => h8 hb51) (fun h8 => by omega)))
                          have hR9 : ∀ j, 0 ≤ j → j < gN σ + 1 → ∀ c, c < 5 → g226 c j = ins (gR σ) (cu (gR σ) (gN σ) nu) (nR nu su sy (gT σ)) j c := by
                            rw [hce]
                            exact nw_g hn.1 (by omega) hg hgm (by rw [hge226, hge218, hge207, hge199, hge191])
                          have eK : adK (spK (gZ σ) (gK σ) (cu (gR σ) (gN σ) nu)) = gK σ := by rw [hsK]; exact if_neg (by omega)
                          have eZ : adZ (spZ (gZ σ) (gK σ) (cu (gR σ) (gN σ) nu)) (spK (gZ σ) (gK σ) (cu (gR σ) (gN σ) nu)) (cu (gR σ) (gN σ) nu) = uI (gZ σ) (pw (gZ σ) (gK σ) (pp1 (cu (gR σ) (gN σ) nu))) (((gZ σ) (pw (gZ σ) (gK σ) (pp1 (cu (gR σ) (gN σ) nu)))) + 1) := by rw [hsK, hsZ]; exact if_neg (by omega)
                          have hz9 := hz148
                          rw [ho]
                          refine ⟨?_, rfl, hF, g226, zz148, ww, ?_, hR9, ?_, hw⟩
                          · show _ = some (Value.int (iI (adK (spK (gZ σ) (gK σ) (cu (gR σ) (gN σ) nu)))))
                            rw [eK]
                          · show ML cs L _ mo B 0 _ (adK (spK (gZ σ) (gK σ) (cu (gR σ) (gN σ) nu))) _ _ _ _ _ _ _
                            rw [eK]; exact hM
                          · show ∀ j, 0 ≤ j → j < adK (spK (gZ σ) (gK σ) (cu (gR σ) (gN σ) nu)) → _ = adZ (spZ (gZ σ) (gK σ) (cu (gR σ) (gN σ) nu)) (spK (gZ σ) (gK σ) (cu (gR σ) (gN σ) nu)) (cu (gR σ) (gN σ) nu) j
                            rw [eK, eZ]; exact hz9
                        · refine x_iinc (lv' := [(6, .int (iI (i + 1))), (0, .ref mo), (1, .int (iI nu)), (2, .int (iI su)), (3, .int (iI sy))]) X hl 4 rfl (by decide) rfl dX4_put_171 (fun ls hl => ?_)
                          refine x_goto (tgt := 151) X (by decide) dX4_put_174 ?_
                          refine ih151 (i + 1) _ _ _ (by omega) (by omega) ?_ w (lv_sub hl [1, 2, 3, 4, 0] rfl)
                          · intro j h1 h2
                            by_cases h3 : j = i
                            · subst h3; omega
                            · exact hj j h1 (by omega)
                  refine loop151 _ 0 _ _ _ (Nat.lt_succ_self _) (by omega) (fun j h1 h2 => absurd h2 (by omega)) w (lv_sub hl [3, 4, 5, 6, 0] rfl)
                · have hsp := sp_ok hI.z1 hpg (by omega)
                  rw [show gZ σ (pw (gZ σ) (gK σ) (pp1 (cu (gR σ) (gN σ) nu))) - 2 = 2 from by omega] at hsp
                  refine x_al_n X hl 2 rfl rfl dX4_put_124 ?_
                  refine x_il X hl 0 rfl dX4_put_125 ?_
                  refine x_callV (As := [.int (iI (pw (gZ σ) (gK σ) (pp1 (cu (gR σ) (gN σ) nu))))]) (rest := []) (c1 := 0) (s1 := 0) X w hA (c_X4_split l D cs L f1 mo B 0 (gN σ) (gK σ) (gT σ) (gP σ) (gB σ) (gS σ) g zz ww (gZ σ) (pw (gZ σ) (gK σ) (pp1 (cu (gR σ) (gN σ) nu))) hM hz (by omega)) k_X4_put_X4_split (by decide) hM.mm hM.fm rfl rfl rfl hl rfl (Nat.le_of_ble_eq_true rfl) (by decide) rfl rfl dX4_put_127 (fun v L1 f1 H locs w hp => ?_)
                  obtain ⟨rfl, rfl, hfm, zz127, hM, hz127⟩ := hp
                  have hF := hF.tr hfm
                  show W p l e _ s m _ below meth c _ _ _ _ _ (F0 m 130 ls [])
                  refine x_al_n X hl 2 rfl rfl dX4_put_130 ?_
                  refine x_il_n X hl 3 rfl rfl dX4_put_131 ?_
                  refine x_callV (As := [.int (iI nu)]) (rest := []) (c1 := 0) (s1 := 0) X w hA (c_X4_pageFor l D cs L f1 mo B 0 (gN σ) ((gK σ) + 1) (gT σ) (gP σ) (gB σ) (gS σ) g zz127 ww (gR σ) (uI (ins (gZ σ) ((pw (gZ σ) (gK σ) (pp1 (cu (gR σ) (gN σ) nu))) + 1) 2) (pw (gZ σ) (gK σ) (pp1 (cu (gR σ) (gN σ) nu))) 2) nu (cu (gR σ) (gN σ) nu) hM hg hz127 (by omega) hsp.1 (hsp.2.1.trans hI.sm) hI.r0 hI.so hcu hne) k_X4_put_X4_pageFor (by decide) hM.mm hM.fm rfl rfl rfl hl rfl (Nat.le_of_ble_eq_true rfl) (by decide) rfl rfl dX4_put_132 (fun v L1 f1 H locs w hp => ?_)
                  obtain ⟨rfl, rfl, hp⟩ := hp
                  subst hp
                  show W p l e _ s m _ below meth c _ _ _ _ _ (F0 m 135 ls [.int (iI (pw (uI (ins (gZ σ) ((pw (gZ σ) (gK σ) (pp1 (cu (gR σ) (gN σ) nu))) + 1) 2) (pw (gZ σ) (gK σ) (pp1 (cu (gR σ) (gN σ) nu))) 2) ((gK σ) + 1) (pp1 (cu (gR σ) (gN σ) nu))))])
                  have hpgb := pw_is (z := (uI (ins (gZ σ) ((pw (gZ σ) (gK σ) (pp1 (cu (gR σ) (gN σ) nu))) + 1) 2) (pw (gZ σ) (gK σ) (pp1 (cu (gR σ) (gN σ) nu))) 2)) (k := (gK σ) + 1) (p := pp1 (cu (gR σ) (gN σ) nu)) (fun j a b => by have h9 := hsp.1 j a b; omega) (by omega) (by rw [hsp.2.1, hI.sm]; exact hpr)
                  have hpg1 := hpgb.1
                  have hpg2 := hpgb.2.1
                  have hzq2 := hsp.1 _ hpg1 hpg2
                  refine x_is (lv' := [(5, .int (iI (pw (uI (ins (gZ σ) ((pw (gZ σ) (gK σ) (pp1 (cu (gR σ) (gN σ) nu))) + 1) 2) (pw (gZ σ) (gK σ) (pp1 (cu (gR σ) (gN σ) nu))) 2) ((gK σ) + 1) (pp1 (cu (gR σ) (gN σ) nu))))), (4, .int (iI 1)), (0, .ref mo), (1, .int (iI nu)), (2, .int (iI su)), (3, .int (iI sy))]) X hl (by decide) rfl dX4_put_135 (fun ls hl => ?_)
                  have hsK : spK (gZ σ) (gK σ) (cu (gR σ) (gN σ) nu) = gK σ + 1 := if_pos (by omega)
                  have hsZ : spZ (gZ σ) (gK σ) (cu (gR σ) (gN σ) nu) = uI (ins (gZ σ) ((pw (gZ σ) (gK σ) (pp1 (cu (gR σ) (gN σ) nu))) + 1) 2) (pw (gZ σ) (gK σ) (pp1 (cu (gR σ) (gN σ) nu))) 2 := (if_pos (by omega)).trans (by rw [show gZ σ (pw (gZ σ) (gK σ) (pp1 (cu (gR σ) (gN σ) nu))) - 2 = 2 from by omega])
                  refine x_al_n X hl 2 rfl rfl dX4_put_137 ?_
                  refine x_get X w hM.mm hM.fm fq_X4_put_25 rfl dX4_put_138 ?_
                  refine x_il X hl 0 rfl dX4_put_141 ?_
                  refine x_dup2 X rfl rfl dX4_put_143 ?_
                  refine x_ialdv (v := (uI (ins (gZ σ) ((pw (gZ σ) (gK σ) (pp1 (cu (gR σ) (gN σ) nu))) + 1) 2) (pw (gZ σ) (gK σ) (pp1 (cu (gR σ) (gN σ) nu))) 2) (pw (uI (ins (gZ σ) ((pw (gZ σ) (gK σ) (pp1 (cu (gR σ) (gN σ) nu))) + 1) 2) (pw (gZ σ) (gK σ) (pp1 (cu (gR σ) (gN σ) nu))) 2) ((gK σ) + 1) (pp1 (cu (gR σ) (gN σ) nu)))) X w hM.m8 hM.f8 (by omega) (hz127 (pw (uI (ins (gZ σ) ((pw (gZ σ) (gK σ) (pp1 (cu (gR σ) (gN σ) nu))) + 1) 2) (pw (gZ σ) (gK σ) (pp1 (cu (gR σ) (gN σ) nu))) 2) ((gK σ) + 1) (pp1 (cu (gR σ) (gN σ) nu))) (by omega) (by omega)) dX4_put_144 ?_
                  refine x_iconst X dX4_put_145 ?_
                  refine x_iadd X dX4_put_146 ?_
                  refine x_iast X w hM.m8 hM.f8 (by omega) dX4_put_147 (fun H locs w => ?_)
                  obtain ⟨f148, zz148, w, hM, hF, hz148⟩ : ∃ f9 z9, XW D A s.heap L f9 H locs ∧ ML cs L f9 mo B 0 (gN σ) ((gK σ) + 1) (gT σ) (gP σ) (gB σ) (gS σ) g z9 ww ∧ FM f0 f9 mo B ∧ (∀ j, 0 ≤ j → j < (gK σ) + 1 → z9 j = (uI (uI (ins (gZ σ) ((pw (gZ σ) (gK σ) (pp1 (cu (gR σ) (gN σ) nu))) + 1) 2) (pw (gZ σ) (gK σ) (pp1 (cu (gR σ) (gN σ) nu))) 2) (pw (uI (ins (gZ σ) ((pw (gZ σ) (gK σ) (pp1 (cu (gR σ) (gN σ) nu))) + 1) 2) (pw (gZ σ) (gK σ) (pp1 (cu (gR σ) (gN σ) nu))) 2) ((gK σ) + 1) (pp1 (cu (gR σ) (gN σ) nu))) (((uI (ins (gZ σ) ((pw (gZ σ) (gK σ) (pp1 (cu (gR σ) (gN σ) nu))) + 1) 2) (pw (gZ σ) (gK σ) (pp1 (cu (gR σ) (gN σ) nu))) 2) (pw (uI (ins (gZ σ) ((pw (gZ σ) (gK σ) (pp1 (cu (gR σ) (gN σ) nu))) + 1) 2) (pw (gZ σ) (gK σ) (pp1 (cu (gR σ) (gN σ) nu))) 2) ((gK σ) + 1) (pp1 (cu (gR σ) (gN σ) nu)))) + 1)) j) := ⟨_, _, w, hM.zw, hF.a 8, ag_u hz127⟩
                  refine x_iconst X dX4_put_148 ?_
                  refine x_is (lv' := [(6, .int (iI 0)), (5, .int (iI (pw (uI (ins (gZ σ) ((pw (gZ σ) (gK σ) (pp1 (cu (gR σ) (gN σ) nu))) + 1) 2) (pw (gZ σ) (gK σ) (pp1 (cu (gR σ) (gN σ) nu))) 2) ((gK σ) + 1) (pp1 (cu (gR σ) (gN σ) nu))))), (4, .int (iI 1)), (0, .ref mo), (1, .int (iI nu)), (2, .int (iI su)), (3, .int (iI sy))]) X hl (by decide) rfl dX4_put_149 (fun ls hl => ?_)
                  have loop151 : ∀ (N9 : Nat) (i : Int) (H : Heap) (locs : List Loc) (ls : Array Slot), (gN σ - i).toNat < N9 → (0 ≤ i ∧ i ≤ gN σ) → (∀ j, 0 ≤ j → j < i → gR σ j 0 < nu) → XW D A s.heap L f148 H locs → lv_has ls 7 [(0, .ref mo), (1, .int (iI nu)), (2, .int (iI su)), (3, .int (iI sy)), (6, .int (iI i))] → W p l e ({ frames := 3, cells := 0, slots := 0, locals := 58 } : Room) s m ([.ref mo, .int (iI nu), .int (iI su), .int (iI sy)] : List Value).toArray below meth c H locs 0 0 (MQ below (CQ D cs A (fun v L1 f1 => MPi cs L f0 mo B (oPut nu su sy σ) v L1 f1)) ([.ref mo, .int (iI nu), .int (iI su), .int (iI sy)] : List Value).toArray s 0 0 A) (F0 m 151 ls []) := by
                    intro N9
                    induction N9 with
                    | zero => intro i H locs ls h9; exact absurd h9 (Nat.not_lt_zero _)
                    | succ N9 ih151 =>
                      intro i H locs ls h9 hi hj w hl
                      refine x_il X hl 4 rfl dX4_put_151 ?_
                      refine x_al_n X hl 0 rfl rfl dX4_put_153 ?_
                      refine x_get X w hM.mm hM.fm fq_X4_put_42 rfl dX4_put_154 ?_
                      refine x_icmp_ge (tgt := 177) X (by omega) (by decide) dX4_put_157 (fun hb157 => ?_) (fun hb157 => ?_)
                      · have hce : cu (gR σ) (gN σ) nu = i := cu_eq ⟨by omega, by omega, fun j a b => by have h9 := hj j a b; omega, fun h9 => by have h8 := hne i (by omega) h9; omega⟩
                        refine x_al_n X hl 0 rfl rfl dX4_put_177 ?_
                        refine x_il X hl 4 rfl dX4_put_178 ?_
                        refine x_callV (As := [.int (iI i)]) (rest := []) (c1 := 0) (s1 := 0) X w hA (c_X4_moveUp l D cs L f148 mo B 0 (gN σ) ((gK σ) + 1) (gT σ) (gP σ) (gB σ) (gS σ) g zz148 ww i hM (by omega)) k_X4_put_X4_moveUp (by decide) hM.mm hM.fm rfl rfl rfl hl rfl (Nat.le_of_ble_eq_true rfl) (by decide) rfl rfl dX4_put_180 (fun v L1 f1 H locs w hp => ?_)
                        obtain ⟨rfl, rfl, hfm, g180, hM, hgm⟩ := hp
                        have hF := hF.tr hfm
                        show W p l e _ s m _ below meth c _ _ _ _ _ (F0 m 183 ls [])
                        refine x_al_n X hl 0 rfl rfl dX4_put_183 ?_
                        refine x_get X w hM.mm hM.fm fq_X4_put_7 rfl dX4_put_184 ?_
                        refine x_il X hl 4 rfl dX4_put_187 ?_
                        refine x_il_n X hl 1 rfl rfl dX4_put_189 ?_
                        refine x_iast X w hM.m2 hM.f2 (by omega) dX4_put_190 (fun H locs w => ?_)
                        obtain ⟨f191, g191, w, hM, hF, hge191⟩ : ∃ f9 g9, XW D A s.heap L f9 H locs ∧ ML cs L f9 mo B 0 (gN σ) ((gK σ) + 1) (gT σ) (gP σ) (gB σ) (gS σ) g9 zz148 ww ∧ FM f0 f9 mo B ∧ g9 = uG g180 0 i nu := ⟨_, _, w, ML.w2 hM, FM.a 2 hF, rfl⟩
                        refine x_al_n X hl 0 rfl rfl dX4_put_191 ?_
                        refine x_get X w hM.mm hM.fm fq_X4_put_13 rfl dX4_put_192 ?_
                        refine x_il X hl 4 rfl dX4_put_195 ?_
                        refine x_il_n X hl 2 rfl rfl dX4_put_197 ?_
                        refine x_iast X w hM.m3 hM.f3 (by omega) dX4_put_198 (fun H locs w => ?_)
                        obtain ⟨f199, g199, w, hM, hF, hge199⟩ : ∃ f9 g9, XW D A s.heap L f9 H locs ∧ ML cs L f9 mo B 0 (gN σ) ((gK σ) + 1) (gT σ) (gP σ) (gB σ) (gS σ) g9 zz148 ww ∧ FM f0 f9 mo B ∧ g9 = uG g191 1 i su := ⟨_, _, w, ML.w3 hM, FM.a 3 hF, rfl⟩
                        refine x_al_n X hl 0 rfl rfl dX4_put_199 ?_
                        refine x_get X w hM.mm hM.fm fq_X4_put_16 rfl dX4_put_200 ?_
                        refine x_il X hl 4 rfl dX4_put_203 ?_
                        refine x_il_n X hl 3 rfl rfl dX4_put_205 ?_
                        refine x_iast X w hM.m4 hM.f4 (by omega) dX4_put_206 (fun H locs w => ?_)
                        obtain ⟨f207, g207, w, hM, hF, hge207⟩ : ∃ f9 g9, XW D A s.heap L f9 H locs ∧ ML cs L f9 mo B 0 (gN σ) ((gK σ) + 1) (gT σ) (gP σ) (gB σ) (gS σ) g9 zz148 ww ∧ FM f0 f9 mo B ∧ g9 = uG g199 2 i sy := ⟨_, _, w, ML.w4 hM, FM.a 4 hF, rfl⟩
                        refine x_al_n X hl 0 rfl rfl dX4_put_207 ?_
                        refine x_get X w hM.mm hM.fm fq_X4_put_19 rfl dX4_put_208 ?_
                        refine x_il X hl 4 rfl dX4_put_211 ?_
                        refine x_al_n X hl 0 rfl rfl dX4_put_213 ?_
                        refine x_get X w hM.mm hM.fm fq_X4_put_76 rfl dX4_put_214 ?_
                        refine x_iast X w hM.m5 hM.f5 (by omega) dX4_put_217 (fun H locs w => ?_)
                        obtain ⟨f218, g218, w, hM, hF, hge218⟩ : ∃ f9 g9, XW D A s.heap L f9 H locs ∧ ML cs L f9 mo B 0 (gN σ) ((gK σ) + 1) (gT σ) (gP σ) (gB σ) (gS σ) g9 zz148 ww ∧ FM f0 f9 mo B ∧ g9 = uG g207 3 i (gT σ) := ⟨_, _, w, ML.w5 hM, FM.a 5 hF, rfl⟩
                        refine x_al_n X hl 0 rfl rfl dX4_put_218 ?_
                        refine x_get X w hM.mm hM.fm fq_X4_put_22 rfl dX4_put_219 ?_
                        refine x_il X hl 4 rfl dX4_put_222 ?_
                        refine x_iconst X dX4_put_224 ?_
                        refine x_iast X w hM.m6 hM.f6 (by omega) dX4_put_225 (fun H locs w => ?_)
                        obtain ⟨f226, g226, w, hM, hF, hge226⟩ : ∃ f9 g9, XW D A s.heap L f9 H locs ∧ ML cs L f9 mo B 0 (gN σ) ((gK σ) + 1) (gT σ) (gP σ) (gB σ) (gS σ) g9 zz148 ww ∧ FM f0 f9 mo B ∧ g9 = uG g218 4 i (-1) := ⟨_, _, w, ML.w6 hM, FM.a 6 hF, rfl⟩
                        refine x_al_n X hl 0 rfl rfl dX4_put_226 ?_
                        refine x_dup X rfl dX4_put_227 ?_
                        refine x_get X w hM.mm hM.fm fq_X4_put_42 rfl dX4_put_228 ?_
                        refine x_iconst X dX4_put_231 ?_
                        refine x_iadd X dX4_put_232 ?_
                        refine x_put X w hM.mm hM.fm fp_X4_put_42 rfl rfl (Nat.le_of_ble_eq_true rfl) rfl dX4_put_233 (fun H locs w => ?_)
                        obtain ⟨f236, w, hM, hF⟩ : ∃ f9, XW D A s.heap L f9 H locs ∧ ML cs L f9 mo B 0 ((gN σ) + 1) ((gK σ) + 1) (gT σ) (gP σ) (gB σ) (gS σ) g226 zz148 ww ∧ FM f0 f9 mo B := ⟨_, w, hM.fld _ _ _ _ _ _ _, hF.m⟩
                        refine x_al_n X hl 0 rfl rfl dX4_put_236 ?_
                        refine x_get X w hM.mm hM.fm fq_X4_put_45 rfl dX4_put_237 ?_
                        refine x_iret X w hr hlk ⟨by decide, by decide⟩ dX4_put_240 ?_
                        have ho : oPut nu su sy σ = (0, gK (oIns nu su sy σ), oIns nu su sy σ) := (if_pos (by omega)).trans (if_neg (show ¬ (qF nu σ ≠ -1 ∨ 80 ≤ gN σ) from fun h9 => h9.elim (fun h8 => h8 hb51) (fun h8 => by omega)))
                        have hR9 : ∀ j, 0 ≤ j → j < gN σ + 1 → ∀ c, c < 5 → g226 c j = ins (gR σ) (cu (gR σ) (gN σ) nu) (nR nu su sy (gT σ)) j c := by
                          rw [hce]
                          exact nw_g hn.1 (by omega) hg hgm (by rw [hge226, hge218, hge207, hge199, hge191])
                        have eK : adK (spK (gZ σ) (gK σ) (cu (gR σ) (gN σ) nu)) = (gK σ) + 1 := by rw [hsK]; exact if_neg (by omega)
                        have eZ : adZ (spZ (gZ σ) (gK σ) (cu (gR σ) (gN σ) nu)) (spK (gZ σ) (gK σ) (cu (gR σ) (gN σ) nu)) (cu (gR σ) (gN σ) nu) = uI (uI (ins (gZ σ) ((pw (gZ σ) (gK σ) (pp1 (cu (gR σ) (gN σ) nu))) + 1) 2) (pw (gZ σ) (gK σ) (pp1 (cu (gR σ) (gN σ) nu))) 2) (pw (uI (ins (gZ σ) ((pw (gZ σ) (gK σ) (pp1 (cu (gR σ) (gN σ) nu))) + 1) 2) (pw (gZ σ) (gK σ) (pp1 (cu (gR σ) (gN σ) nu))) 2) ((gK σ) + 1) (pp1 (cu (gR σ) (gN σ) nu))) (((uI (ins (gZ σ) ((pw (gZ σ) (gK σ) (pp1 (cu (gR σ) (gN σ) nu))) + 1) 2) (pw (gZ σ) (gK σ) (pp1 (cu (gR σ) (gN σ) nu))) 2) (pw (uI (ins (gZ σ) ((pw (gZ σ) (gK σ) (pp1 (cu (gR σ) (gN σ) nu))) + 1) 2) (pw (gZ σ) (gK σ) (pp1 (cu (gR σ) (gN σ) nu))) 2) ((gK σ) + 1) (pp1 (cu (gR σ) (gN σ) nu)))) + 1) := by rw [hsK, hsZ]; exact if_neg (by omega)
                        have hz9 := hz148
                        rw [ho]
                        refine ⟨?_, rfl, hF, g226, zz148, ww, ?_, hR9, ?_, hw⟩
                        · show _ = some (Value.int (iI (adK (spK (gZ σ) (gK σ) (cu (gR σ) (gN σ) nu)))))
                          rw [eK]
                        · show ML cs L _ mo B 0 _ (adK (spK (gZ σ) (gK σ) (cu (gR σ) (gN σ) nu))) _ _ _ _ _ _ _
                          rw [eK]; exact hM
                        · show ∀ j, 0 ≤ j → j < adK (spK (gZ σ) (gK σ) (cu (gR σ) (gN σ) nu)) → _ = adZ (spZ (gZ σ) (gK σ) (cu (gR σ) (gN σ) nu)) (spK (gZ σ) (gK σ) (cu (gR σ) (gN σ) nu)) (cu (gR σ) (gN σ) nu) j
                          rw [eK, eZ]; exact hz9
                      · have hq0 := hI.r0 i (by omega) (by omega)
                        refine x_al_n X hl 0 rfl rfl dX4_put_160 ?_
                        refine x_get X w hM.mm hM.fm fq_X4_put_7 rfl dX4_put_161 ?_
                        refine x_il X hl 4 rfl dX4_put_164 ?_
                        refine x_ialdv (v := (gR σ) i 0) X w hM.m2 hM.f2 (by omega) (hg i (by omega) (by omega) 0 (by decide)) dX4_put_166 ?_
                        refine x_il_n X hl 1 rfl rfl dX4_put_167 ?_
                        refine x_icmp_ge (tgt := 177) X (by omega) (by decide) dX4_put_168 (fun hb168 => ?_) (fun hb168 => ?_)
                        · have hce : cu (gR σ) (gN σ) nu = i := cu_eq ⟨by omega, by omega, fun j a b => by have h9 := hj j a b; omega, fun h9 => by have h8 := hne i (by omega) h9; omega⟩
                          refine x_al_n X hl 0 rfl rfl dX4_put_177 ?_
                          refine x_il X hl 4 rfl dX4_put_178 ?_
                          refine x_callV (As := [.int (iI i)]) (rest := []) (c1 := 0) (s1 := 0) X w hA (c_X4_moveUp l D cs L f148 mo B 0 (gN σ) ((gK σ) + 1) (gT σ) (gP σ) (gB σ) (gS σ) g zz148 ww i hM (by omega)) k_X4_put_X4_moveUp (by decide) hM.mm hM.fm rfl rfl rfl hl rfl (Nat.le_of_ble_eq_true rfl) (by decide) rfl rfl dX4_put_180 (fun v L1 f1 H locs w hp => ?_)
                          obtain ⟨rfl, rfl, hfm, g180, hM, hgm⟩ := hp
                          have hF := hF.tr hfm
                          show W p l e _ s m _ below meth c _ _ _ _ _ (F0 m 183 ls [])
                          refine x_al_n X hl 0 rfl rfl dX4_put_183 ?_
                          refine x_get X w hM.mm hM.fm fq_X4_put_7 rfl dX4_put_184 ?_
                          refine x_il X hl 4 rfl dX4_put_187 ?_
                          refine x_il_n X hl 1 rfl rfl dX4_put_189 ?_
                          refine x_iast X w hM.m2 hM.f2 (by omega) dX4_put_190 (fun H locs w => ?_)
                          obtain ⟨f191, g191, w, hM, hF, hge191⟩ : ∃ f9 g9, XW D A s.heap L f9 H locs ∧ ML cs L f9 mo B 0 (gN σ) ((gK σ) + 1) (gT σ) (gP σ) (gB σ) (gS σ) g9 zz148 ww ∧ FM f0 f9 mo B ∧ g9 = uG g180 0 i nu := ⟨_, _, w, ML.w2 hM, FM.a 2 hF, rfl⟩
                          refine x_al_n X hl 0 rfl rfl dX4_put_191 ?_
                          refine x_get X w hM.mm hM.fm fq_X4_put_13 rfl dX4_put_192 ?_
                          refine x_il X hl 4 rfl dX4_put_195 ?_
                          refine x_il_n X hl 2 rfl rfl dX4_put_197 ?_
                          refine x_iast X w hM.m3 hM.f3 (by omega) dX4_put_198 (fun H locs w => ?_)
                          obtain ⟨f199, g199, w, hM, hF, hge199⟩ : ∃ f9 g9, XW D A s.heap L f9 H locs ∧ ML cs L f9 mo B 0 (gN σ) ((gK σ) + 1) (gT σ) (gP σ) (gB σ) (gS σ) g9 zz148 ww ∧ FM f0 f9 mo B ∧ g9 = uG g191 1 i su := ⟨_, _, w, ML.w3 hM, FM.a 3 hF, rfl⟩
                          refine x_al_n X hl 0 rfl rfl dX4_put_199 ?_
                          refine x_get X w hM.mm hM.fm fq_X4_put_16 rfl dX4_put_200 ?_
                          refine x_il X hl 4 rfl dX4_put_203 ?_
                          refine x_il_n X hl 3 rfl rfl dX4_put_205 ?_
                          refine x_iast X w hM.m4 hM.f4 (by omega) dX4_put_206 (fun H locs w => ?_)
                          obtain ⟨f207, g207, w, hM, hF, hge207⟩ : ∃ f9 g9, XW D A s.heap L f9 H locs ∧ ML cs L f9 mo B 0 (gN σ) ((gK σ) + 1) (gT σ) (gP σ) (gB σ) (gS σ) g9 zz148 ww ∧ FM f0 f9 mo B ∧ g9 = uG g199 2 i sy := ⟨_, _, w, ML.w4 hM, FM.a 4 hF, rfl⟩
                          refine x_al_n X hl 0 rfl rfl dX4_put_207 ?_
                          refine x_get X w hM.mm hM.fm fq_X4_put_19 rfl dX4_put_208 ?_
                          refine x_il X hl 4 rfl dX4_put_211 ?_
                          refine x_al_n X hl 0 rfl rfl dX4_put_213 ?_
                          refine x_get X w hM.mm hM.fm fq_X4_put_76 rfl dX4_put_214 ?_
                          refine x_iast X w hM.m5 hM.f5 (by omega) dX4_put_217 (fun H locs w => ?_)
                          obtain ⟨f218, g218, w, hM, hF, hge218⟩ : ∃ f9 g9, XW D A s.heap L f9 H locs ∧ ML cs L f9 mo B 0 (gN σ) ((gK σ) + 1) (gT σ) (gP σ) (gB σ) (gS σ) g9 zz148 ww ∧ FM f0 f9 mo B ∧ g9 = uG g207 3 i (gT σ) := ⟨_, _, w, ML.w5 hM, FM.a 5 hF, rfl⟩
                          refine x_al_n X hl 0 rfl rfl dX4_put_218 ?_
                          refine x_get X w hM.mm hM.fm fq_X4_put_22 rfl dX4_put_219 ?_
                          refine x_il X hl 4 rfl dX4_put_222 ?_
                          refine x_iconst X dX4_put_224 ?_
                          refine x_iast X w hM.m6 hM.f6 (by omega) dX4_put_225 (fun H locs w => ?_)
                          obtain ⟨f226, g226, w, hM, hF, hge226⟩ : ∃ f9 g9, XW D A s.heap L f9 H locs ∧ ML cs L f9 mo B 0 (gN σ) ((gK σ) + 1) (gT σ) (gP σ) (gB σ) (gS σ) g9 zz148 ww ∧ FM f0 f9 mo B ∧ g9 = uG g218 4 i (-1) := ⟨_, _, w, ML.w6 hM, FM.a 6 hF, rfl⟩
                          refine x_al_n X hl 0 rfl rfl dX4_put_226 ?_
                          refine x_dup X rfl dX4_put_227 ?_
                          refine x_get X w hM.mm hM.fm fq_X4_put_42 rfl dX4_put_228 ?_
                          refine x_iconst X dX4_put_231 ?_
                          refine x_iadd X dX4_put_232 ?_
                          refine x_put X w hM.mm hM.fm fp_X4_put_42 rfl rfl (Nat.le_of_ble_eq_true rfl) rfl dX4_put_233 (fun H locs w => ?_)
                          obtain ⟨f236, w, hM, hF⟩ : ∃ f9, XW D A s.heap L f9 H locs ∧ ML cs L f9 mo B 0 ((gN σ) + 1) ((gK σ) + 1) (gT σ) (gP σ) (gB σ) (gS σ) g226 zz148 ww ∧ FM f0 f9 mo B := ⟨_, w, hM.fld _ _ _ _ _ _ _, hF.m⟩
                          refine x_al_n X hl 0 rfl rfl dX4_put_236 ?_
                          refine x_get X w hM.mm hM.fm fq_X4_put_45 rfl dX4_put_237 ?_
                          refine x_iret X w hr hlk ⟨by decide, by decide⟩ dX4_put_240 ?_
                          have ho : oPut nu su sy σ = (0, gK (oIns nu su sy σ), oIns nu su sy σ) := (if_pos (by omega)).trans (if_neg (show ¬ (qF nu σ ≠ -1 ∨ 80 ≤ gN σ) from fun h9 => h9.elim (fun h8 => h8 hb51) (fun h8 => by omega)))
                          have hR9 : ∀ j, 0 ≤ j → j < gN σ + 1 → ∀ c, c < 5 → g226 c j = ins (gR σ) (cu (gR σ) (gN σ) nu) (nR nu su sy (gT σ)) j c := by
                            rw [hce]
                            exact nw_g hn.1 (by omega) hg hgm (by rw [hge226, hge218, hge207, hge199, hge191])
                          have eK : adK (spK (gZ σ) (gK σ) (cu (gR σ) (gN σ) nu)) = (gK σ) + 1 := by rw [hsK]; exact if_neg (by omega)
                          have eZ : adZ (spZ (gZ σ) (gK σ) (cu (gR σ) (gN σ) nu)) (spK (gZ σ) (gK σ) (cu (gR σ) (gN σ) nu)) (cu (gR σ) (gN σ) nu) = uI (uI (ins (gZ σ) ((pw (gZ σ) (gK σ) (pp1 (cu (gR σ) (gN σ) nu))) + 1) 2) (pw (gZ σ) (gK σ) (pp1 (cu (gR σ) (gN σ) nu))) 2) (pw (uI (ins (gZ σ) ((pw (gZ σ) (gK σ) (pp1 (cu (gR σ) (gN σ) nu))) + 1) 2) (pw (gZ σ) (gK σ) (pp1 (cu (gR σ) (gN σ) nu))) 2) ((gK σ) + 1) (pp1 (cu (gR σ) (gN σ) nu))) (((uI (ins (gZ σ) ((pw (gZ σ) (gK σ) (pp1 (cu (gR σ) (gN σ) nu))) + 1) 2) (pw (gZ σ) (gK σ) (pp1 (cu (gR σ) (gN σ) nu))) 2) (pw (uI (ins (gZ σ) ((pw (gZ σ) (gK σ) (pp1 (cu (gR σ) (gN σ) nu))) + 1) 2) (pw (gZ σ) (gK σ) (pp1 (cu (gR σ) (gN σ) nu))) 2) ((gK σ) + 1) (pp1 (cu (gR σ) (gN σ) nu)))) + 1) := by rw [hsK, hsZ]; exact if_neg (by omega)
                          have hz9 := hz148
                          rw [ho]
                          refine ⟨?_, rfl, hF, g226, zz148, ww, ?_, hR9, ?_, hw⟩
                          · show _ = some (Value.int (iI (adK (spK (gZ σ) (gK σ) (cu (gR σ) (gN σ) nu)))))
                            rw [eK]
                          · show ML cs L _ mo B 0 _ (adK (spK (gZ σ) (gK σ) (cu (gR σ) (gN σ) nu))) _ _ _ _ _ _ _
                            rw [eK]; exact hM
                          · show ∀ j, 0 ≤ j → j < adK (spK (gZ σ) (gK σ) (cu (gR σ) (gN σ) nu)) → _ = adZ (spZ (gZ σ) (gK σ) (cu (gR σ) (gN σ) nu)) (spK (gZ σ) (gK σ) (cu (gR σ) (gN σ) nu)) (cu (gR σ) (gN σ) nu) j
                            rw [eK, eZ]; exact hz9
                        · refine x_iinc (lv' := [(6, .int (iI (i + 1))), (0, .ref mo), (1, .int (iI nu)), (2, .int (iI su)), (3, .int (iI sy))]) X hl 4 rfl (by decide) rfl dX4_put_171 (fun ls hl => ?_)
                          refine x_goto (tgt := 151) X (by decide) dX4_put_174 ?_
                          refine ih151 (i + 1) _ _ _ (by omega) (by omega) ?_ w (lv_sub hl [1, 2, 3, 4, 0] rfl)
                          · intro j h1 h2
                            by_cases h3 : j = i
                            · subst h3; omega
                            · exact hj j h1 (by omega)
                  refine loop151 _ 0 _ _ _ (Nat.lt_succ_self _) (by omega) (fun j h1 h2 => absurd h2 (by omega)) w (lv_sub hl [3, 4, 5, 6, 0] rfl)
              · refine x_al_n X hl 1 rfl rfl dX4_put_83 ?_
                refine x_iconst X dX4_put_84 ?_
                refine x_put X w hM.mm hM.fm fp_X4_put_45 rfl rfl (Nat.le_of_ble_eq_true rfl) rfl dX4_put_85 (fun H locs w => ?_)
                obtain ⟨f88, w, hM, hF⟩ : ∃ f9, XW D A s.heap L f9 H locs ∧ ML cs L f9 mo B 0 (gN σ) 1 (gT σ) (gP σ) (gB σ) (gS σ) g zz ww ∧ FM f0 f9 mo B := ⟨_, w, hM.fld _ _ _ _ _ _ _, hF.m⟩
                refine x_al_n X hl 1 rfl rfl dX4_put_88 ?_
                refine x_get X w hM.mm hM.fm fq_X4_put_25 rfl dX4_put_89 ?_
                refine x_iconst X dX4_put_92 ?_
                refine x_iconst X dX4_put_93 ?_
                refine x_iast X w hM.m8 hM.f8 (by omega) dX4_put_94 (fun H locs w => ?_)
                obtain ⟨f95, zz95, w, hM, hF, hz95⟩ : ∃ f9 z9, XW D A s.heap L f9 H locs ∧ ML cs L f9 mo B 0 (gN σ) 1 (gT σ) (gP σ) (gB σ) (gS σ) g z9 ww ∧ FM f0 f9 mo B ∧ z9 = uI zz 0 0 := ⟨_, _, w, hM.zw, hF.a 8, rfl⟩
                have hz0 : zz95 0 = 0 := by rw [hz95]; exact uI_s _ _ _
                have hn0 : gN σ = 0 := by
                  have h9 := hI.sm
                  rw [hb80, sm_0] at h9
                  exact h9.symm
                refine x_al_n X hl 1 rfl rfl dX4_put_95 ?_
                refine x_get X w hM.mm hM.fm fq_X4_put_42 rfl dX4_put_96 ?_
                refine x_ifF_ne (tgt := 106) X (by omega) (by omega) (by decide) dX4_put_99 ?_
                refine x_iconst X dX4_put_102 ?_
                refine x_goto (tgt := 111) X (by decide) dX4_put_103 ?_
                refine x_is (lv' := [(5, .int (iI 0)), (4, .int (iI 1)), (0, .ref mo), (1, .int (iI nu)), (2, .int (iI su)), (3, .int (iI sy))]) X hl (by decide) rfl dX4_put_111 (fun ls hl => ?_)
                have hsK : spK (gZ σ) (gK σ) (cu (gR σ) (gN σ) nu) = gK σ := if_neg (by omega)
                have hsZ : spZ (gZ σ) (gK σ) (cu (gR σ) (gN σ) nu) = gZ σ := if_neg (by omega)
                refine x_al_n X hl 2 rfl rfl dX4_put_113 ?_
                refine x_get X w hM.mm hM.fm fq_X4_put_25 rfl dX4_put_114 ?_
                refine x_il X hl 0 rfl dX4_put_117 ?_
                refine x_ialdv (v := zz95 0) X w hM.m8 hM.f8 (by omega) (rfl) dX4_put_119 ?_
                refine x_iconst X dX4_put_120 ?_
                refine x_icmpT_ne (tgt := 137) X (by omega) (by omega) (by decide) dX4_put_121 ?_
                refine x_al_n X hl 2 rfl rfl dX4_put_137 ?_
                refine x_get X w hM.mm hM.fm fq_X4_put_25 rfl dX4_put_138 ?_
                refine x_il X hl 0 rfl dX4_put_141 ?_
                refine x_dup2 X rfl rfl dX4_put_143 ?_
                refine x_ialdv (v := zz95 0) X w hM.m8 hM.f8 (by omega) (rfl) dX4_put_144 ?_
                refine x_iconst X dX4_put_145 ?_
                refine x_iadd X dX4_put_146 ?_
                refine x_iast X w hM.m8 hM.f8 (by omega) dX4_put_147 (fun H locs w => ?_)
                obtain ⟨f148, zz148, w, hM, hF, hz148⟩ : ∃ f9 z9, XW D A s.heap L f9 H locs ∧ ML cs L f9 mo B 0 (gN σ) 1 (gT σ) (gP σ) (gB σ) (gS σ) g z9 ww ∧ FM f0 f9 mo B ∧ z9 = uI zz95 0 ((zz95 0) + 1) := ⟨_, _, w, hM.zw, hF.a 8, rfl⟩
                refine x_iconst X dX4_put_148 ?_
                refine x_is (lv' := [(6, .int (iI 0)), (5, .int (iI 0)), (4, .int (iI 1)), (0, .ref mo), (1, .int (iI nu)), (2, .int (iI su)), (3, .int (iI sy))]) X hl (by decide) rfl dX4_put_149 (fun ls hl => ?_)
                have loop151 : ∀ (N9 : Nat) (i : Int) (H : Heap) (locs : List Loc) (ls : Array Slot), (gN σ - i).toNat < N9 → (0 ≤ i ∧ i ≤ gN σ) → (∀ j, 0 ≤ j → j < i → gR σ j 0 < nu) → XW D A s.heap L f148 H locs → lv_has ls 7 [(0, .ref mo), (1, .int (iI nu)), (2, .int (iI su)), (3, .int (iI sy)), (6, .int (iI i))] → W p l e ({ frames := 3, cells := 0, slots := 0, locals := 58 } : Room) s m ([.ref mo, .int (iI nu), .int (iI su), .int (iI sy)] : List Value).toArray below meth c H locs 0 0 (MQ below (CQ D cs A (fun v L1 f1 => MPi cs L f0 mo B (oPut nu su sy σ) v L1 f1)) ([.ref mo, .int (iI nu), .int (iI su), .int (iI sy)] : List Value).toArray s 0 0 A) (F0 m 151 ls []) := by
                  intro N9
                  induction N9 with
                  | zero => intro i H locs ls h9; exact absurd h9 (Nat.not_lt_zero _)
                  | succ N9 ih151 =>
                    intro i H locs ls h9 hi hj w hl
                    refine x_il X hl 4 rfl dX4_put_151 ?_
                    refine x_al_n X hl 0 rfl rfl dX4_put_153 ?_
                    refine x_get X w hM.mm hM.fm fq_X4_put_42 rfl dX4_put_154 ?_
                    refine x_icmp_ge (tgt := 177) X (by omega) (by decide) dX4_put_157 (fun hb157 => ?_) (fun hb157 => ?_)
                    · have hce : cu (gR σ) (gN σ) nu = i := cu_eq ⟨by omega, by omega, fun j a b => by have h9 := hj j a b; omega, fun h9 => by have h8 := hne i (by omega) h9; omega⟩
                      refine x_al_n X hl 0 rfl rfl dX4_put_177 ?_
                      refine x_il X hl 4 rfl dX4_put_178 ?_
                      refine x_callV (As := [.int (iI i)]) (rest := []) (c1 := 0) (s1 := 0) X w hA (c_X4_moveUp l D cs L f148 mo B 0 (gN σ) 1 (gT σ) (gP σ) (gB σ) (gS σ) g zz148 ww i hM (by omega)) k_X4_put_X4_moveUp (by decide) hM.mm hM.fm rfl rfl rfl hl rfl (Nat.le_of_ble_eq_true rfl) (by decide) rfl rfl dX4_put_180 (fun v L1 f1 H locs w hp => ?_)
                      obtain ⟨rfl, rfl, hfm, g180, hM, hgm⟩ := hp
                      have hF := hF.tr hfm
                      show W p l e _ s m _ below meth c _ _ _ _ _ (F0 m 183 ls [])
                      refine x_al_n X hl 0 rfl rfl dX4_put_183 ?_
                      refine x_get X w hM.mm hM.fm fq_X4_put_7 rfl dX4_put_184 ?_
                      refine x_il X hl 4 rfl dX4_put_187 ?_
                      refine x_il_n X hl 1 rfl rfl dX4_put_189 ?_
                      refine x_iast X w hM.m2 hM.f2 (by omega) dX4_put_190 (fun H locs w => ?_)
                      obtain ⟨f191, g191, w, hM, hF, hge191⟩ : ∃ f9 g9, XW D A s.heap L f9 H locs ∧ ML cs L f9 mo B 0 (gN σ) 1 (gT σ) (gP σ) (gB σ) (gS σ) g9 zz148 ww ∧ FM f0 f9 mo B ∧ g9 = uG g180 0 i nu := ⟨_, _, w, ML.w2 hM, FM.a 2 hF, rfl⟩
                      refine x_al_n X hl 0 rfl rfl dX4_put_191 ?_
                      refine x_get X w hM.mm hM.fm fq_X4_put_13 rfl dX4_put_192 ?_
                      refine x_il X hl 4 rfl dX4_put_195 ?_
                      refine x_il_n X hl 2 rfl rfl dX4_put_197 ?_
                      refine x_iast X w hM.m3 hM.f3 (by omega) dX4_put_198 (fun H locs w => ?_)
                      obtain ⟨f199, g199, w, hM, hF, hge199⟩ : ∃ f9 g9, XW D A s.heap L f9 H locs ∧ ML cs L f9 mo B 0 (gN σ) 1 (gT σ) (gP σ) (gB σ) (gS σ) g9 zz148 ww ∧ FM f0 f9 mo B ∧ g9 = uG g191 1 i su := ⟨_, _, w, ML.w3 hM, FM.a 3 hF, rfl⟩
                      refine x_al_n X hl 0 rfl rfl dX4_put_199 ?_
                      refine x_get X w hM.mm hM.fm fq_X4_put_16 rfl dX4_put_200 ?_
                      refine x_il X hl 4 rfl dX4_put_203 ?_
                      refine x_il_n X hl 3 rfl rfl dX4_put_205 ?_
                      refine x_iast X w hM.m4 hM.f4 (by omega) dX4_put_206 (fun H locs w => ?_)
                      obtain ⟨f207, g207, w, hM, hF, hge207⟩ : ∃ f9 g9, XW D A s.heap L f9 H locs ∧ ML cs L f9 mo B 0 (gN σ) 1 (gT σ) (gP σ) (gB σ) (gS σ) g9 zz148 ww ∧ FM f0 f9 mo B ∧ g9 = uG g199 2 i sy := ⟨_, _, w, ML.w4 hM, FM.a 4 hF, rfl⟩
                      refine x_al_n X hl 0 rfl rfl dX4_put_207 ?_
                      refine x_get X w hM.mm hM.fm fq_X4_put_19 rfl dX4_put_208 ?_
                      refine x_il X hl 4 rfl dX4_put_211 ?_
                      refine x_al_n X hl 0 rfl rfl dX4_put_213 ?_
                      refine x_get X w hM.mm hM.fm fq_X4_put_76 rfl dX4_put_214 ?_
                      refine x_iast X w hM.m5 hM.f5 (by omega) dX4_put_217 (fun H locs w => ?_)
                      obtain ⟨f218, g218, w, hM, hF, hge218⟩ : ∃ f9 g9, XW D A s.heap L f9 H locs ∧ ML cs L f9 mo B 0 (gN σ) 1 (gT σ) (gP σ) (gB σ) (gS σ) g9 zz148 ww ∧ FM f0 f9 mo B ∧ g9 = uG g207 3 i (gT σ) := ⟨_, _, w, ML.w5 hM, FM.a 5 hF, rfl⟩
                      refine x_al_n X hl 0 rfl rfl dX4_put_218 ?_
                      refine x_get X w hM.mm hM.fm fq_X4_put_22 rfl dX4_put_219 ?_
                      refine x_il X hl 4 rfl dX4_put_222 ?_
                      refine x_iconst X dX4_put_224 ?_
                      refine x_iast X w hM.m6 hM.f6 (by omega) dX4_put_225 (fun H locs w => ?_)
                      obtain ⟨f226, g226, w, hM, hF, hge226⟩ : ∃ f9 g9, XW D A s.heap L f9 H locs ∧ ML cs L f9 mo B 0 (gN σ) 1 (gT σ) (gP σ) (gB σ) (gS σ) g9 zz148 ww ∧ FM f0 f9 mo B ∧ g9 = uG g218 4 i (-1) := ⟨_, _, w, ML.w6 hM, FM.a 6 hF, rfl⟩
                      refine x_al_n X hl 0 rfl rfl dX4_put_226 ?_
                      refine x_dup X rfl dX4_put_227 ?_
                      refine x_get X w hM.mm hM.fm fq_X4_put_42 rfl dX4_put_228 ?_
                      refine x_iconst X dX4_put_231 ?_
                      refine x_iadd X dX4_put_232 ?_
                      refine x_put X w hM.mm hM.fm fp_X4_put_42 rfl rfl (Nat.le_of_ble_eq_true rfl) rfl dX4_put_233 (fun H locs w => ?_)
                      obtain ⟨f236, w, hM, hF⟩ : ∃ f9, XW D A s.heap L f9 H locs ∧ ML cs L f9 mo B 0 ((gN σ) + 1) 1 (gT σ) (gP σ) (gB σ) (gS σ) g226 zz148 ww ∧ FM f0 f9 mo B := ⟨_, w, hM.fld _ _ _ _ _ _ _, hF.m⟩
                      refine x_al_n X hl 0 rfl rfl dX4_put_236 ?_
                      refine x_get X w hM.mm hM.fm fq_X4_put_45 rfl dX4_put_237 ?_
                      refine x_iret X w hr hlk ⟨by decide, by decide⟩ dX4_put_240 ?_
                      have ho : oPut nu su sy σ = (0, gK (oIns nu su sy σ), oIns nu su sy σ) := (if_pos (by omega)).trans (if_neg (show ¬ (qF nu σ ≠ -1 ∨ 80 ≤ gN σ) from fun h9 => h9.elim (fun h8 => h8 hb51) (fun h8 => by omega)))
                      have hR9 : ∀ j, 0 ≤ j → j < gN σ + 1 → ∀ c, c < 5 → g226 c j = ins (gR σ) (cu (gR σ) (gN σ) nu) (nR nu su sy (gT σ)) j c := by
                        rw [hce]
                        exact nw_g hn.1 (by omega) hg hgm (by rw [hge226, hge218, hge207, hge199, hge191])
                      have eK : adK (spK (gZ σ) (gK σ) (cu (gR σ) (gN σ) nu)) = 1 := by rw [hsK]; exact if_pos hb80
                      have eZ : adZ (spZ (gZ σ) (gK σ) (cu (gR σ) (gN σ) nu)) (spK (gZ σ) (gK σ) (cu (gR σ) (gN σ) nu)) (cu (gR σ) (gN σ) nu) = uI (gZ σ) 0 1 := by rw [hsK, hsZ]; exact if_pos hb80
                      have hz9 : ∀ j, 0 ≤ j → j < 1 → zz148 j = uI (gZ σ) 0 1 j := by
                        intro j a b
                        have e0 : j = 0 := by omega
                        rw [e0, hz148, uI_s, uI_s, hz0]; omega
                      rw [ho]
                      refine ⟨?_, rfl, hF, g226, zz148, ww, ?_, hR9, ?_, hw⟩
                      · show _ = some (Value.int (iI (adK (spK (gZ σ) (gK σ) (cu (gR σ) (gN σ) nu)))))
                        rw [eK]
                      · show ML cs L _ mo B 0 _ (adK (spK (gZ σ) (gK σ) (cu (gR σ) (gN σ) nu))) _ _ _ _ _ _ _
                        rw [eK]; exact hM
                      · show ∀ j, 0 ≤ j → j < adK (spK (gZ σ) (gK σ) (cu (gR σ) (gN σ) nu)) → _ = adZ (spZ (gZ σ) (gK σ) (cu (gR σ) (gN σ) nu)) (spK (gZ σ) (gK σ) (cu (gR σ) (gN σ) nu)) (cu (gR σ) (gN σ) nu) j
                        rw [eK, eZ]; exact hz9
                    · have hq0 := hI.r0 i (by omega) (by omega)
                      refine x_al_n X hl 0 rfl rfl dX4_put_160 ?_
                      refine x_get X w hM.mm hM.fm fq_X4_put_7 rfl dX4_put_161 ?_
                      refine x_il X hl 4 rfl dX4_put_164 ?_
                      refine x_ialdv (v := (gR σ) i 0) X w hM.m2 hM.f2 (by omega) (hg i (by omega) (by omega) 0 (by decide)) dX4_put_166 ?_
                      refine x_il_n X hl 1 rfl rfl dX4_put_167 ?_
                      refine x_icmp_ge (tgt := 177) X (by omega) (by decide) dX4_put_168 (fun hb168 => ?_) (fun hb168 => ?_)
                      · have hce : cu (gR σ) (gN σ) nu = i := cu_eq ⟨by omega, by omega, fun j a b => by have h9 := hj j a b; omega, fun h9 => by have h8 := hne i (by omega) h9; omega⟩
                        refine x_al_n X hl 0 rfl rfl dX4_put_177 ?_
                        refine x_il X hl 4 rfl dX4_put_178 ?_
                        refine x_callV (As := [.int (iI i)]) (rest := []) (c1 := 0) (s1 := 0) X w hA (c_X4_moveUp l D cs L f148 mo B 0 (gN σ) 1 (gT σ) (gP σ) (gB σ) (gS σ) g zz148 ww i hM (by omega)) k_X4_put_X4_moveUp (by decide) hM.mm hM.fm rfl rfl rfl hl rfl (Nat.le_of_ble_eq_true rfl) (by decide) rfl rfl dX4_put_180 (fun v L1 f1 H locs w hp => ?_)
                        obtain ⟨rfl, rfl, hfm, g180, hM, hgm⟩ := hp
                        have hF := hF.tr hfm
                        show W p l e _ s m _ below meth c _ _ _ _ _ (F0 m 183 ls [])
                        refine x_al_n X hl 0 rfl rfl dX4_put_183 ?_
                        refine x_get X w hM.mm hM.fm fq_X4_put_7 rfl dX4_put_184 ?_
                        refine x_il X hl 4 rfl dX4_put_187 ?_
                        refine x_il_n X hl 1 rfl rfl dX4_put_189 ?_
                        refine x_iast X w hM.m2 hM.f2 (by omega) dX4_put_190 (fun H locs w => ?_)
                        obtain ⟨f191, g191, w, hM, hF, hge191⟩ : ∃ f9 g9, XW D A s.heap L f9 H locs ∧ ML cs L f9 mo B 0 (gN σ) 1 (gT σ) (gP σ) (gB σ) (gS σ) g9 zz148 ww ∧ FM f0 f9 mo B ∧ g9 = uG g180 0 i nu := ⟨_, _, w, ML.w2 hM, FM.a 2 hF, rfl⟩
                        refine x_al_n X hl 0 rfl rfl dX4_put_191 ?_
                        refine x_get X w hM.mm hM.fm fq_X4_put_13 rfl dX4_put_192 ?_
                        refine x_il X hl 4 rfl dX4_put_195 ?_
                        refine x_il_n X hl 2 rfl rfl dX4_put_197 ?_
                        refine x_iast X w hM.m3 hM.f3 (by omega) dX4_put_198 (fun H locs w => ?_)
                        obtain ⟨f199, g199, w, hM, hF, hge199⟩ : ∃ f9 g9, XW D A s.heap L f9 H locs ∧ ML cs L f9 mo B 0 (gN σ) 1 (gT σ) (gP σ) (gB σ) (gS σ) g9 zz148 ww ∧ FM f0 f9 mo B ∧ g9 = uG g191 1 i su := ⟨_, _, w, ML.w3 hM, FM.a 3 hF, rfl⟩
                        refine x_al_n X hl 0 rfl rfl dX4_put_199 ?_
                        refine x_get X w hM.mm hM.fm fq_X4_put_16 rfl dX4_put_200 ?_
                        refine x_il X hl 4 rfl dX4_put_203 ?_
                        refine x_il_n X hl 3 rfl rfl dX4_put_205 ?_
                        refine x_iast X w hM.m4 hM.f4 (by omega) dX4_put_206 (fun H locs w => ?_)
                        obtain ⟨f207, g207, w, hM, hF, hge207⟩ : ∃ f9 g9, XW D A s.heap L f9 H locs ∧ ML cs L f9 mo B 0 (gN σ) 1 (gT σ) (gP σ) (gB σ) (gS σ) g9 zz148 ww ∧ FM f0 f9 mo B ∧ g9 = uG g199 2 i sy := ⟨_, _, w, ML.w4 hM, FM.a 4 hF, rfl⟩
                        refine x_al_n X hl 0 rfl rfl dX4_put_207 ?_
                        refine x_get X w hM.mm hM.fm fq_X4_put_19 rfl dX4_put_208 ?_
                        refine x_il X hl 4 rfl dX4_put_211 ?_
                        refine x_al_n X hl 0 rfl rfl dX4_put_213 ?_
                        refine x_get X w hM.mm hM.fm fq_X4_put_76 rfl dX4_put_214 ?_
                        refine x_iast X w hM.m5 hM.f5 (by omega) dX4_put_217 (fun H locs w => ?_)
                        obtain ⟨f218, g218, w, hM, hF, hge218⟩ : ∃ f9 g9, XW D A s.heap L f9 H locs ∧ ML cs L f9 mo B 0 (gN σ) 1 (gT σ) (gP σ) (gB σ) (gS σ) g9 zz148 ww ∧ FM f0 f9 mo B ∧ g9 = uG g207 3 i (gT σ) := ⟨_, _, w, ML.w5 hM, FM.a 5 hF, rfl⟩
                        refine x_al_n X hl 0 rfl rfl dX4_put_218 ?_
                        refine x_get X w hM.mm hM.fm fq_X4_put_22 rfl dX4_put_219 ?_
                        refine x_il X hl 4 rfl dX4_put_222 ?_
                        refine x_iconst X dX4_put_224 ?_
                        refine x_iast X w hM.m6 hM.f6 (by omega) dX4_put_225 (fun H locs w => ?_)
                        obtain ⟨f226, g226, w, hM, hF, hge226⟩ : ∃ f9 g9, XW D A s.heap L f9 H locs ∧ ML cs L f9 mo B 0 (gN σ) 1 (gT σ) (gP σ) (gB σ) (gS σ) g9 zz148 ww ∧ FM f0 f9 mo B ∧ g9 = uG g218 4 i (-1) := ⟨_, _, w, ML.w6 hM, FM.a 6 hF, rfl⟩
                        refine x_al_n X hl 0 rfl rfl dX4_put_226 ?_
                        refine x_dup X rfl dX4_put_227 ?_
                        refine x_get X w hM.mm hM.fm fq_X4_put_42 rfl dX4_put_228 ?_
                        refine x_iconst X dX4_put_231 ?_
                        refine x_iadd X dX4_put_232 ?_
                        refine x_put X w hM.mm hM.fm fp_X4_put_42 rfl rfl (Nat.le_of_ble_eq_true rfl) rfl dX4_put_233 (fun H locs w => ?_)
                        obtain ⟨f236, w, hM, hF⟩ : ∃ f9, XW D A s.heap L f9 H locs ∧ ML cs L f9 mo B 0 ((gN σ) + 1) 1 (gT σ) (gP σ) (gB σ) (gS σ) g226 zz148 ww ∧ FM f0 f9 mo B := ⟨_, w, hM.fld _ _ _ _ _ _ _, hF.m⟩
                        refine x_al_n X hl 0 rfl rfl dX4_put_236 ?_
                        refine x_get X w hM.mm hM.fm fq_X4_put_45 rfl dX4_put_237 ?_
                        refine x_iret X w hr hlk ⟨by decide, by decide⟩ dX4_put_240 ?_
                        have ho : oPut nu su sy σ = (0, gK (oIns nu su sy σ), oIns nu su sy σ) := (if_pos (by omega)).trans (if_neg (show ¬ (qF nu σ ≠ -1 ∨ 80 ≤ gN σ) from fun h9 => h9.elim (fun h8 => h8 hb51) (fun h8 => by omega)))
                        have hR9 : ∀ j, 0 ≤ j → j < gN σ + 1 → ∀ c, c < 5 → g226 c j = ins (gR σ) (cu (gR σ) (gN σ) nu) (nR nu su sy (gT σ)) j c := by
                          rw [hce]
                          exact nw_g hn.1 (by omega) hg hgm (by rw [hge226, hge218, hge207, hge199, hge191])
                        have eK : adK (spK (gZ σ) (gK σ) (cu (gR σ) (gN σ) nu)) = 1 := by rw [hsK]; exact if_pos hb80
                        have eZ : adZ (spZ (gZ σ) (gK σ) (cu (gR σ) (gN σ) nu)) (spK (gZ σ) (gK σ) (cu (gR σ) (gN σ) nu)) (cu (gR σ) (gN σ) nu) = uI (gZ σ) 0 1 := by rw [hsK, hsZ]; exact if_pos hb80
                        have hz9 : ∀ j, 0 ≤ j → j < 1 → zz148 j = uI (gZ σ) 0 1 j := by
                          intro j a b
                          have e0 : j = 0 := by omega
                          rw [e0, hz148, uI_s, uI_s, hz0]; omega
                        rw [ho]
                        refine ⟨?_, rfl, hF, g226, zz148, ww, ?_, hR9, ?_, hw⟩
                        · show _ = some (Value.int (iI (adK (spK (gZ σ) (gK σ) (cu (gR σ) (gN σ) nu)))))
                          rw [eK]
                        · show ML cs L _ mo B 0 _ (adK (spK (gZ σ) (gK σ) (cu (gR σ) (gN σ) nu))) _ _ _ _ _ _ _
                          rw [eK]; exact hM
                        · show ∀ j, 0 ≤ j → j < adK (spK (gZ σ) (gK σ) (cu (gR σ) (gN σ) nu)) → _ = adZ (spZ (gZ σ) (gK σ) (cu (gR σ) (gN σ) nu)) (spK (gZ σ) (gK σ) (cu (gR σ) (gN σ) nu)) (cu (gR σ) (gN σ) nu) j
                          rw [eK, eZ]; exact hz9
                      · refine x_iinc (lv' := [(6, .int (iI (i + 1))), (0, .ref mo), (1, .int (iI nu)), (2, .int (iI su)), (3, .int (iI sy))]) X hl 4 rfl (by decide) rfl dX4_put_171 (fun ls hl => ?_)
                        refine x_goto (tgt := 151) X (by decide) dX4_put_174 ?_
                        refine ih151 (i + 1) _ _ _ (by omega) (by omega) ?_ w (lv_sub hl [1, 2, 3, 4, 0] rfl)
                        · intro j h1 h2
                          by_cases h3 : j = i
                          · subst h3; omega
                          · exact hj j h1 (by omega)
                refine loop151 _ 0 _ _ _ (Nat.lt_succ_self _) (by omega) (fun j h1 h2 => absurd h2 (by omega)) w (lv_sub hl [3, 4, 5, 6, 0] rfl)
            · exfalso; omega
          · refine x_iconst X dX4_put_63 ?_
            refine x_goto (tgt := 68) X (by decide) dX4_put_64 ?_
            refine x_callV (As := [.int (iI 2)]) (rest := []) (c1 := 0) (s1 := 0) X w hA (c_X4_goesWell l D cs L f0 mo B t (gN σ) (gK σ) (gT σ) (gP σ) (gB σ) (gS σ) g zz ww 2 hM (by omega)) k_X4_put_X4_goesWell (by decide) hM.mm hM.fm rfl rfl rfl hl rfl (Nat.le_of_ble_eq_true rfl) (by decide) rfl rfl dX4_put_68 (fun v L1 f1 H locs w hp => ?_)
            obtain ⟨rfl, hfm, hM, hp⟩ := hp
            have hF := hF.tr hfm
            rcases hp with ⟨rfl, hq68⟩ | ⟨rfl, hq68⟩
            · exfalso; omega
            · show W p l e _ s m _ below meth c _ _ _ _ _ (F0 m 71 ls [.int (iI 0)])
              refine x_ifF_ne (tgt := 76) X (by decide) (by decide) (by decide) dX4_put_71 ?_
              refine x_iconst X dX4_put_74 ?_
              refine x_iret X w hr hlk ⟨by decide, by decide⟩ dX4_put_75 ?_
              have ho : oPut nu su sy σ = (2, 0, σ) := (if_pos (by omega)).trans (if_pos (show qF nu σ ≠ -1 ∨ 80 ≤ gN σ from Or.inr (by omega)))
              rw [ho]
              exact ⟨rfl, rfl, hF, ⟨_, _, _, hM, hg, hz, hw⟩⟩
      · show W p l e _ s m _ below meth c _ _ _ _ _ (F0 m 25 ls [.int (iI 0)])
        refine x_ifT_eq (tgt := 32) X (by decide) (by decide) (by decide) dX4_put_25 ?_
        refine x_iconst X dX4_put_32 ?_
        refine x_is (lv' := [(4, .int (iI 0)), (0, .ref mo), (1, .int (iI nu)), (2, .int (iI su)), (3, .int (iI sy))]) X hl (by decide) rfl dX4_put_33 (fun ls hl => ?_)
        refine x_al_n X hl 1 rfl rfl dX4_put_35 ?_
        refine x_il X hl 0 rfl dX4_put_36 ?_
        refine x_ifF_ne (tgt := 45) X (by decide) (by decide) (by decide) dX4_put_38 ?_
        refine x_iconst X dX4_put_41 ?_
        refine x_goto (tgt := 68) X (by decide) dX4_put_42 ?_
        refine x_callV (As := [.int (iI 1)]) (rest := []) (c1 := 0) (s1 := 0) X w hA (c_X4_goesWell l D cs L f0 mo B t (gN σ) (gK σ) (gT σ) (gP σ) (gB σ) (gS σ) g zz ww 1 hM (by omega)) k_X4_put_X4_goesWell (by decide) hM.mm hM.fm rfl rfl rfl hl rfl (Nat.le_of_ble_eq_true rfl) (by decide) rfl rfl dX4_put_68 (fun v L1 f1 H locs w hp => ?_)
        obtain ⟨rfl, hfm, hM, hp⟩ := hp
        have hF := hF.tr hfm
        rcases hp with ⟨rfl, hq68⟩ | ⟨rfl, hq68⟩
        · exfalso; omega
        · show W p l e _ s m _ below meth c _ _ _ _ _ (F0 m 71 ls [.int (iI 0)])
          refine x_ifF_ne (tgt := 76) X (by decide) (by decide) (by decide) dX4_put_71 ?_
          refine x_iconst X dX4_put_74 ?_
          refine x_iret X w hr hlk ⟨by decide, by decide⟩ dX4_put_75 ?_
          have ho : oPut nu su sy σ = (1, 0, σ) := if_neg (by omega)
          rw [ho]
          exact ⟨rfl, rfl, hF, ⟨_, _, _, hM, hg, hz, hw⟩⟩
    · show W p l e _ s m _ below meth c _ _ _ _ _ (F0 m 15 ls [.int (iI 0)])
      refine x_ifT_eq (tgt := 32) X (by decide) (by decide) (by decide) dX4_put_15 ?_
      refine x_iconst X dX4_put_32 ?_
      refine x_is (lv' := [(4, .int (iI 0)), (0, .ref mo), (1, .int (iI nu)), (2, .int (iI su)), (3, .int (iI sy))]) X hl (by decide) rfl dX4_put_33 (fun ls hl => ?_)
      refine x_al_n X hl 1 rfl rfl dX4_put_35 ?_
      refine x_il X hl 0 rfl dX4_put_36 ?_
      refine x_ifF_ne (tgt := 45) X (by decide) (by decide) (by decide) dX4_put_38 ?_
      refine x_iconst X dX4_put_41 ?_
      refine x_goto (tgt := 68) X (by decide) dX4_put_42 ?_
      refine x_callV (As := [.int (iI 1)]) (rest := []) (c1 := 0) (s1 := 0) X w hA (c_X4_goesWell l D cs L f0 mo B t (gN σ) (gK σ) (gT σ) (gP σ) (gB σ) (gS σ) g zz ww 1 hM (by omega)) k_X4_put_X4_goesWell (by decide) hM.mm hM.fm rfl rfl rfl hl rfl (Nat.le_of_ble_eq_true rfl) (by decide) rfl rfl dX4_put_68 (fun v L1 f1 H locs w hp => ?_)
      obtain ⟨rfl, hfm, hM, hp⟩ := hp
      have hF := hF.tr hfm
      rcases hp with ⟨rfl, hq68⟩ | ⟨rfl, hq68⟩
      · exfalso; omega
      · show W p l e _ s m _ below meth c _ _ _ _ _ (F0 m 71 ls [.int (iI 0)])
        refine x_ifF_ne (tgt := 76) X (by decide) (by decide) (by decide) dX4_put_71 ?_
        refine x_iconst X dX4_put_74 ?_
        refine x_iret X w hr hlk ⟨by decide, by decide⟩ dX4_put_75 ?_
        have ho : oPut nu su sy σ = (1, 0, σ) := if_neg (by omega)
        rw [ho]
        exact ⟨rfl, rfl, hF, ⟨_, _, _, hM, hg, hz, hw⟩⟩
  · show W p l e _ s m _ below meth c _ _ _ _ _ (F0 m 4 ls [.int (iI 0)])
    refine x_ifT_eq (tgt := 32) X (by decide) (by decide) (by decide) dX4_put_4 ?_
    refine x_iconst X dX4_put_32 ?_
    refine x_is (lv' := [(4, .int (iI 0)), (0, .ref mo), (1, .int (iI nu)), (2, .int (iI su)), (3, .int (iI sy))]) X hl (by decide) rfl dX4_put_33 (fun ls hl => ?_)
    refine x_al_n X hl 1 rfl rfl dX4_put_35 ?_
    refine x_il X hl 0 rfl dX4_put_36 ?_
    refine x_ifF_ne (tgt := 45) X (by decide) (by decide) (by decide) dX4_put_38 ?_
    refine x_iconst X dX4_put_41 ?_
    refine x_goto (tgt := 68) X (by decide) dX4_put_42 ?_
    refine x_callV (As := [.int (iI 1)]) (rest := []) (c1 := 0) (s1 := 0) X w hA (c_X4_goesWell l D cs L f0 mo B t (gN σ) (gK σ) (gT σ) (gP σ) (gB σ) (gS σ) g zz ww 1 hM (by omega)) k_X4_put_X4_goesWell (by decide) hM.mm hM.fm rfl rfl rfl hl rfl (Nat.le_of_ble_eq_true rfl) (by decide) rfl rfl dX4_put_68 (fun v L1 f1 H locs w hp => ?_)
    obtain ⟨rfl, hfm, hM, hp⟩ := hp
    have hF := hF.tr hfm
    rcases hp with ⟨rfl, hq68⟩ | ⟨rfl, hq68⟩
    · exfalso; omega
    · show W p l e _ s m _ below meth c _ _ _ _ _ (F0 m 71 ls [.int (iI 0)])
      refine x_ifF_ne (tgt := 76) X (by decide) (by decide) (by decide) dX4_put_71 ?_
      refine x_iconst X dX4_put_74 ?_
      refine x_iret X w hr hlk ⟨by decide, by decide⟩ dX4_put_75 ?_
      have ho : oPut nu su sy σ = (1, 0, σ) := if_neg (by omega)
      rw [ho]
      exact ⟨rfl, rfl, hF, ⟨_, _, _, hM, hg, hz, hw⟩⟩
