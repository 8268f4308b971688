/-! the law's small methods -/
def LO (cs : ClassId × ClassId × ClassId) (L : List Nat) (f0 : Nat → va_E) (x br ba pr sz lr ou : Nat) (o : Int × Int × Sg) (v : Option Value) (L1 : List Nat) (f1 : Nat → va_E) : Prop :=
  v = some (.int (iI o.1)) ∧ CC cs L1 f1 x br ba pr sz lr o.2.2 ∧ (∀ a, a ∈ L → a ∈ L1) ∧ FO L f0 f1 x br ba pr sz lr ou ∧ (0 ≤ o.1 ∧ o.1 ≤ 2) ∧ ∃ g1, f1 ou = .inl (cs.2.2, 1, .inr (.inl g1)) ∧ (o.1 = 0 → g1 0 = iL o.2.1)
def LV (cs : ClassId × ClassId × ClassId) (L : List Nat) (f0 : Nat → va_E) (x br ba pr sz lr : Nat) (o : Int × Int × Sg) (v : Option Value) (L1 : List Nat) (f1 : Nat → va_E) : Prop :=
  v = some (.int (iI o.1)) ∧ CC cs L1 f1 x br ba pr sz lr o.2.2 ∧ (∀ a, a ∈ L → a ∈ L1) ∧ FC L f0 f1 x br ba pr sz lr ∧ (0 ≤ o.1 ∧ o.1 ≤ 2)

theorem k_L_put_X3_put : XV wsL_put RL 7 RX3 yX3_put cX3_put 5 (some .int) wsX3_put 3 := ⟨gL_put_X3_put, ⟨_, rfl⟩, rfl, by decide, by decide, by decide +kernel⟩
set_option maxHeartbeats 4000000 in
set_option maxRecDepth 100000 in
theorem c_L_put (l : Launch) (D : va_G) (cs : ClassId × ClassId × ClassId) (hl9 : l.stackTraces = false) (L : List Nat) (f0 : Nat → va_E) (x br ba pr sz lr ou : Nat) (σ : Sg) (nu su sy : Int) (gO : Nat → Int64) (hC : CC cs L f0 x br ba pr sz lr σ) (hI : Inv σ) (hrg : (-2147483648 ≤ nu ∧ nu < 2147483648) ∧ (-2147483648 ≤ su ∧ su < 2147483648) ∧ (-2147483648 ≤ sy ∧ sy < 2147483648)) (hmo : ou ∈ L) (hfo : f0 ou = .inl (cs.2.2, 1, .inr (.inl gO))) : C1 l yL_put wsL_put ({ frames := 8, cells := 2, slots := 12, locals := 144 } : Room) D cs [.ref x, .int (iI nu), .int (iI su), .int (iI sy), .ref ou] L f0 (fun v L1 f1 => LO cs L f0 x br ba pr sz lr ou (oPut nu su sy σ) v L1 f1) (fun _ => False) := by
  refine C1.ofH (cc := cL_put) (maxL := 6) (ret := (some .int)) (by decide) rfl (Nat.le_of_ble_eq_true rfl) ?_
  intro p e s m below meth c X hr hlk hout hV A hA hZ w ls hl
  have hl : lv_has ls 6 [(0, .ref x), (1, .int (iI nu)), (2, .int (iI su)), (3, .int (iI sy)), (4, .ref ou)] := hl
  refine x_al X hl 4 rfl dL_put_0 ?_
  refine x_iconst X dL_put_2 ?_
  refine x_al_n X hl 0 rfl rfl dL_put_3 ?_
  refine x_il_n X hl 1 rfl rfl dL_put_4 ?_
  refine x_il_n X hl 2 rfl rfl dL_put_5 ?_
  refine x_il_n X hl 3 rfl rfl dL_put_6 ?_
  refine x_callV1 (As := [.int (iI nu), .int (iI su), .int (iI sy)]) (rest := [.int (iI 0), .ref ou]) (c1 := 2) (s1 := 12) X w hA hV hZ (c_X3_put l D cs hl9 L f0 x br ba pr sz lr σ nu su sy hC hI hrg) k_L_put_X3_put (by decide) hC.mx hC.fx rfl rfl rfl hl rfl (Nat.le_of_ble_eq_true rfl) (by decide) rfl rfl dL_put_7 (fun E ce a9 H locs w hpx hce hcv hcl => ?_) (fun v L1 f1 H locs w hp => ?_)
  · rcases hpx with ⟨hpx, rfl⟩ | ⟨hpx, rfl⟩
    · refine x_catchA (E := XIA) X hout (by decide +kernel) (by decide) (by decide) hV.1 hce hcv hcl ?_
      show W p l e _ s m _ below meth c _ _ _ _ _ (F0 m 15 ls [.ref a9])
      refine x_as (lv' := [(5, .ref a9), (0, .ref x), (1, .int (iI nu)), (2, .int (iI su)), (3, .int (iI sy)), (4, .ref ou)]) X hl (by decide) rfl dL_put_15 (fun ls hl => ?_)
      refine x_iconst X dL_put_17 ?_
      refine vx_ret ?_
      refine x_iret X w hr hlk ⟨by decide, by decide⟩ dL_put_18 ?_
      have he9 : (oPut nu su sy σ).2.2 = σ := o3k (show (oPut nu su sy σ).1 ≠ 0 by rw [hpx]; decide)
      exact ⟨by rw [hpx], by rw [he9]; exact hC, fun _ h => h, FO.of (FC.rf _ _ _ _ _ _ _ _) (fun _ _ => rfl), by rw [hpx]; decide, gO, hfo, fun h9 => absurd (hpx.symm.trans h9) (by decide)⟩
    · refine x_catchB (E := XIS) (E1 := XIA) X hout (by decide +kernel) (by decide) hV.2.2.2.1 (by decide +kernel) (by decide) (by decide) hV.2.1 hce hcv hcl ?_
      show W p l e _ s m _ below meth c _ _ _ _ _ (F0 m 19 ls [.ref a9])
      refine x_as (lv' := [(5, .ref a9), (0, .ref x), (1, .int (iI nu)), (2, .int (iI su)), (3, .int (iI sy)), (4, .ref ou)]) X hl (by decide) rfl dL_put_19 (fun ls hl => ?_)
      refine x_iconst X dL_put_21 ?_
      refine vx_ret ?_
      refine x_iret X w hr hlk ⟨by decide, by decide⟩ dL_put_22 ?_
      have he9 : (oPut nu su sy σ).2.2 = σ := o3k (show (oPut nu su sy σ).1 ≠ 0 by rw [hpx]; decide)
      exact ⟨by rw [hpx], by rw [he9]; exact hC, fun _ h => h, FO.of (FC.rf _ _ _ _ _ _ _ _) (fun _ _ => rfl), by rw [hpx]; decide, gO, hfo, fun h9 => absurd (hpx.symm.trans h9) (by decide)⟩
  · obtain ⟨h0, rfl, hC1, hsub, hF⟩ := hp
    have hou := FC.oul hC hmo hfo hF
    have hmo1 := hsub _ hmo
    show W p l e _ s m _ below meth c _ _ _ _ _ (F0 m 10 ls [.int (iI ((oPut nu su sy σ).2.1)), .int (iI 0), .ref ou])
    refine x_i2l X dL_put_10 ?_
    refine x_last X w hmo1 hou dL_put_11 (fun H locs w => ?_)
    obtain ⟨f2, w, hou2, hu⟩ : ∃ f9, XW D A s.heap L1 f9 H locs ∧ f9 ou = .inl (cs.2.2, 1, .inr (.inl (vp_updL gO 0 (iL ((oPut nu su sy σ).2.1))))) ∧ (∀ b, b ≠ ou → f9 b = f1 b) := ⟨_, w, va_up_self _ _ _, fun b hb => va_up_ne _ _ hb⟩
    have hC2 := hC1.oul hou hu
    have hF2 := FO.of hF hu
    refine x_goto (tgt := 23) X (by decide) dL_put_12 ?_
    refine x_iconst X dL_put_23 ?_
    refine vx_ret ?_
    refine x_iret X w hr hlk ⟨by decide, by decide⟩ dL_put_24 ?_
    exact ⟨by rw [h0], hC2, hsub, hF2, by rw [h0]; decide, _, hou2, fun _ => pk_uLs⟩

theorem k_L_payBack_X3_payBack : XV wsL_payBack RL 17 RX3 yX3_payBack cX3_payBack 3 (some .int) wsX3_payBack 1 := ⟨gL_payBack_X3_payBack, ⟨_, rfl⟩, rfl, by decide, by decide, by decide +kernel⟩
set_option maxHeartbeats 4000000 in
set_option maxRecDepth 100000 in
theorem c_L_payBack (l : Launch) (D : va_G) (cs : ClassId × ClassId × ClassId) (hl9 : l.stackTraces = false) (L : List Nat) (f0 : Nat → va_E) (x br ba pr sz lr ou : Nat) (σ : Sg) (nu : Int) (gO : Nat → Int64) (hC : CC cs L f0 x br ba pr sz lr σ) (hI : Inv σ) (hrg : (-2147483648 ≤ nu ∧ nu < 2147483648)) (hmo : ou ∈ L) (hfo : f0 ou = .inl (cs.2.2, 1, .inr (.inl gO))) : C1 l yL_payBack wsL_payBack ({ frames := 8, cells := 2, slots := 12, locals := 162 } : Room) D cs [.ref x, .int (iI nu), .ref ou] L f0 (fun v L1 f1 => LO cs L f0 x br ba pr sz lr ou (oPay nu σ) v L1 f1) (fun _ => False) := by
  refine C1.ofH (cc := cL_payBack) (maxL := 4) (ret := (some .int)) (by decide) rfl (Nat.le_of_ble_eq_true rfl) ?_
  intro p e s m below meth c X hr hlk hout hV A hA hZ w ls hl
  have hl : lv_has ls 4 [(0, .ref x), (1, .int (iI nu)), (2, .ref ou)] := hl
  refine x_al_n X hl 2 rfl rfl dL_payBack_0 ?_
  refine x_iconst X dL_payBack_1 ?_
  refine x_al_n X hl 0 rfl rfl dL_payBack_2 ?_
  refine x_il_n X hl 1 rfl rfl dL_payBack_3 ?_
  refine x_callV1 (As := [.int (iI nu)]) (rest := [.int (iI 0), .ref ou]) (c1 := 2) (s1 := 12) X w hA hV hZ (c_X3_payBack l D cs hl9 L f0 x br ba pr sz lr σ nu hC hI hrg) k_L_payBack_X3_payBack (by decide) hC.mx hC.fx rfl rfl rfl hl rfl (Nat.le_of_ble_eq_true rfl) (by decide) rfl rfl dL_payBack_4 (fun E ce a9 H locs w hpx hce hcv hcl => ?_) (fun v L1 f1 H locs w hp => ?_)
  · rcases hpx with ⟨hpx, rfl⟩ | ⟨hpx, rfl⟩
    · refine x_catchA (E := XIA) X hout (by decide +kernel) (by decide) (by decide) hV.1 hce hcv hcl ?_
      show W p l e _ s m _ below meth c _ _ _ _ _ (F0 m 12 ls [.ref a9])
      refine x_as_n (lv' := [(3, .ref a9), (0, .ref x), (1, .int (iI nu)), (2, .ref ou)]) X hl rfl (by decide) rfl dL_payBack_12 (fun ls hl => ?_)
      refine x_iconst X dL_payBack_13 ?_
      refine vx_ret ?_
      refine x_iret X w hr hlk ⟨by decide, by decide⟩ dL_payBack_14 ?_
      have he9 : (oPay nu σ).2.2 = σ := o3k (show (oPay nu σ).1 ≠ 0 by rw [hpx]; decide)
      exact ⟨by rw [hpx], by rw [he9]; exact hC, fun _ h => h, FO.of (FC.rf _ _ _ _ _ _ _ _) (fun _ _ => rfl), by rw [hpx]; decide, gO, hfo, fun h9 => absurd (hpx.symm.trans h9) (by decide)⟩
    · refine x_catchB (E := XIS) (E1 := XIA) X hout (by decide +kernel) (by decide) hV.2.2.2.1 (by decide +kernel) (by decide) (by decide) hV.2.1 hce hcv hcl ?_
      show W p l e _ s m _ below meth c _ _ _ _ _ (F0 m 15 ls [.ref a9])
      refine x_as_n (lv' := [(3, .ref a9), (0, .ref x), (1, .int (iI nu)), (2, .ref ou)]) X hl rfl (by decide) rfl dL_payBack_15 (fun ls hl => ?_)
      refine x_iconst X dL_payBack_16 ?_
      refine vx_ret ?_
      refine x_iret X w hr hlk ⟨by decide, by decide⟩ dL_payBack_17 ?_
      have he9 : (oPay nu σ).2.2 = σ := o3k (show (oPay nu σ).1 ≠ 0 by rw [hpx]; decide)
      exact ⟨by rw [hpx], by rw [he9]; exact hC, fun _ h => h, FO.of (FC.rf _ _ _ _ _ _ _ _) (fun _ _ => rfl), by rw [hpx]; decide, gO, hfo, fun h9 => absurd (hpx.symm.trans h9) (by decide)⟩
  · obtain ⟨h0, rfl, hC1, hsub, hF⟩ := hp
    have hou := FC.oul hC hmo hfo hF
    have hmo1 := hsub _ hmo
    show W p l e _ s m _ below meth c _ _ _ _ _ (F0 m 7 ls [.int (iI ((oPay nu σ).2.1)), .int (iI 0), .ref ou])
    refine x_i2l X dL_payBack_7 ?_
    refine x_last X w hmo1 hou dL_payBack_8 (fun H locs w => ?_)
    obtain ⟨f2, w, hou2, hu⟩ : ∃ f9, XW D A s.heap L1 f9 H locs ∧ f9 ou = .inl (cs.2.2, 1, .inr (.inl (vp_updL gO 0 (iL ((oPay nu σ).2.1))))) ∧ (∀ b, b ≠ ou → f9 b = f1 b) := ⟨_, w, va_up_self _ _ _, fun b hb => va_up_ne _ _ hb⟩
    have hC2 := hC1.oul hou hu
    have hF2 := FO.of hF hu
    refine x_goto (tgt := 18) X (by decide) dL_payBack_9 ?_
    refine x_iconst X dL_payBack_18 ?_
    refine vx_ret ?_
    refine x_iret X w hr hlk ⟨by decide, by decide⟩ dL_payBack_19 ?_
    exact ⟨by rw [h0], hC2, hsub, hF2, by rw [h0]; decide, _, hou2, fun _ => pk_uLs⟩

theorem k_L_forfeit_X3_forfeit : XV wsL_forfeit RL 21 RX3 yX3_forfeit cX3_forfeit 3 none wsX3_forfeit 1 := ⟨gL_forfeit_X3_forfeit, ⟨_, rfl⟩, rfl, by decide, by decide, by decide +kernel⟩
set_option maxHeartbeats 4000000 in
set_option maxRecDepth 100000 in
theorem c_L_forfeit (l : Launch) (D : va_G) (cs : ClassId × ClassId × ClassId) (hl9 : l.stackTraces = false) (L : List Nat) (f0 : Nat → va_E) (x br ba pr sz lr : Nat) (σ : Sg) (nu : Int) (hC : CC cs L f0 x br ba pr sz lr σ) (hI : Inv σ) (hrg : (-2147483648 ≤ nu ∧ nu < 2147483648)) : C1 l yL_forfeit wsL_forfeit ({ frames := 8, cells := 2, slots := 12, locals := 142 } : Room) D cs [.ref x, .int (iI nu)] L f0 (fun v L1 f1 => LV cs L f0 x br ba pr sz lr (oFor nu σ) v L1 f1) (fun _ => False) := by
  refine C1.ofH (cc := cL_forfeit) (maxL := 3) (ret := (some .int)) (by decide) rfl (Nat.le_of_ble_eq_true rfl) ?_
  intro p e s m below meth c X hr hlk hout hV A hA hZ w ls hl
  have hl : lv_has ls 3 [(0, .ref x), (1, .int (iI nu))] := hl
  refine x_al_n X hl 0 rfl rfl dL_forfeit_0 ?_
  refine x_il_n X hl 1 rfl rfl dL_forfeit_1 ?_
  refine x_callV1 (As := [.int (iI nu)]) (rest := []) (c1 := 2) (s1 := 12) X w hA hV hZ (c_X3_forfeit l D cs hl9 L f0 x br ba pr sz lr σ nu hC hI hrg) k_L_forfeit_X3_forfeit (by decide) hC.mx hC.fx rfl rfl rfl hl rfl (Nat.le_of_ble_eq_true rfl) (by decide) rfl rfl dL_forfeit_2 (fun E ce a9 H locs w hpx hce hcv hcl => ?_) (fun v L1 f1 H locs w hp => ?_)
  · rcases hpx with ⟨hpx, rfl⟩ | ⟨hpx, rfl⟩
    · refine x_catchA (E := XIA) X hout (by decide +kernel) (by decide) (by decide) hV.1 hce hcv hcl ?_
      show W p l e _ s m _ below meth c _ _ _ _ _ (F0 m 8 ls [.ref a9])
      refine x_as_n (lv' := [(2, .ref a9), (0, .ref x), (1, .int (iI nu))]) X hl rfl (by decide) rfl dL_forfeit_8 (fun ls hl => ?_)
      refine x_iconst X dL_forfeit_9 ?_
      refine vx_ret ?_
      refine x_iret X w hr hlk ⟨by decide, by decide⟩ dL_forfeit_10 ?_
      have he9 : (oFor nu σ).2.2 = σ := o3k (show (oFor nu σ).1 ≠ 0 by rw [hpx]; decide)
      exact ⟨by rw [hpx], by rw [he9]; exact hC, fun _ h => h, FC.rf _ _ _ _ _ _ _ _, by rw [hpx]; decide⟩
    · refine x_catchB (E := XIS) (E1 := XIA) X hout (by decide +kernel) (by decide) hV.2.2.2.1 (by decide +kernel) (by decide) (by decide) hV.2.1 hce hcv hcl ?_
      show W p l e _ s m _ below meth c _ _ _ _ _ (F0 m 11 ls [.ref a9])
      refine x_as_n (lv' := [(2, .ref a9), (0, .ref x), (1, .int (iI nu))]) X hl rfl (by decide) rfl dL_forfeit_11 (fun ls hl => ?_)
      refine x_iconst X dL_forfeit_12 ?_
      refine vx_ret ?_
      refine x_iret X w hr hlk ⟨by decide, by decide⟩ dL_forfeit_13 ?_
      have he9 : (oFor nu σ).2.2 = σ := o3k (show (oFor nu σ).1 ≠ 0 by rw [hpx]; decide)
      exact ⟨by rw [hpx], by rw [he9]; exact hC, fun _ h => h, FC.rf _ _ _ _ _ _ _ _, by rw [hpx]; decide⟩
  · obtain ⟨h0, rfl, hC1, hsub, hF⟩ := hp
    show W p l e _ s m _ below meth c _ _ _ _ _ (F0 m 5 ls [])
    refine x_goto (tgt := 14) X (by decide) dL_forfeit_5 ?_
    refine x_iconst X dL_forfeit_14 ?_
    refine vx_ret ?_
    refine x_iret X w hr hlk ⟨by decide, by decide⟩ dL_forfeit_15 ?_
    exact ⟨by rw [h0], hC1, hsub, hF, by rw [h0]; decide⟩

theorem k_L_undo_X3_undo : XV wsL_undo RL 25 RX3 yX3_undo cX3_undo 4 (some .int) wsX3_undo 1 := ⟨gL_undo_X3_undo, ⟨_, rfl⟩, rfl, by decide, by decide, by decide +kernel⟩
set_option maxHeartbeats 4000000 in
set_option maxRecDepth 100000 in
theorem c_L_undo (l : Launch) (D : va_G) (cs : ClassId × ClassId × ClassId) (hl9 : l.stackTraces = false) (L : List Nat) (f0 : Nat → va_E) (x br ba pr sz lr ou : Nat) (σ : Sg) (nu : Int) (gO : Nat → Int64) (hC : CC cs L f0 x br ba pr sz lr σ) (hI : Inv σ) (hrg : (-2147483648 ≤ nu ∧ nu < 2147483648)) (hmo : ou ∈ L) (hfo : f0 ou = .inl (cs.2.2, 1, .inr (.inl gO))) : C1 l yL_undo wsL_undo ({ frames := 8, cells := 2, slots := 12, locals := 143 } : Room) D cs [.ref x, .int (iI nu), .ref ou] L f0 (fun v L1 f1 => LO cs L f0 x br ba pr sz lr ou (oUnd nu σ) v L1 f1) (fun _ => False) := by
  refine C1.ofH (cc := cL_undo) (maxL := 4) (ret := (some .int)) (by decide) rfl (Nat.le_of_ble_eq_true rfl) ?_
  intro p e s m below meth c X hr hlk hout hV A hA hZ w ls hl
  have hl : lv_has ls 4 [(0, .ref x), (1, .int (iI nu)), (2, .ref ou)] := hl
  refine x_al_n X hl 2 rfl rfl dL_undo_0 ?_
  refine x_iconst X dL_undo_1 ?_
  refine x_al_n X hl 0 rfl rfl dL_undo_2 ?_
  refine x_il_n X hl 1 rfl rfl dL_undo_3 ?_
  refine x_callV1 (As := [.int (iI nu)]) (rest := [.int (iI 0), .ref ou]) (c1 := 2) (s1 := 12) X w hA hV hZ (c_X3_undo l D cs hl9 L f0 x br ba pr sz lr σ nu hC hI hrg) k_L_undo_X3_undo (by decide) hC.mx hC.fx rfl rfl rfl hl rfl (Nat.le_of_ble_eq_true rfl) (by decide) rfl rfl dL_undo_4 (fun E ce a9 H locs w hpx hce hcv hcl => ?_) (fun v L1 f1 H locs w hp => ?_)
  · rcases hpx with ⟨hpx, rfl⟩ | ⟨hpx, rfl⟩
    · refine x_catchA (E := XIA) X hout (by decide +kernel) (by decide) (by decide) hV.1 hce hcv hcl ?_
      show W p l e _ s m _ below meth c _ _ _ _ _ (F0 m 12 ls [.ref a9])
      refine x_as_n (lv' := [(3, .ref a9), (0, .ref x), (1, .int (iI nu)), (2, .ref ou)]) X hl rfl (by decide) rfl dL_undo_12 (fun ls hl => ?_)
      refine x_iconst X dL_undo_13 ?_
      refine vx_ret ?_
      refine x_iret X w hr hlk ⟨by decide, by decide⟩ dL_undo_14 ?_
      have he9 : (oUnd nu σ).2.2 = σ := o3k (show (oUnd nu σ).1 ≠ 0 by rw [hpx]; decide)
      exact ⟨by rw [hpx], by rw [he9]; exact hC, fun _ h => h, FO.of (FC.rf _ _ _ _ _ _ _ _) (fun _ _ => rfl), by rw [hpx]; decide, gO, hfo, fun h9 => absurd (hpx.symm.trans h9) (by decide)⟩
    · refine x_catchB (E := XIS) (E1 := XIA) X hout (by decide +kernel) (by decide) hV.2.2.2.1 (by decide +kernel) (by decide) (by decide) hV.2.1 hce hcv hcl ?_
      show W p l e _ s m _ below meth c _ _ _ _ _ (F0 m 15 ls [.ref a9])
      refine x_as_n (lv' := [(3, .ref a9), (0, .ref x), (1, .int (iI nu)), (2, .ref ou)]) X hl rfl (by decide) rfl dL_undo_15 (fun ls hl => ?_)
      refine x_iconst X dL_undo_16 ?_
      refine vx_ret ?_
      refine x_iret X w hr hlk ⟨by decide, by decide⟩ dL_undo_17 ?_
      have he9 : (oUnd nu σ).2.2 = σ := o3k (show (oUnd nu σ).1 ≠ 0 by rw [hpx]; decide)
      exact ⟨by rw [hpx], by rw [he9]; exact hC, fun _ h => h, FO.of (FC.rf _ _ _ _ _ _ _ _) (fun _ _ => rfl), by rw [hpx]; decide, gO, hfo, fun h9 => absurd (hpx.symm.trans h9) (by decide)⟩
  · obtain ⟨h0, rfl, hC1, hsub, hF⟩ := hp
    have hou := FC.oul hC hmo hfo hF
    have hmo1 := hsub _ hmo
    show W p l e _ s m _ below meth c _ _ _ _ _ (F0 m 7 ls [.int (iI ((oUnd nu σ).2.1)), .int (iI 0), .ref ou])
    refine x_i2l X dL_undo_7 ?_
    refine x_last X w hmo1 hou dL_undo_8 (fun H locs w => ?_)
    obtain ⟨f2, w, hou2, hu⟩ : ∃ f9, XW D A s.heap L1 f9 H locs ∧ f9 ou = .inl (cs.2.2, 1, .inr (.inl (vp_updL gO 0 (iL ((oUnd nu σ).2.1))))) ∧ (∀ b, b ≠ ou → f9 b = f1 b) := ⟨_, w, va_up_self _ _ _, fun b hb => va_up_ne _ _ hb⟩
    have hC2 := hC1.oul hou hu
    have hF2 := FO.of hF hu
    refine x_goto (tgt := 18) X (by decide) dL_undo_9 ?_
    refine x_iconst X dL_undo_18 ?_
    refine vx_ret ?_
    refine x_iret X w hr hlk ⟨by decide, by decide⟩ dL_undo_19 ?_
    exact ⟨by rw [h0], hC2, hsub, hF2, by rw [h0]; decide, _, hou2, fun _ => pk_uLs⟩

theorem k_L_amnesty_X3_amnesty : XV wsL_amnesty RL 28 RX3 yX3_amnesty cX3_amnesty 7 (some .int) wsX3_amnesty 2 := ⟨gL_amnesty_X3_amnesty, ⟨_, rfl⟩, rfl, by decide, by decide, by decide +kernel⟩
set_option maxHeartbeats 4000000 in
set_option maxRecDepth 100000 in
theorem c_L_amnesty (l : Launch) (D : va_G) (cs : ClassId × ClassId × ClassId) (hl9 : l.stackTraces = false) (L : List Nat) (f0 : Nat → va_E) (x br ba pr sz lr ou : Nat) (σ : Sg) (su dy : Int) (gO : Nat → Int64) (hC : CC cs L f0 x br ba pr sz lr σ) (hI : Inv σ) (hrg : (-2147483648 ≤ su ∧ su < 2147483648) ∧ (-2147483648 ≤ dy ∧ dy < 2147483648)) (hmo : ou ∈ L) (hfo : f0 ou = .inl (cs.2.2, 1, .inr (.inl gO))) : C1 l yL_amnesty wsL_amnesty ({ frames := 8, cells := 1, slots := 6, locals := 166 } : Room) D cs [.ref x, .int (iI su), .int (iI dy), .ref ou] L f0 (fun v L1 f1 => LO cs L f0 x br ba pr sz lr ou (oAmn su dy σ) v L1 f1) (fun _ => False) := by
  refine C1.ofH (cc := cL_amnesty) (maxL := 5) (ret := (some .int)) (by decide) rfl (Nat.le_of_ble_eq_true rfl) ?_
  intro p e s m below meth c X hr hlk hout hV A hA hZ w ls hl
  have hl : lv_has ls 5 [(0, .ref x), (1, .int (iI su)), (2, .int (iI dy)), (3, .ref ou)] := hl
  refine x_al_n X hl 3 rfl rfl dL_amnesty_0 ?_
  refine x_iconst X dL_amnesty_1 ?_
  refine x_al_n X hl 0 rfl rfl dL_amnesty_2 ?_
  refine x_il_n X hl 1 rfl rfl dL_amnesty_3 ?_
  refine x_il_n X hl 2 rfl rfl dL_amnesty_4 ?_
  refine x_callV1 (As := [.int (iI su), .int (iI dy)]) (rest := [.int (iI 0), .ref ou]) (c1 := 1) (s1 := 6) X w hA hV hZ (c_X3_amnesty l D cs hl9 L f0 x br ba pr sz lr σ su dy hC hI hrg) k_L_amnesty_X3_amnesty (by decide) hC.mx hC.fx rfl rfl rfl hl rfl (Nat.le_of_ble_eq_true rfl) (by decide) rfl rfl dL_amnesty_5 (fun E ce a9 H locs w hpx hce hcv hcl => ?_) (fun v L1 f1 H locs w hp => ?_)
  · rcases hpx with ⟨hpx, rfl⟩ | ⟨hpx, rfl⟩
    · refine x_catchA (E := XIA) X hout (by decide +kernel) (by decide) (by decide) hV.1 hce hcv hcl ?_
      show W p l e _ s m _ below meth c _ _ _ _ _ (F0 m 13 ls [.ref a9])
      refine x_as (lv' := [(4, .ref a9), (0, .ref x), (1, .int (iI su)), (2, .int (iI dy)), (3, .ref ou)]) X hl (by decide) rfl dL_amnesty_13 (fun ls hl => ?_)
      refine x_iconst X dL_amnesty_15 ?_
      refine vx_ret ?_
      refine x_iret X w hr hlk ⟨by decide, by decide⟩ dL_amnesty_16 ?_
      have he9 : (oAmn su dy σ).2.2 = σ := o2k (show (oAmn su dy σ).1 ≠ 0 by rw [hpx]; decide)
      exact ⟨by rw [hpx], by rw [he9]; exact hC, fun _ h => h, FO.of (FC.rf _ _ _ _ _ _ _ _) (fun _ _ => rfl), by rw [hpx]; decide, gO, hfo, fun h9 => absurd (hpx.symm.trans h9) (by decide)⟩
    · exact (o2n hpx).elim
  · obtain ⟨h0, rfl, hC1, hsub, hF⟩ := hp
    have hou := FC.oul hC hmo hfo hF
    have hmo1 := hsub _ hmo
    show W p l e _ s m _ below meth c _ _ _ _ _ (F0 m 8 ls [.int (iI ((oAmn su dy σ).2.1)), .int (iI 0), .ref ou])
    refine x_i2l X dL_amnesty_8 ?_
    refine x_last X w hmo1 hou dL_amnesty_9 (fun H locs w => ?_)
    obtain ⟨f2, w, hou2, hu⟩ : ∃ f9, XW D A s.heap L1 f9 H locs ∧ f9 ou = .inl (cs.2.2, 1, .inr (.inl (vp_updL gO 0 (iL ((oAmn su dy σ).2.1))))) ∧ (∀ b, b ≠ ou → f9 b = f1 b) := ⟨_, w, va_up_self _ _ _, fun b hb => va_up_ne _ _ hb⟩
    have hC2 := hC1.oul hou hu
    have hF2 := FO.of hF hu
    refine x_goto (tgt := 17) X (by decide) dL_amnesty_10 ?_
    refine x_iconst X dL_amnesty_17 ?_
    refine vx_ret ?_
    refine x_iret X w hr hlk ⟨by decide, by decide⟩ dL_amnesty_18 ?_
    exact ⟨by rw [h0], hC2, hsub, hF2, by rw [h0]; decide, _, hou2, fun _ => pk_uLs⟩

theorem k_L_sum_X3_sum : XV wsL_sum RL 32 RX3 yX3_sum cX3_sum 3 (some .int) wsX3_sum 1 := ⟨gL_sum_X3_sum, ⟨_, rfl⟩, rfl, by decide, by decide, by decide +kernel⟩
set_option maxHeartbeats 4000000 in
set_option maxRecDepth 100000 in
theorem c_L_sum (l : Launch) (D : va_G) (cs : ClassId × ClassId × ClassId) (hl9 : l.stackTraces = false) (L : List Nat) (f0 : Nat → va_E) (x br ba pr sz lr ou : Nat) (σ : Sg) (nu : Int) (gO : Nat → Int64) (hC : CC cs L f0 x br ba pr sz lr σ) (hI : Inv σ) (hrg : (-2147483648 ≤ nu ∧ nu < 2147483648)) (hmo : ou ∈ L) (hfo : f0 ou = .inl (cs.2.2, 1, .inr (.inl gO))) : C1 l yL_sum wsL_sum ({ frames := 8, cells := 1, slots := 6, locals := 142 } : Room) D cs [.ref x, .int (iI nu), .ref ou] L f0 (fun v L1 f1 => LO cs L f0 x br ba pr sz lr ou (oSum nu σ) v L1 f1) (fun _ => False) := by
  refine C1.ofH (cc := cL_sum) (maxL := 4) (ret := (some .int)) (by decide) rfl (Nat.le_of_ble_eq_true rfl) ?_
  intro p e s m below meth c X hr hlk hout hV A hA hZ w ls hl
  have hl : lv_has ls 4 [(0, .ref x), (1, .int (iI nu)), (2, .ref ou)] := hl
  refine x_al_n X hl 2 rfl rfl dL_sum_0 ?_
  refine x_iconst X dL_sum_1 ?_
  refine x_al_n X hl 0 rfl rfl dL_sum_2 ?_
  refine x_il_n X hl 1 rfl rfl dL_sum_3 ?_
  refine x_callV1 (As := [.int (iI nu)]) (rest := [.int (iI 0), .ref ou]) (c1 := 1) (s1 := 6) X w hA hV hZ (c_X3_sum l D cs hl9 L f0 x br ba pr sz lr σ nu hC hI hrg) k_L_sum_X3_sum (by decide) hC.mx hC.fx rfl rfl rfl hl rfl (Nat.le_of_ble_eq_true rfl) (by decide) rfl rfl dL_sum_4 (fun E ce a9 H locs w hpx hce hcv hcl => ?_) (fun v L1 f1 H locs w hp => ?_)
  · rcases hpx with ⟨hpx, rfl⟩ | ⟨hpx, rfl⟩
    · refine x_catchA (E := XIA) X hout (by decide +kernel) (by decide) (by decide) hV.1 hce hcv hcl ?_
      show W p l e _ s m _ below meth c _ _ _ _ _ (F0 m 12 ls [.ref a9])
      refine x_as_n (lv' := [(3, .ref a9), (0, .ref x), (1, .int (iI nu)), (2, .ref ou)]) X hl rfl (by decide) rfl dL_sum_12 (fun ls hl => ?_)
      refine x_iconst X dL_sum_13 ?_
      refine vx_ret ?_
      refine x_iret X w hr hlk ⟨by decide, by decide⟩ dL_sum_14 ?_
      have he9 : (oSum nu σ).2.2 = σ := o2k (show (oSum nu σ).1 ≠ 0 by rw [hpx]; decide)
      exact ⟨by rw [hpx], by rw [he9]; exact hC, fun _ h => h, FO.of (FC.rf _ _ _ _ _ _ _ _) (fun _ _ => rfl), by rw [hpx]; decide, gO, hfo, fun h9 => absurd (hpx.symm.trans h9) (by decide)⟩
    · exact (o2n hpx).elim
  · obtain ⟨h0, rfl, hC1, hsub, hF⟩ := hp
    have hou := FC.oul hC hmo hfo hF
    have hmo1 := hsub _ hmo
    show W p l e _ s m _ below meth c _ _ _ _ _ (F0 m 7 ls [.int (iI ((oSum nu σ).2.1)), .int (iI 0), .ref ou])
    refine x_i2l X dL_sum_7 ?_
    refine x_last X w hmo1 hou dL_sum_8 (fun H locs w => ?_)
    obtain ⟨f2, w, hou2, hu⟩ : ∃ f9, XW D A s.heap L1 f9 H locs ∧ f9 ou = .inl (cs.2.2, 1, .inr (.inl (vp_updL gO 0 (iL ((oSum nu σ).2.1))))) ∧ (∀ b, b ≠ ou → f9 b = f1 b) := ⟨_, w, va_up_self _ _ _, fun b hb => va_up_ne _ _ hb⟩
    have hC2 := hC1.oul hou hu
    have hF2 := FO.of hF hu
    refine x_goto (tgt := 15) X (by decide) dL_sum_9 ?_
    refine x_iconst X dL_sum_15 ?_
    refine vx_ret ?_
    refine x_iret X w hr hlk ⟨by decide, by decide⟩ dL_sum_16 ?_
    exact ⟨by rw [h0], hC2, hsub, hF2, by rw [h0]; decide, _, hou2, fun _ => pk_uLs⟩

theorem k_L_isForfeited_X3_isForfeited : XV wsL_isForfeited RL 35 RX3 yX3_isForfeited cX3_isForfeited 3 (some .boolean) wsX3_isForfeited 1 := ⟨gL_isForfeited_X3_isForfeited, ⟨_, rfl⟩, rfl, by decide, by decide, by decide +kernel⟩
set_option maxHeartbeats 4000000 in
set_option maxRecDepth 100000 in
theorem c_L_isForfeited (l : Launch) (D : va_G) (cs : ClassId × ClassId × ClassId) (hl9 : l.stackTraces = false) (L : List Nat) (f0 : Nat → va_E) (x br ba pr sz lr ou : Nat) (σ : Sg) (nu : Int) (gO : Nat → Int64) (hC : CC cs L f0 x br ba pr sz lr σ) (hI : Inv σ) (hrg : (-2147483648 ≤ nu ∧ nu < 2147483648)) (hmo : ou ∈ L) (hfo : f0 ou = .inl (cs.2.2, 1, .inr (.inl gO))) : C1 l yL_isForfeited wsL_isForfeited ({ frames := 8, cells := 1, slots := 6, locals := 142 } : Room) D cs [.ref x, .int (iI nu), .ref ou] L f0 (fun v L1 f1 => LO cs L f0 x br ba pr sz lr ou (oIsF nu σ) v L1 f1) (fun _ => False) := by
  refine C1.ofH (cc := cL_isForfeited) (maxL := 4) (ret := (some .int)) (by decide) rfl (Nat.le_of_ble_eq_true rfl) ?_
  intro p e s m below meth c X hr hlk hout hV A hA hZ w ls hl
  have hl : lv_has ls 4 [(0, .ref x), (1, .int (iI nu)), (2, .ref ou)] := hl
  refine x_al_n X hl 2 rfl rfl dL_isForfeited_0 ?_
  refine x_iconst X dL_isForfeited_1 ?_
  refine x_al_n X hl 0 rfl rfl dL_isForfeited_2 ?_
  refine x_il_n X hl 1 rfl rfl dL_isForfeited_3 ?_
  refine x_callV1 (As := [.int (iI nu)]) (rest := [.int (iI 0), .ref ou]) (c1 := 1) (s1 := 6) X w hA hV hZ (c_X3_isForfeited l D cs hl9 L f0 x br ba pr sz lr σ nu hC hI hrg) k_L_isForfeited_X3_isForfeited (by decide) hC.mx hC.fx rfl rfl rfl hl rfl (Nat.le_of_ble_eq_true rfl) (by decide) rfl rfl dL_isForfeited_4 (fun E ce a9 H locs w hpx hce hcv hcl => ?_) (fun v L1 f1 H locs w hp => ?_)
  · rcases hpx with ⟨hpx, rfl⟩ | ⟨hpx, rfl⟩
    · refine x_catchA (E := XIA) X hout (by decide +kernel) (by decide) (by decide) hV.1 hce hcv hcl ?_
      show W p l e _ s m _ below meth c _ _ _ _ _ (F0 m 19 ls [.ref a9])
      refine x_as_n (lv' := [(3, .ref a9), (0, .ref x), (1, .int (iI nu)), (2, .ref ou)]) X hl rfl (by decide) rfl dL_isForfeited_19 (fun ls hl => ?_)
      refine x_iconst X dL_isForfeited_20 ?_
      refine vx_ret ?_
      refine x_iret X w hr hlk ⟨by decide, by decide⟩ dL_isForfeited_21 ?_
      have he9 : (oIsF nu σ).2.2 = σ := o2k (show (oIsF nu σ).1 ≠ 0 by rw [hpx]; decide)
      exact ⟨by rw [hpx], by rw [he9]; exact hC, fun _ h => h, FO.of (FC.rf _ _ _ _ _ _ _ _) (fun _ _ => rfl), by rw [hpx]; decide, gO, hfo, fun h9 => absurd (hpx.symm.trans h9) (by decide)⟩
    · exact (o2n hpx).elim
  · obtain ⟨h0, rfl, hC1, hsub, hF⟩ := hp
    have hou := FC.oul hC hmo hfo hF
    have hmo1 := hsub _ hmo
    show W p l e _ s m _ below meth c _ _ _ _ _ (F0 m 7 ls [.int (iI ((oIsF nu σ).2.1)), .int (iI 0), .ref ou])
    have hob := oIsF_b nu σ
    refine x_if_eq (tgt := 14) X (by omega) (by decide) dL_isForfeited_7 (fun hb7 => ?_) (fun hb7 => ?_)
    · refine x_lc0 X dL_isForfeited_14 ?_
      refine x_last X w hmo1 hou dL_isForfeited_15 (fun H locs w => ?_)
      obtain ⟨f2, w, hou2, hu⟩ : ∃ f9, XW D A s.heap L1 f9 H locs ∧ f9 ou = .inl (cs.2.2, 1, .inr (.inl (vp_updL gO 0 (iL 0)))) ∧ (∀ b, b ≠ ou → f9 b = f1 b) := ⟨_, w, va_up_self _ _ _, fun b hb => va_up_ne _ _ hb⟩
      have hC2 := hC1.oul hou hu
      have hF2 := FO.of hF hu
      refine x_goto (tgt := 22) X (by decide) dL_isForfeited_16 ?_
      refine x_iconst X dL_isForfeited_22 ?_
      refine vx_ret ?_
      refine x_iret X w hr hlk ⟨by decide, by decide⟩ dL_isForfeited_23 ?_
      exact ⟨by rw [h0], hC2, hsub, hF2, by rw [h0]; decide, _, hou2, fun _ => (pk_uLs.trans (by rw [show (oIsF nu σ).2.1 = 0 from by omega]))⟩
    · refine x_lc1 X dL_isForfeited_10 ?_
      refine x_goto (tgt := 15) X (by decide) dL_isForfeited_11 ?_
      refine x_last X w hmo1 hou dL_isForfeited_15 (fun H locs w => ?_)
      obtain ⟨f2, w, hou2, hu⟩ : ∃ f9, XW D A s.heap L1 f9 H locs ∧ f9 ou = .inl (cs.2.2, 1, .inr (.inl (vp_updL gO 0 (iL 1)))) ∧ (∀ b, b ≠ ou → f9 b = f1 b) := ⟨_, w, va_up_self _ _ _, fun b hb => va_up_ne _ _ hb⟩
      have hC2 := hC1.oul hou hu
      have hF2 := FO.of hF hu
      refine x_goto (tgt := 22) X (by decide) dL_isForfeited_16 ?_
      refine x_iconst X dL_isForfeited_22 ?_
      refine vx_ret ?_
      refine x_iret X w hr hlk ⟨by decide, by decide⟩ dL_isForfeited_23 ?_
      exact ⟨by rw [h0], hC2, hsub, hF2, by rw [h0]; decide, _, hou2, fun _ => (pk_uLs.trans (by rw [show (oIsF nu σ).2.1 = 1 from by omega]))⟩

theorem k_L_heldBy_X3_heldBy : XV wsL_heldBy RL 39 RX3 yX3_heldBy cX3_heldBy 2 (some .int) wsX3_heldBy 1 := ⟨gL_heldBy_X3_heldBy, ⟨_, rfl⟩, rfl, by decide, by decide, by decide +kernel⟩
set_option maxHeartbeats 4000000 in
set_option maxRecDepth 100000 in
theorem c_L_heldBy (l : Launch) (D : va_G) (cs : ClassId × ClassId × ClassId) (hl9 : l.stackTraces = false) (L : List Nat) (f0 : Nat → va_E) (x br ba pr sz lr ou : Nat) (σ : Sg) (sy : Int) (gO : Nat → Int64) (hC : CC cs L f0 x br ba pr sz lr σ) (hI : Inv σ) (hrg : (-2147483648 ≤ sy ∧ sy < 2147483648)) (hmo : ou ∈ L) (hfo : f0 ou = .inl (cs.2.2, 1, .inr (.inl gO))) : C1 l yL_heldBy wsL_heldBy ({ frames := 7, cells := 1, slots := 6, locals := 111 } : Room) D cs [.ref x, .int (iI sy), .ref ou] L f0 (fun v L1 f1 => LO cs L f0 x br ba pr sz lr ou (oHel sy σ) v L1 f1) (fun _ => False) := by
  refine C1.ofH (cc := cL_heldBy) (maxL := 4) (ret := (some .int)) (by decide) rfl (Nat.le_of_ble_eq_true rfl) ?_
  intro p e s m below meth c X hr hlk hout hV A hA hZ w ls hl
  have hl : lv_has ls 4 [(0, .ref x), (1, .int (iI sy)), (2, .ref ou)] := hl
  refine x_al_n X hl 2 rfl rfl dL_heldBy_0 ?_
  refine x_iconst X dL_heldBy_1 ?_
  refine x_al_n X hl 0 rfl rfl dL_heldBy_2 ?_
  refine x_il_n X hl 1 rfl rfl dL_heldBy_3 ?_
  refine x_callV1 (As := [.int (iI sy)]) (rest := [.int (iI 0), .ref ou]) (c1 := 1) (s1 := 6) X w hA hV hZ (c_X3_heldBy l D cs hl9 L f0 x br ba pr sz lr σ sy hC hI hrg) k_L_heldBy_X3_heldBy (by decide) hC.mx hC.fx rfl rfl rfl hl rfl (Nat.le_of_ble_eq_true rfl) (by decide) rfl rfl dL_heldBy_4 (fun E ce a9 H locs w hpx hce hcv hcl => ?_) (fun v L1 f1 H locs w hp => ?_)
  · rcases hpx with ⟨hpx, rfl⟩ | ⟨hpx, rfl⟩
    · refine x_catchA (E := XIA) X hout (by decide +kernel) (by decide) (by decide) hV.1 hce hcv hcl ?_
      show W p l e _ s m _ below meth c _ _ _ _ _ (F0 m 12 ls [.ref a9])
      refine x_as_n (lv' := [(3, .ref a9), (0, .ref x), (1, .int (iI sy)), (2, .ref ou)]) X hl rfl (by decide) rfl dL_heldBy_12 (fun ls hl => ?_)
      refine x_iconst X dL_heldBy_13 ?_
      refine vx_ret ?_
      refine x_iret X w hr hlk ⟨by decide, by decide⟩ dL_heldBy_14 ?_
      have he9 : (oHel sy σ).2.2 = σ := o2k (show (oHel sy σ).1 ≠ 0 by rw [hpx]; decide)
      exact ⟨by rw [hpx], by rw [he9]; exact hC, fun _ h => h, FO.of (FC.rf _ _ _ _ _ _ _ _) (fun _ _ => rfl), by rw [hpx]; decide, gO, hfo, fun h9 => absurd (hpx.symm.trans h9) (by decide)⟩
    · exact (o2n hpx).elim
  · obtain ⟨h0, rfl, hC1, hsub, hF⟩ := hp
    have hou := FC.oul hC hmo hfo hF
    have hmo1 := hsub _ hmo
    show W p l e _ s m _ below meth c _ _ _ _ _ (F0 m 7 ls [.int (iI ((oHel sy σ).2.1)), .int (iI 0), .ref ou])
    refine x_i2l X dL_heldBy_7 ?_
    refine x_last X w hmo1 hou dL_heldBy_8 (fun H locs w => ?_)
    obtain ⟨f2, w, hou2, hu⟩ : ∃ f9, XW D A s.heap L1 f9 H locs ∧ f9 ou = .inl (cs.2.2, 1, .inr (.inl (vp_updL gO 0 (iL ((oHel sy σ).2.1))))) ∧ (∀ b, b ≠ ou → f9 b = f1 b) := ⟨_, w, va_up_self _ _ _, fun b hb => va_up_ne _ _ hb⟩
    have hC2 := hC1.oul hou hu
    have hF2 := FO.of hF hu
    refine x_goto (tgt := 15) X (by decide) dL_heldBy_9 ?_
    refine x_iconst X dL_heldBy_15 ?_
    refine vx_ret ?_
    refine x_iret X w hr hlk ⟨by decide, by decide⟩ dL_heldBy_16 ?_
    exact ⟨by rw [h0], hC2, hsub, hF2, by rw [h0]; decide, _, hou2, fun _ => pk_uLs⟩

theorem k_L_pass_X3_pass : XV wsL_pass RL 42 RX3 yX3_pass cX3_pass 4 (some .int) wsX3_pass 1 := ⟨gL_pass_X3_pass, ⟨_, rfl⟩, rfl, by decide, by decide, by decide +kernel⟩
set_option maxHeartbeats 4000000 in
set_option maxRecDepth 100000 in
theorem c_L_pass (l : Launch) (D : va_G) (cs : ClassId × ClassId × ClassId) (hl9 : l.stackTraces = false) (L : List Nat) (f0 : Nat → va_E) (x br ba pr sz lr ou : Nat) (σ : Sg) (d : Int) (gO : Nat → Int64) (hC : CC cs L f0 x br ba pr sz lr σ) (hI : Inv σ) (hrg : (-2147483648 ≤ d ∧ d < 2147483648)) (hmo : ou ∈ L) (hfo : f0 ou = .inl (cs.2.2, 1, .inr (.inl gO))) : C1 l yL_pass wsL_pass ({ frames := 9, cells := 1, slots := 6, locals := 187 } : Room) D cs [.ref x, .int (iI d), .ref ou] L f0 (fun v L1 f1 => LO cs L f0 x br ba pr sz lr ou (oPas d σ) v L1 f1) (fun _ => False) := by
  refine C1.ofH (cc := cL_pass) (maxL := 4) (ret := (some .int)) (by decide) rfl (Nat.le_of_ble_eq_true rfl) ?_
  intro p e s m below meth c X hr hlk hout hV A hA hZ w ls hl
  have hl : lv_has ls 4 [(0, .ref x), (1, .int (iI d)), (2, .ref ou)] := hl
  refine x_al_n X hl 2 rfl rfl dL_pass_0 ?_
  refine x_iconst X dL_pass_1 ?_
  refine x_al_n X hl 0 rfl rfl dL_pass_2 ?_
  refine x_il_n X hl 1 rfl rfl dL_pass_3 ?_
  refine x_callV1 (As := [.int (iI d)]) (rest := [.int (iI 0), .ref ou]) (c1 := 1) (s1 := 6) X w hA hV hZ (c_X3_pass l D cs hl9 L f0 x br ba pr sz lr σ d hC hI hrg) k_L_pass_X3_pass (by decide) hC.mx hC.fx rfl rfl rfl hl rfl (Nat.le_of_ble_eq_true rfl) (by decide) rfl rfl dL_pass_4 (fun E ce a9 H locs w hpx hce hcv hcl => ?_) (fun v L1 f1 H locs w hp => ?_)
  · rcases hpx with ⟨hpx, rfl⟩ | ⟨hpx, rfl⟩
    · refine x_catchA (E := XIA) X hout (by decide +kernel) (by decide) (by decide) hV.1 hce hcv hcl ?_
      show W p l e _ s m _ below meth c _ _ _ _ _ (F0 m 12 ls [.ref a9])
      refine x_as_n (lv' := [(3, .ref a9), (0, .ref x), (1, .int (iI d)), (2, .ref ou)]) X hl rfl (by decide) rfl dL_pass_12 (fun ls hl => ?_)
      refine x_iconst X dL_pass_13 ?_
      refine vx_ret ?_
      refine x_iret X w hr hlk ⟨by decide, by decide⟩ dL_pass_14 ?_
      have he9 : (oPas d σ).2.2 = σ := o3k (show (oPas d σ).1 ≠ 0 by rw [hpx]; decide)
      exact ⟨by rw [hpx], by rw [he9]; exact hC, fun _ h => h, FO.of (FC.rf _ _ _ _ _ _ _ _) (fun _ _ => rfl), by rw [hpx]; decide, gO, hfo, fun h9 => absurd (hpx.symm.trans h9) (by decide)⟩
    · refine x_catchB (E := XIS) (E1 := XIA) X hout (by decide +kernel) (by decide) hV.2.2.2.1 (by decide +kernel) (by decide) (by decide) hV.2.1 hce hcv hcl ?_
      show W p l e _ s m _ below meth c _ _ _ _ _ (F0 m 15 ls [.ref a9])
      refine x_as_n (lv' := [(3, .ref a9), (0, .ref x), (1, .int (iI d)), (2, .ref ou)]) X hl rfl (by decide) rfl dL_pass_15 (fun ls hl => ?_)
      refine x_iconst X dL_pass_16 ?_
      refine vx_ret ?_
      refine x_iret X w hr hlk ⟨by decide, by decide⟩ dL_pass_17 ?_
      have he9 : (oPas d σ).2.2 = σ := o3k (show (oPas d σ).1 ≠ 0 by rw [hpx]; decide)
      exact ⟨by rw [hpx], by rw [he9]; exact hC, fun _ h => h, FO.of (FC.rf _ _ _ _ _ _ _ _) (fun _ _ => rfl), by rw [hpx]; decide, gO, hfo, fun h9 => absurd (hpx.symm.trans h9) (by decide)⟩
  · obtain ⟨h0, rfl, hC1, hsub, hF⟩ := hp
    have hou := FC.oul hC hmo hfo hF
    have hmo1 := hsub _ hmo
    show W p l e _ s m _ below meth c _ _ _ _ _ (F0 m 7 ls [.int (iI ((oPas d σ).2.1)), .int (iI 0), .ref ou])
    refine x_i2l X dL_pass_7 ?_
    refine x_last X w hmo1 hou dL_pass_8 (fun H locs w => ?_)
    obtain ⟨f2, w, hou2, hu⟩ : ∃ f9, XW D A s.heap L1 f9 H locs ∧ f9 ou = .inl (cs.2.2, 1, .inr (.inl (vp_updL gO 0 (iL ((oPas d σ).2.1))))) ∧ (∀ b, b ≠ ou → f9 b = f1 b) := ⟨_, w, va_up_self _ _ _, fun b hb => va_up_ne _ _ hb⟩
    have hC2 := hC1.oul hou hu
    have hF2 := FO.of hF hu
    refine x_goto (tgt := 18) X (by decide) dL_pass_9 ?_
    refine x_iconst X dL_pass_18 ?_
    refine vx_ret ?_
    refine x_iret X w hr hlk ⟨by decide, by decide⟩ dL_pass_19 ?_
    exact ⟨by rw [h0], hC2, hsub, hF2, by rw [h0]; decide, _, hou2, fun _ => pk_uLs⟩

theorem k_L_size_X3_size : XV wsL_size RL 45 RX3 yX3_size cX3_size 2 (some .int) wsX3_size 1 := ⟨gL_size_X3_size, ⟨_, rfl⟩, rfl, by decide, by decide, by decide +kernel⟩
set_option maxHeartbeats 4000000 in
set_option maxRecDepth 100000 in
theorem c_L_size (l : Launch) (D : va_G) (cs : ClassId × ClassId × ClassId) (hl9 : l.stackTraces = false) (L : List Nat) (f0 : Nat → va_E) (x br ba pr sz lr ou : Nat) (σ : Sg) (pg : Int) (gO : Nat → Int64) (hC : CC cs L f0 x br ba pr sz lr σ) (hI : Inv σ) (hrg : (-2147483648 ≤ pg ∧ pg < 2147483648)) (hmo : ou ∈ L) (hfo : f0 ou = .inl (cs.2.2, 1, .inr (.inl gO))) : C1 l yL_size wsL_size ({ frames := 7, cells := 1, slots := 6, locals := 111 } : Room) D cs [.ref x, .int (iI pg), .ref ou] L f0 (fun v L1 f1 => LO cs L f0 x br ba pr sz lr ou (oSiz pg σ) v L1 f1) (fun _ => False) := by
  refine C1.ofH (cc := cL_size) (maxL := 4) (ret := (some .int)) (by decide) rfl (Nat.le_of_ble_eq_true rfl) ?_
  intro p e s m below meth c X hr hlk hout hV A hA hZ w ls hl
  have hl : lv_has ls 4 [(0, .ref x), (1, .int (iI pg)), (2, .ref ou)] := hl
  refine x_al_n X hl 2 rfl rfl dL_size_0 ?_
  refine x_iconst X dL_size_1 ?_
  refine x_al_n X hl 0 rfl rfl dL_size_2 ?_
  refine x_il_n X hl 1 rfl rfl dL_size_3 ?_
  refine x_callV1 (As := [.int (iI pg)]) (rest := [.int (iI 0), .ref ou]) (c1 := 1) (s1 := 6) X w hA hV hZ (c_X3_size l D cs hl9 L f0 x br ba pr sz lr σ pg hC hI hrg) k_L_size_X3_size (by decide) hC.mx hC.fx rfl rfl rfl hl rfl (Nat.le_of_ble_eq_true rfl) (by decide) rfl rfl dL_size_4 (fun E ce a9 H locs w hpx hce hcv hcl => ?_) (fun v L1 f1 H locs w hp => ?_)
  · obtain ⟨hpx, rfl⟩ := hpx
    refine x_catchA (E := XIO) X hout (by decide +kernel) (by decide) (by decide) hV.2.2.1 hce hcv hcl ?_
    show W p l e _ s m _ below meth c _ _ _ _ _ (F0 m 12 ls [.ref a9])
    refine x_as_n (lv' := [(3, .ref a9), (0, .ref x), (1, .int (iI pg)), (2, .ref ou)]) X hl rfl (by decide) rfl dL_size_12 (fun ls hl => ?_)
    refine x_iconst X dL_size_13 ?_
    refine vx_ret ?_
    refine x_iret X w hr hlk ⟨by decide, by decide⟩ dL_size_14 ?_
    have he9 : (oSiz pg σ).2.2 = σ := o2k (show (oSiz pg σ).1 ≠ 0 by rw [hpx]; decide)
    exact ⟨by rw [hpx], by rw [he9]; exact hC, fun _ h => h, FO.of (FC.rf _ _ _ _ _ _ _ _) (fun _ _ => rfl), by rw [hpx]; decide, gO, hfo, fun h9 => absurd (hpx.symm.trans h9) (by decide)⟩
  · obtain ⟨h0, rfl, hC1, hsub, hF⟩ := hp
    have hou := FC.oul hC hmo hfo hF
    have hmo1 := hsub _ hmo
    show W p l e _ s m _ below meth c _ _ _ _ _ (F0 m 7 ls [.int (iI ((oSiz pg σ).2.1)), .int (iI 0), .ref ou])
    refine x_i2l X dL_size_7 ?_
    refine x_last X w hmo1 hou dL_size_8 (fun H locs w => ?_)
    obtain ⟨f2, w, hou2, hu⟩ : ∃ f9, XW D A s.heap L1 f9 H locs ∧ f9 ou = .inl (cs.2.2, 1, .inr (.inl (vp_updL gO 0 (iL ((oSiz pg σ).2.1))))) ∧ (∀ b, b ≠ ou → f9 b = f1 b) := ⟨_, w, va_up_self _ _ _, fun b hb => va_up_ne _ _ hb⟩
    have hC2 := hC1.oul hou hu
    have hF2 := FO.of hF hu
    refine x_goto (tgt := 15) X (by decide) dL_size_9 ?_
    refine x_iconst X dL_size_15 ?_
    refine vx_ret ?_
    refine x_iret X w hr hlk ⟨by decide, by decide⟩ dL_size_16 ?_
    exact ⟨by rw [h0], hC2, hsub, hF2, by rw [h0]; decide, _, hou2, fun _ => pk_uLs⟩

theorem k_L_at_X3_at : XV wsL_at RL 50 RX3 yX3_at cX3_at 3 (some .int) wsX3_at 2 := ⟨gL_at_X3_at, ⟨_, rfl⟩, rfl, by decide, by decide, by decide +kernel⟩
set_option maxHeartbeats 4000000 in
set_option maxRecDepth 100000 in
theorem c_L_at (l : Launch) (D : va_G) (cs : ClassId × ClassId × ClassId) (hl9 : l.stackTraces = false) (L : List Nat) (f0 : Nat → va_E) (x br ba pr sz lr ou : Nat) (σ : Sg) (pg pl : Int) (gO : Nat → Int64) (hC : CC cs L f0 x br ba pr sz lr σ) (hI : Inv σ) (hrg : (-2147483648 ≤ pg ∧ pg < 2147483648) ∧ (-2147483648 ≤ pl ∧ pl < 2147483648)) (hmo : ou ∈ L) (hfo : f0 ou = .inl (cs.2.2, 1, .inr (.inl gO))) : C1 l yL_at wsL_at ({ frames := 7, cells := 1, slots := 6, locals := 112 } : Room) D cs [.ref x, .int (iI pg), .int (iI pl), .ref ou] L f0 (fun v L1 f1 => LO cs L f0 x br ba pr sz lr ou (oAt pg pl σ) v L1 f1) (fun _ => False) := by
  refine C1.ofH (cc := cL_at) (maxL := 5) (ret := (some .int)) (by decide) rfl (Nat.le_of_ble_eq_true rfl) ?_
  intro p e s m below meth c X hr hlk hout hV A hA hZ w ls hl
  have hl : lv_has ls 5 [(0, .ref x), (1, .int (iI pg)), (2, .int (iI pl)), (3, .ref ou)] := hl
  refine x_al_n X hl 3 rfl rfl dL_at_0 ?_
  refine x_iconst X dL_at_1 ?_
  refine x_al_n X hl 0 rfl rfl dL_at_2 ?_
  refine x_il_n X hl 1 rfl rfl dL_at_3 ?_
  refine x_il_n X hl 2 rfl rfl dL_at_4 ?_
  refine x_callV1 (As := [.int (iI pg), .int (iI pl)]) (rest := [.int (iI 0), .ref ou]) (c1 := 1) (s1 := 6) X w hA hV hZ (c_X3_at l D cs hl9 L f0 x br ba pr sz lr σ pg pl hC hI hrg) k_L_at_X3_at (by decide) hC.mx hC.fx rfl rfl rfl hl rfl (Nat.le_of_ble_eq_true rfl) (by decide) rfl rfl dL_at_5 (fun E ce a9 H locs w hpx hce hcv hcl => ?_) (fun v L1 f1 H locs w hp => ?_)
  · obtain ⟨hpx, rfl⟩ := hpx
    refine x_catchA (E := XIO) X hout (by decide +kernel) (by decide) (by decide) hV.2.2.1 hce hcv hcl ?_
    show W p l e _ s m _ below meth c _ _ _ _ _ (F0 m 13 ls [.ref a9])
    refine x_as (lv' := [(4, .ref a9), (0, .ref x), (1, .int (iI pg)), (2, .int (iI pl)), (3, .ref ou)]) X hl (by decide) rfl dL_at_13 (fun ls hl => ?_)
    refine x_iconst X dL_at_15 ?_
    refine vx_ret ?_
    refine x_iret X w hr hlk ⟨by decide, by decide⟩ dL_at_16 ?_
    have he9 : (oAt pg pl σ).2.2 = σ := o2k (show (oAt pg pl σ).1 ≠ 0 by rw [hpx]; decide)
    exact ⟨by rw [hpx], by rw [he9]; exact hC, fun _ h => h, FO.of (FC.rf _ _ _ _ _ _ _ _) (fun _ _ => rfl), by rw [hpx]; decide, gO, hfo, fun h9 => absurd (hpx.symm.trans h9) (by decide)⟩
  · obtain ⟨h0, rfl, hC1, hsub, hF⟩ := hp
    have hou := FC.oul hC hmo hfo hF
    have hmo1 := hsub _ hmo
    show W p l e _ s m _ below meth c _ _ _ _ _ (F0 m 8 ls [.int (iI ((oAt pg pl σ).2.1)), .int (iI 0), .ref ou])
    refine x_i2l X dL_at_8 ?_
    refine x_last X w hmo1 hou dL_at_9 (fun H locs w => ?_)
    obtain ⟨f2, w, hou2, hu⟩ : ∃ f9, XW D A s.heap L1 f9 H locs ∧ f9 ou = .inl (cs.2.2, 1, .inr (.inl (vp_updL gO 0 (iL ((oAt pg pl σ).2.1))))) ∧ (∀ b, b ≠ ou → f9 b = f1 b) := ⟨_, w, va_up_self _ _ _, fun b hb => va_up_ne _ _ hb⟩
    have hC2 := hC1.oul hou hu
    have hF2 := FO.of hF hu
    refine x_goto (tgt := 17) X (by decide) dL_at_10 ?_
    refine x_iconst X dL_at_17 ?_
    refine vx_ret ?_
    refine x_iret X w hr hlk ⟨by decide, by decide⟩ dL_at_18 ?_
    exact ⟨by rw [h0], hC2, hsub, hF2, by rw [h0]; decide, _, hou2, fun _ => pk_uLs⟩

theorem k_L_pageOf_X3_pageOf : XV wsL_pageOf RL 53 RX3 yX3_pageOf cX3_pageOf 2 (some .int) wsX3_pageOf 1 := ⟨gL_pageOf_X3_pageOf, ⟨_, rfl⟩, rfl, by decide, by decide, by decide +kernel⟩
set_option maxHeartbeats 4000000 in
set_option maxRecDepth 100000 in
theorem c_L_pageOf (l : Launch) (D : va_G) (cs : ClassId × ClassId × ClassId) (hl9 : l.stackTraces = false) (L : List Nat) (f0 : Nat → va_E) (x br ba pr sz lr ou : Nat) (σ : Sg) (nu : Int) (gO : Nat → Int64) (hC : CC cs L f0 x br ba pr sz lr σ) (hI : Inv σ) (hrg : (-2147483648 ≤ nu ∧ nu < 2147483648)) (hmo : ou ∈ L) (hfo : f0 ou = .inl (cs.2.2, 1, .inr (.inl gO))) : C1 l yL_pageOf wsL_pageOf ({ frames := 8, cells := 1, slots := 6, locals := 131 } : Room) D cs [.ref x, .int (iI nu), .ref ou] L f0 (fun v L1 f1 => LO cs L f0 x br ba pr sz lr ou (oPgO nu σ) v L1 f1) (fun _ => False) := by
  refine C1.ofH (cc := cL_pageOf) (maxL := 4) (ret := (some .int)) (by decide) rfl (Nat.le_of_ble_eq_true rfl) ?_
  intro p e s m below meth c X hr hlk hout hV A hA hZ w ls hl
  have hl : lv_has ls 4 [(0, .ref x), (1, .int (iI nu)), (2, .ref ou)] := hl
  refine x_al_n X hl 2 rfl rfl dL_pageOf_0 ?_
  refine x_iconst X dL_pageOf_1 ?_
  refine x_al_n X hl 0 rfl rfl dL_pageOf_2 ?_
  refine x_il_n X hl 1 rfl rfl dL_pageOf_3 ?_
  refine x_callV1 (As := [.int (iI nu)]) (rest := [.int (iI 0), .ref ou]) (c1 := 1) (s1 := 6) X w hA hV hZ (c_X3_pageOf l D cs hl9 L f0 x br ba pr sz lr σ nu hC hI hrg) k_L_pageOf_X3_pageOf (by decide) hC.mx hC.fx rfl rfl rfl hl rfl (Nat.le_of_ble_eq_true rfl) (by decide) rfl rfl dL_pageOf_4 (fun E ce a9 H locs w hpx hce hcv hcl => ?_) (fun v L1 f1 H locs w hp => ?_)
  · rcases hpx with ⟨hpx, rfl⟩ | ⟨hpx, rfl⟩
    · refine x_catchA (E := XIA) X hout (by decide +kernel) (by decide) (by decide) hV.1 hce hcv hcl ?_
      show W p l e _ s m _ below meth c _ _ _ _ _ (F0 m 12 ls [.ref a9])
      refine x_as_n (lv' := [(3, .ref a9), (0, .ref x), (1, .int (iI nu)), (2, .ref ou)]) X hl rfl (by decide) rfl dL_pageOf_12 (fun ls hl => ?_)
      refine x_iconst X dL_pageOf_13 ?_
      refine vx_ret ?_
      refine x_iret X w hr hlk ⟨by decide, by decide⟩ dL_pageOf_14 ?_
      have he9 : (oPgO nu σ).2.2 = σ := o2k (show (oPgO nu σ).1 ≠ 0 by rw [hpx]; decide)
      exact ⟨by rw [hpx], by rw [he9]; exact hC, fun _ h => h, FO.of (FC.rf _ _ _ _ _ _ _ _) (fun _ _ => rfl), by rw [hpx]; decide, gO, hfo, fun h9 => absurd (hpx.symm.trans h9) (by decide)⟩
    · exact (o2n hpx).elim
  · obtain ⟨h0, rfl, hC1, hsub, hF⟩ := hp
    have hou := FC.oul hC hmo hfo hF
    have hmo1 := hsub _ hmo
    show W p l e _ s m _ below meth c _ _ _ _ _ (F0 m 7 ls [.int (iI ((oPgO nu σ).2.1)), .int (iI 0), .ref ou])
    refine x_i2l X dL_pageOf_7 ?_
    refine x_last X w hmo1 hou dL_pageOf_8 (fun H locs w => ?_)
    obtain ⟨f2, w, hou2, hu⟩ : ∃ f9, XW D A s.heap L1 f9 H locs ∧ f9 ou = .inl (cs.2.2, 1, .inr (.inl (vp_updL gO 0 (iL ((oPgO nu σ).2.1))))) ∧ (∀ b, b ≠ ou → f9 b = f1 b) := ⟨_, w, va_up_self _ _ _, fun b hb => va_up_ne _ _ hb⟩
    have hC2 := hC1.oul hou hu
    have hF2 := FO.of hF hu
    refine x_goto (tgt := 15) X (by decide) dL_pageOf_9 ?_
    refine x_iconst X dL_pageOf_15 ?_
    refine vx_ret ?_
    refine x_iret X w hr hlk ⟨by decide, by decide⟩ dL_pageOf_16 ?_
    exact ⟨by rw [h0], hC2, hsub, hF2, by rw [h0]; decide, _, hou2, fun _ => pk_uLs⟩

theorem k_L_sweep_X3_sweep : XV wsL_sweep RL 56 RX3 yX3_sweep cX3_sweep 1 none wsX3_sweep 0 := ⟨gL_sweep_X3_sweep, ⟨_, rfl⟩, rfl, by decide, by decide, by decide +kernel⟩
set_option maxHeartbeats 4000000 in
set_option maxRecDepth 100000 in
theorem c_L_sweep (l : Launch) (D : va_G) (cs : ClassId × ClassId × ClassId) (hl9 : l.stackTraces = false) (L : List Nat) (f0 : Nat → va_E) (x br ba pr sz lr : Nat) (σ : Sg) (hC : CC cs L f0 x br ba pr sz lr σ) (hI : Inv σ) : C1 l yL_sweep wsL_sweep ({ frames := 7, cells := 1, slots := 6, locals := 110 } : Room) D cs [.ref x] L f0 (fun v L1 f1 => LV cs L f0 x br ba pr sz lr (oSwe σ) v L1 f1) (fun _ => False) := by
  refine C1.ofH (cc := cL_sweep) (maxL := 2) (ret := (some .int)) (by decide) rfl (Nat.le_of_ble_eq_true rfl) ?_
  intro p e s m below meth c X hr hlk hout hV A hA hZ w ls hl
  have hl : lv_has ls 2 [(0, .ref x)] := hl
  refine x_al_n X hl 0 rfl rfl dL_sweep_0 ?_
  refine x_callV1 (As := []) (rest := []) (c1 := 1) (s1 := 6) X w hA hV hZ (c_X3_sweep l D cs hl9 L f0 x br ba pr sz lr σ hC hI) k_L_sweep_X3_sweep (by decide) hC.mx hC.fx rfl rfl rfl hl rfl (Nat.le_of_ble_eq_true rfl) (by decide) rfl rfl dL_sweep_1 (fun E ce a9 H locs w hpx hce hcv hcl => ?_) (fun v L1 f1 H locs w hp => ?_)
  · obtain ⟨hpx, rfl⟩ := hpx
    refine x_catchA (E := XIS) X hout (by decide +kernel) (by decide) (by decide) hV.2.1 hce hcv hcl ?_
    show W p l e _ s m _ below meth c _ _ _ _ _ (F0 m 7 ls [.ref a9])
    refine x_as_n (lv' := [(1, .ref a9), (0, .ref x)]) X hl rfl (by decide) rfl dL_sweep_7 (fun ls hl => ?_)
    refine x_iconst X dL_sweep_8 ?_
    refine vx_ret ?_
    refine x_iret X w hr hlk ⟨by decide, by decide⟩ dL_sweep_9 ?_
    have he9 : (oSwe σ).2.2 = σ := o2k (show (oSwe σ).1 ≠ 0 by rw [hpx]; decide)
    exact ⟨by rw [hpx], by rw [he9]; exact hC, fun _ h => h, FC.rf _ _ _ _ _ _ _ _, by rw [hpx]; decide⟩
  · obtain ⟨h0, rfl, hC1, hsub, hF⟩ := hp
    show W p l e _ s m _ below meth c _ _ _ _ _ (F0 m 4 ls [])
    refine x_goto (tgt := 10) X (by decide) dL_sweep_4 ?_
    refine x_iconst X dL_sweep_10 ?_
    refine vx_ret ?_
    refine x_iret X w hr hlk ⟨by decide, by decide⟩ dL_sweep_11 ?_
    exact ⟨by rw [h0], hC1, hsub, hF, by rw [h0]; decide⟩

theorem k_L_step_X3_step : XV wsL_step RL 59 RX3 yX3_step cX3_step 4 (some .int) wsX3_step 1 := ⟨gL_step_X3_step, ⟨_, rfl⟩, rfl, by decide, by decide, by decide +kernel⟩
set_option maxHeartbeats 4000000 in
set_option maxRecDepth 100000 in
theorem c_L_step (l : Launch) (D : va_G) (cs : ClassId × ClassId × ClassId) (hl9 : l.stackTraces = false) (L : List Nat) (f0 : Nat → va_E) (x br ba pr sz lr ou : Nat) (σ : Sg) (d : Int) (gO : Nat → Int64) (hC : CC cs L f0 x br ba pr sz lr σ) (hI : Inv σ) (hrg : (-2147483648 ≤ d ∧ d < 2147483648)) (hmo : ou ∈ L) (hfo : f0 ou = .inl (cs.2.2, 1, .inr (.inl gO))) : C1 l yL_step wsL_step ({ frames := 7, cells := 1, slots := 6, locals := 120 } : Room) D cs [.ref x, .int (iI d), .ref ou] L f0 (fun v L1 f1 => LO cs L f0 x br ba pr sz lr ou (oSte d σ) v L1 f1) (fun _ => False) := by
  refine C1.ofH (cc := cL_step) (maxL := 4) (ret := (some .int)) (by decide) rfl (Nat.le_of_ble_eq_true rfl) ?_
  intro p e s m below meth c X hr hlk hout hV A hA hZ w ls hl
  have hl : lv_has ls 4 [(0, .ref x), (1, .int (iI d)), (2, .ref ou)] := hl
  refine x_al_n X hl 2 rfl rfl dL_step_0 ?_
  refine x_iconst X dL_step_1 ?_
  refine x_al_n X hl 0 rfl rfl dL_step_2 ?_
  refine x_il_n X hl 1 rfl rfl dL_step_3 ?_
  refine x_callV1 (As := [.int (iI d)]) (rest := [.int (iI 0), .ref ou]) (c1 := 1) (s1 := 6) X w hA hV hZ (c_X3_step l D cs hl9 L f0 x br ba pr sz lr σ d hC hI hrg) k_L_step_X3_step (by decide) hC.mx hC.fx rfl rfl rfl hl rfl (Nat.le_of_ble_eq_true rfl) (by decide) rfl rfl dL_step_4 (fun E ce a9 H locs w hpx hce hcv hcl => ?_) (fun v L1 f1 H locs w hp => ?_)
  · rcases hpx with ⟨hpx, rfl⟩ | ⟨hpx, rfl⟩
    · refine x_catchA (E := XIA) X hout (by decide +kernel) (by decide) (by decide) hV.1 hce hcv hcl ?_
      show W p l e _ s m _ below meth c _ _ _ _ _ (F0 m 12 ls [.ref a9])
      refine x_as_n (lv' := [(3, .ref a9), (0, .ref x), (1, .int (iI d)), (2, .ref ou)]) X hl rfl (by decide) rfl dL_step_12 (fun ls hl => ?_)
      refine x_iconst X dL_step_13 ?_
      refine vx_ret ?_
      refine x_iret X w hr hlk ⟨by decide, by decide⟩ dL_step_14 ?_
      have he9 : (oSte d σ).2.2 = σ := o3k (show (oSte d σ).1 ≠ 0 by rw [hpx]; decide)
      exact ⟨by rw [hpx], by rw [he9]; exact hC, fun _ h => h, FO.of (FC.rf _ _ _ _ _ _ _ _) (fun _ _ => rfl), by rw [hpx]; decide, gO, hfo, fun h9 => absurd (hpx.symm.trans h9) (by decide)⟩
    · refine x_catchB (E := XIS) (E1 := XIA) X hout (by decide +kernel) (by decide) hV.2.2.2.1 (by decide +kernel) (by decide) (by decide) hV.2.1 hce hcv hcl ?_
      show W p l e _ s m _ below meth c _ _ _ _ _ (F0 m 15 ls [.ref a9])
      refine x_as_n (lv' := [(3, .ref a9), (0, .ref x), (1, .int (iI d)), (2, .ref ou)]) X hl rfl (by decide) rfl dL_step_15 (fun ls hl => ?_)
      refine x_iconst X dL_step_16 ?_
      refine vx_ret ?_
      refine x_iret X w hr hlk ⟨by decide, by decide⟩ dL_step_17 ?_
      have he9 : (oSte d σ).2.2 = σ := o3k (show (oSte d σ).1 ≠ 0 by rw [hpx]; decide)
      exact ⟨by rw [hpx], by rw [he9]; exact hC, fun _ h => h, FO.of (FC.rf _ _ _ _ _ _ _ _) (fun _ _ => rfl), by rw [hpx]; decide, gO, hfo, fun h9 => absurd (hpx.symm.trans h9) (by decide)⟩
  · obtain ⟨h0, rfl, hC1, hsub, hF⟩ := hp
    have hou := FC.oul hC hmo hfo hF
    have hmo1 := hsub _ hmo
    show W p l e _ s m _ below meth c _ _ _ _ _ (F0 m 7 ls [.int (iI ((oSte d σ).2.1)), .int (iI 0), .ref ou])
    refine x_i2l X dL_step_7 ?_
    refine x_last X w hmo1 hou dL_step_8 (fun H locs w => ?_)
    obtain ⟨f2, w, hou2, hu⟩ : ∃ f9, XW D A s.heap L1 f9 H locs ∧ f9 ou = .inl (cs.2.2, 1, .inr (.inl (vp_updL gO 0 (iL ((oSte d σ).2.1))))) ∧ (∀ b, b ≠ ou → f9 b = f1 b) := ⟨_, w, va_up_self _ _ _, fun b hb => va_up_ne _ _ hb⟩
    have hC2 := hC1.oul hou hu
    have hF2 := FO.of hF hu
    refine x_goto (tgt := 18) X (by decide) dL_step_9 ?_
    refine x_iconst X dL_step_18 ?_
    refine vx_ret ?_
    refine x_iret X w hr hlk ⟨by decide, by decide⟩ dL_step_19 ?_
    exact ⟨by rw [h0], hC2, hsub, hF2, by rw [h0]; decide, _, hou2, fun _ => pk_uLs⟩

theorem k_L_walk_X3_walk : XV wsL_walk RL 62 RX3 yX3_walk cX3_walk 2 (some .int) wsX3_walk 1 := ⟨gL_walk_X3_walk, ⟨_, rfl⟩, rfl, by decide, by decide, by decide +kernel⟩
set_option maxHeartbeats 4000000 in
set_option maxRecDepth 100000 in
theorem c_L_walk (l : Launch) (D : va_G) (cs : ClassId × ClassId × ClassId) (hl9 : l.stackTraces = false) (L : List Nat) (f0 : Nat → va_E) (x br ba pr sz lr ou : Nat) (σ : Sg) (rd : Int) (gO : Nat → Int64) (hC : CC cs L f0 x br ba pr sz lr σ) (hI : Inv σ) (hrg : (-2147483648 ≤ rd ∧ rd < 2147483648)) (hmo : ou ∈ L) (hfo : f0 ou = .inl (cs.2.2, 1, .inr (.inl gO))) : C1 l yL_walk wsL_walk ({ frames := 7, cells := 1, slots := 6, locals := 111 } : Room) D cs [.ref x, .int (iI rd), .ref ou] L f0 (fun v L1 f1 => LO cs L f0 x br ba pr sz lr ou (oWal rd σ) v L1 f1) (fun _ => False) := by
  refine C1.ofH (cc := cL_walk) (maxL := 4) (ret := (some .int)) (by decide) rfl (Nat.le_of_ble_eq_true rfl) ?_
  intro p e s m below meth c X hr hlk hout hV A hA hZ w ls hl
  have hl : lv_has ls 4 [(0, .ref x), (1, .int (iI rd)), (2, .ref ou)] := hl
  refine x_al_n X hl 2 rfl rfl dL_walk_0 ?_
  refine x_iconst X dL_walk_1 ?_
  refine x_al_n X hl 0 rfl rfl dL_walk_2 ?_
  refine x_il_n X hl 1 rfl rfl dL_walk_3 ?_
  refine x_callV1 (As := [.int (iI rd)]) (rest := [.int (iI 0), .ref ou]) (c1 := 1) (s1 := 6) X w hA hV hZ (c_X3_walk l D cs hl9 L f0 x br ba pr sz lr σ rd hC hI hrg) k_L_walk_X3_walk (by decide) hC.mx hC.fx rfl rfl rfl hl rfl (Nat.le_of_ble_eq_true rfl) (by decide) rfl rfl dL_walk_4 (fun E ce a9 H locs w hpx hce hcv hcl => ?_) (fun v L1 f1 H locs w hp => ?_)
  · rcases hpx with ⟨hpx, rfl⟩ | ⟨hpx, rfl⟩
    · refine x_catchA (E := XIA) X hout (by decide +kernel) (by decide) (by decide) hV.1 hce hcv hcl ?_
      show W p l e _ s m _ below meth c _ _ _ _ _ (F0 m 12 ls [.ref a9])
      refine x_as_n (lv' := [(3, .ref a9), (0, .ref x), (1, .int (iI rd)), (2, .ref ou)]) X hl rfl (by decide) rfl dL_walk_12 (fun ls hl => ?_)
      refine x_iconst X dL_walk_13 ?_
      refine vx_ret ?_
      refine x_iret X w hr hlk ⟨by decide, by decide⟩ dL_walk_14 ?_
      have he9 : (oWal rd σ).2.2 = σ := o2k (show (oWal rd σ).1 ≠ 0 by rw [hpx]; decide)
      exact ⟨by rw [hpx], by rw [he9]; exact hC, fun _ h => h, FO.of (FC.rf _ _ _ _ _ _ _ _) (fun _ _ => rfl), by rw [hpx]; decide, gO, hfo, fun h9 => absurd (hpx.symm.trans h9) (by decide)⟩
    · exact (o2n hpx).elim
  · obtain ⟨h0, rfl, hC1, hsub, hF⟩ := hp
    have hou := FC.oul hC hmo hfo hF
    have hmo1 := hsub _ hmo
    show W p l e _ s m _ below meth c _ _ _ _ _ (F0 m 7 ls [.int (iI ((oWal rd σ).2.1)), .int (iI 0), .ref ou])
    refine x_i2l X dL_walk_7 ?_
    refine x_last X w hmo1 hou dL_walk_8 (fun H locs w => ?_)
    obtain ⟨f2, w, hou2, hu⟩ : ∃ f9, XW D A s.heap L1 f9 H locs ∧ f9 ou = .inl (cs.2.2, 1, .inr (.inl (vp_updL gO 0 (iL ((oWal rd σ).2.1))))) ∧ (∀ b, b ≠ ou → f9 b = f1 b) := ⟨_, w, va_up_self _ _ _, fun b hb => va_up_ne _ _ hb⟩
    have hC2 := hC1.oul hou hu
    have hF2 := FO.of hF hu
    refine x_goto (tgt := 15) X (by decide) dL_walk_9 ?_
    refine x_iconst X dL_walk_15 ?_
    refine vx_ret ?_
    refine x_iret X w hr hlk ⟨by decide, by decide⟩ dL_walk_16 ?_
    exact ⟨by rw [h0], hC2, hsub, hF2, by rw [h0]; decide, _, hou2, fun _ => pk_uLs⟩
