/-! the law's small methods -/
theorem k_L_put_X3_put : XV wsL_put RL 8 RX3 yX3_put cX3_put 5 (some .int) wsX3_put 3 := ⟨gL_put_X3_put, ⟨_, rfl⟩, rfl, by decide, by decide, by decide +kernel⟩
set_option maxHeartbeats 4000000 in
set_option maxRecDepth 100000 in
theorem c_L_put (l : Launch) (D : va_G) (cs : ClassId × ClassId × ClassId) (hl9 : l.stackTraces = false) (L : List Nat) (f0 : Nat → va_E) (x br ba pr sz lr : Nat) (σ : Sg) (nu su sy : Int) (hC : CC cs L f0 x br ba pr sz lr σ) (hI : Inv σ) (hrg : (-2147483648 ≤ nu ∧ nu < 2147483648) ∧ (-2147483648 ≤ su ∧ su < 2147483648) ∧ (-2147483648 ≤ sy ∧ sy < 2147483648)) : C1 l yL_put wsL_put ({ frames := 8, cells := 2, slots := 12, locals := 144 } : Room) D cs [.ref x, .int (iI nu), .int (iI su), .int (iI sy)] L f0 (fun v L1 f1 => v = some (.int (iI (tv (oPut nu su sy σ)))) ∧ CC cs L1 f1 x br ba pr sz lr (oPut nu su sy σ).2.2) (fun _ => False) := by
  refine C1.ofH (cc := cL_put) (maxL := 5) (ret := (some .int)) (by decide) rfl (Nat.le_of_ble_eq_true rfl) ?_
  intro p e s m below meth c X hr hlk hout hV A hA hZ w ls hl
  have hl : lv_has ls 5 [(0, .ref x), (1, .int (iI nu)), (2, .int (iI su)), (3, .int (iI sy))] := hl
  refine x_al_n X hl 0 rfl rfl dL_put_0 ?_
  refine x_il_n X hl 1 rfl rfl dL_put_1 ?_
  refine x_il_n X hl 2 rfl rfl dL_put_2 ?_
  refine x_il_n X hl 3 rfl rfl dL_put_3 ?_
  refine x_callV1 (As := [.int (iI nu), .int (iI su), .int (iI sy)]) (rest := []) (c1 := 2) (s1 := 12) X w hA hV hZ (c_X3_put l D cs hl9 L f0 x br ba pr sz lr σ nu su sy hC hI hrg) k_L_put_X3_put (by decide) hC.mx hC.fx rfl rfl rfl hl rfl (Nat.le_of_ble_eq_true rfl) (by decide) rfl rfl dL_put_4 (fun E ce a9 H locs w hpx hce hcv hcl => ?_) (fun v L1 f1 H locs w hp => ?_)
  · rcases hpx with ⟨hpx, rfl⟩ | ⟨hpx, rfl⟩
    · refine x_catchA (E := XIA) X hout (by decide +kernel) (by decide) (by decide) hV.1 hce hcv hcl ?_
      show W p l e _ s m _ below meth c _ _ _ _ _ (F0 m 8 ls [.ref a9])
      refine x_as (lv' := [(4, .ref a9), (0, .ref x), (1, .int (iI nu)), (2, .int (iI su)), (3, .int (iI sy))]) X hl (by decide) rfl dL_put_8 (fun ls hl => ?_)
      refine x_ldc (z := -99999) (v := (-99999 : Int32)) X (by decide +kernel) (by decide +kernel) dL_put_10 ?_
      refine vx_ret ?_
      refine x_iret X w hr hlk ⟨by decide, by decide⟩ dL_put_12 ?_
      have hne9 : (oPut nu su sy σ).1 ≠ 0 := by rw [hpx]; decide
      have he9 : (oPut nu su sy σ).2.2 = σ := o3k hne9
      exact ⟨by rw [tv_t hne9], by rw [he9]; exact hC⟩
    · refine x_catchB (E := XIS) (E1 := XIA) X hout (by decide +kernel) (by decide) hV.2.2.2.1 (by decide +kernel) (by decide) (by decide) hV.2.1 hce hcv hcl ?_
      show W p l e _ s m _ below meth c _ _ _ _ _ (F0 m 13 ls [.ref a9])
      refine x_as (lv' := [(4, .ref a9), (0, .ref x), (1, .int (iI nu)), (2, .int (iI su)), (3, .int (iI sy))]) X hl (by decide) rfl dL_put_13 (fun ls hl => ?_)
      refine x_ldc (z := -99999) (v := (-99999 : Int32)) X (by decide +kernel) (by decide +kernel) dL_put_15 ?_
      refine vx_ret ?_
      refine x_iret X w hr hlk ⟨by decide, by decide⟩ dL_put_17 ?_
      have hne9 : (oPut nu su sy σ).1 ≠ 0 := by rw [hpx]; decide
      have he9 : (oPut nu su sy σ).2.2 = σ := o3k hne9
      exact ⟨by rw [tv_t hne9], by rw [he9]; exact hC⟩
  · obtain ⟨h0, rfl, hC1, hsub, hF⟩ := hp
    show W p l e _ s m _ below meth c _ _ _ _ _ (F0 m 7 ls [.int (iI ((oPut nu su sy σ).2.1))])
    refine vx_ret ?_
    refine x_iret X w hr hlk ⟨by decide, by decide⟩ dL_put_7 ?_
    exact ⟨by rw [tv_0 h0], hC1⟩

theorem k_L_payBack_X3_payBack : XV wsL_payBack RL 19 RX3 yX3_payBack cX3_payBack 3 (some .int) wsX3_payBack 1 := ⟨gL_payBack_X3_payBack, ⟨_, rfl⟩, rfl, by decide, by decide, by decide +kernel⟩
set_option maxHeartbeats 4000000 in
set_option maxRecDepth 100000 in
theorem c_L_payBack (l : Launch) (D : va_G) (cs : ClassId × ClassId × ClassId) (hl9 : l.stackTraces = false) (L : List Nat) (f0 : Nat → va_E) (x br ba pr sz lr : Nat) (σ : Sg) (nu : Int) (hC : CC cs L f0 x br ba pr sz lr σ) (hI : Inv σ) (hrg : (-2147483648 ≤ nu ∧ nu < 2147483648)) : C1 l yL_payBack wsL_payBack ({ frames := 8, cells := 2, slots := 12, locals := 162 } : Room) D cs [.ref x, .int (iI nu)] L f0 (fun v L1 f1 => v = some (.int (iI (tv (oPay nu σ)))) ∧ CC cs L1 f1 x br ba pr sz lr (oPay nu σ).2.2) (fun _ => False) := by
  refine C1.ofH (cc := cL_payBack) (maxL := 3) (ret := (some .int)) (by decide) rfl (Nat.le_of_ble_eq_true rfl) ?_
  intro p e s m below meth c X hr hlk hout hV A hA hZ w ls hl
  have hl : lv_has ls 3 [(0, .ref x), (1, .int (iI nu))] := hl
  refine x_al_n X hl 0 rfl rfl dL_payBack_0 ?_
  refine x_il_n X hl 1 rfl rfl dL_payBack_1 ?_
  refine x_callV1 (As := [.int (iI nu)]) (rest := []) (c1 := 2) (s1 := 12) X w hA hV hZ (c_X3_payBack l D cs hl9 L f0 x br ba pr sz lr σ nu hC hI hrg) k_L_payBack_X3_payBack (by decide) hC.mx hC.fx rfl rfl rfl hl rfl (Nat.le_of_ble_eq_true rfl) (by decide) rfl rfl dL_payBack_2 (fun E ce a9 H locs w hpx hce hcv hcl => ?_) (fun v L1 f1 H locs w hp => ?_)
  · rcases hpx with ⟨hpx, rfl⟩ | ⟨hpx, rfl⟩
    · refine x_catchA (E := XIA) X hout (by decide +kernel) (by decide) (by decide) hV.1 hce hcv hcl ?_
      show W p l e _ s m _ below meth c _ _ _ _ _ (F0 m 6 ls [.ref a9])
      refine x_as_n (lv' := [(2, .ref a9), (0, .ref x), (1, .int (iI nu))]) X hl rfl (by decide) rfl dL_payBack_6 (fun ls hl => ?_)
      refine x_ldc (z := -99999) (v := (-99999 : Int32)) X (by decide +kernel) (by decide +kernel) dL_payBack_7 ?_
      refine vx_ret ?_
      refine x_iret X w hr hlk ⟨by decide, by decide⟩ dL_payBack_9 ?_
      have hne9 : (oPay nu σ).1 ≠ 0 := by rw [hpx]; decide
      have he9 : (oPay nu σ).2.2 = σ := o3k hne9
      exact ⟨by rw [tv_t hne9], by rw [he9]; exact hC⟩
    · refine x_catchB (E := XIS) (E1 := XIA) X hout (by decide +kernel) (by decide) hV.2.2.2.1 (by decide +kernel) (by decide) (by decide) hV.2.1 hce hcv hcl ?_
      show W p l e _ s m _ below meth c _ _ _ _ _ (F0 m 10 ls [.ref a9])
      refine x_as_n (lv' := [(2, .ref a9), (0, .ref x), (1, .int (iI nu))]) X hl rfl (by decide) rfl dL_payBack_10 (fun ls hl => ?_)
      refine x_ldc (z := -99999) (v := (-99999 : Int32)) X (by decide +kernel) (by decide +kernel) dL_payBack_11 ?_
      refine vx_ret ?_
      refine x_iret X w hr hlk ⟨by decide, by decide⟩ dL_payBack_13 ?_
      have hne9 : (oPay nu σ).1 ≠ 0 := by rw [hpx]; decide
      have he9 : (oPay nu σ).2.2 = σ := o3k hne9
      exact ⟨by rw [tv_t hne9], by rw [he9]; exact hC⟩
  · obtain ⟨h0, rfl, hC1, hsub, hF⟩ := hp
    show W p l e _ s m _ below meth c _ _ _ _ _ (F0 m 5 ls [.int (iI ((oPay nu σ).2.1))])
    refine vx_ret ?_
    refine x_iret X w hr hlk ⟨by decide, by decide⟩ dL_payBack_5 ?_
    exact ⟨by rw [tv_0 h0], hC1⟩

theorem k_L_forfeit_X3_forfeit : XV wsL_forfeit RL 23 RX3 yX3_forfeit cX3_forfeit 3 none wsX3_forfeit 1 := ⟨gL_forfeit_X3_forfeit, ⟨_, rfl⟩, rfl, by decide, by decide, by decide +kernel⟩
set_option maxHeartbeats 4000000 in
set_option maxRecDepth 100000 in
theorem c_L_forfeit (l : Launch) (D : va_G) (cs : ClassId × ClassId × ClassId) (hl9 : l.stackTraces = false) (L : List Nat) (f0 : Nat → va_E) (x br ba pr sz lr : Nat) (σ : Sg) (nu : Int) (hC : CC cs L f0 x br ba pr sz lr σ) (hI : Inv σ) (hrg : (-2147483648 ≤ nu ∧ nu < 2147483648)) : C1 l yL_forfeit wsL_forfeit ({ frames := 8, cells := 2, slots := 12, locals := 142 } : Room) D cs [.ref x, .int (iI nu)] L f0 (fun v L1 f1 => v = some (.int (iI (tv (oFor nu σ)))) ∧ CC cs L1 f1 x br ba pr sz lr (oFor nu σ).2.2) (fun _ => False) := by
  refine C1.ofH (cc := cL_forfeit) (maxL := 3) (ret := (some .int)) (by decide) rfl (Nat.le_of_ble_eq_true rfl) ?_
  intro p e s m below meth c X hr hlk hout hV A hA hZ w ls hl
  have hl : lv_has ls 3 [(0, .ref x), (1, .int (iI nu))] := hl
  refine x_al_n X hl 0 rfl rfl dL_forfeit_0 ?_
  refine x_il_n X hl 1 rfl rfl dL_forfeit_1 ?_
  refine x_callV1 (As := [.int (iI nu)]) (rest := []) (c1 := 2) (s1 := 12) X w hA hV hZ (c_X3_forfeit l D cs hl9 L f0 x br ba pr sz lr σ nu hC hI hrg) k_L_forfeit_X3_forfeit (by decide) hC.mx hC.fx rfl rfl rfl hl rfl (Nat.le_of_ble_eq_true rfl) (by decide) rfl rfl dL_forfeit_2 (fun E ce a9 H locs w hpx hce hcv hcl => ?_) (fun v L1 f1 H locs w hp => ?_)
  · rcases hpx with ⟨hpx, rfl⟩ | ⟨hpx, rfl⟩
    · refine x_catchA (E := XIA) X hout (by decide +kernel) (by decide) (by decide) hV.1 hce hcv hcl ?_
      show W p l e _ s m _ below meth c _ _ _ _ _ (F0 m 7 ls [.ref a9])
      refine x_as_n (lv' := [(2, .ref a9), (0, .ref x), (1, .int (iI nu))]) X hl rfl (by decide) rfl dL_forfeit_7 (fun ls hl => ?_)
      refine x_ldc (z := -99999) (v := (-99999 : Int32)) X (by decide +kernel) (by decide +kernel) dL_forfeit_8 ?_
      refine vx_ret ?_
      refine x_iret X w hr hlk ⟨by decide, by decide⟩ dL_forfeit_10 ?_
      have hne9 : (oFor nu σ).1 ≠ 0 := by rw [hpx]; decide
      have he9 : (oFor nu σ).2.2 = σ := o3k hne9
      exact ⟨by rw [tv_t hne9], by rw [he9]; exact hC⟩
    · refine x_catchB (E := XIS) (E1 := XIA) X hout (by decide +kernel) (by decide) hV.2.2.2.1 (by decide +kernel) (by decide) (by decide) hV.2.1 hce hcv hcl ?_
      show W p l e _ s m _ below meth c _ _ _ _ _ (F0 m 11 ls [.ref a9])
      refine x_as_n (lv' := [(2, .ref a9), (0, .ref x), (1, .int (iI nu))]) X hl rfl (by decide) rfl dL_forfeit_11 (fun ls hl => ?_)
      refine x_ldc (z := -99999) (v := (-99999 : Int32)) X (by decide +kernel) (by decide +kernel) dL_forfeit_12 ?_
      refine vx_ret ?_
      refine x_iret X w hr hlk ⟨by decide, by decide⟩ dL_forfeit_14 ?_
      have hne9 : (oFor nu σ).1 ≠ 0 := by rw [hpx]; decide
      have he9 : (oFor nu σ).2.2 = σ := o3k hne9
      exact ⟨by rw [tv_t hne9], by rw [he9]; exact hC⟩
  · obtain ⟨h0, rfl, hC1, hsub, hF⟩ := hp
    show W p l e _ s m _ below meth c _ _ _ _ _ (F0 m 5 ls [])
    refine x_iconst X dL_forfeit_5 ?_
    refine vx_ret ?_
    refine x_iret X w hr hlk ⟨by decide, by decide⟩ dL_forfeit_6 ?_
    exact ⟨by rw [tv_0 h0, oFor_0], hC1⟩

theorem k_L_undo_X3_undo : XV wsL_undo RL 27 RX3 yX3_undo cX3_undo 4 (some .int) wsX3_undo 1 := ⟨gL_undo_X3_undo, ⟨_, rfl⟩, rfl, by decide, by decide, by decide +kernel⟩
set_option maxHeartbeats 4000000 in
set_option maxRecDepth 100000 in
theorem c_L_undo (l : Launch) (D : va_G) (cs : ClassId × ClassId × ClassId) (hl9 : l.stackTraces = false) (L : List Nat) (f0 : Nat → va_E) (x br ba pr sz lr : Nat) (σ : Sg) (nu : Int) (hC : CC cs L f0 x br ba pr sz lr σ) (hI : Inv σ) (hrg : (-2147483648 ≤ nu ∧ nu < 2147483648)) : C1 l yL_undo wsL_undo ({ frames := 8, cells := 2, slots := 12, locals := 143 } : Room) D cs [.ref x, .int (iI nu)] L f0 (fun v L1 f1 => v = some (.int (iI (tv (oUnd nu σ)))) ∧ CC cs L1 f1 x br ba pr sz lr (oUnd nu σ).2.2) (fun _ => False) := by
  refine C1.ofH (cc := cL_undo) (maxL := 3) (ret := (some .int)) (by decide) rfl (Nat.le_of_ble_eq_true rfl) ?_
  intro p e s m below meth c X hr hlk hout hV A hA hZ w ls hl
  have hl : lv_has ls 3 [(0, .ref x), (1, .int (iI nu))] := hl
  refine x_al_n X hl 0 rfl rfl dL_undo_0 ?_
  refine x_il_n X hl 1 rfl rfl dL_undo_1 ?_
  refine x_callV1 (As := [.int (iI nu)]) (rest := []) (c1 := 2) (s1 := 12) X w hA hV hZ (c_X3_undo l D cs hl9 L f0 x br ba pr sz lr σ nu hC hI hrg) k_L_undo_X3_undo (by decide) hC.mx hC.fx rfl rfl rfl hl rfl (Nat.le_of_ble_eq_true rfl) (by decide) rfl rfl dL_undo_2 (fun E ce a9 H locs w hpx hce hcv hcl => ?_) (fun v L1 f1 H locs w hp => ?_)
  · rcases hpx with ⟨hpx, rfl⟩ | ⟨hpx, rfl⟩
    · refine x_catchA (E := XIA) X hout (by decide +kernel) (by decide) (by decide) hV.1 hce hcv hcl ?_
      show W p l e _ s m _ below meth c _ _ _ _ _ (F0 m 6 ls [.ref a9])
      refine x_as_n (lv' := [(2, .ref a9), (0, .ref x), (1, .int (iI nu))]) X hl rfl (by decide) rfl dL_undo_6 (fun ls hl => ?_)
      refine x_ldc (z := -99999) (v := (-99999 : Int32)) X (by decide +kernel) (by decide +kernel) dL_undo_7 ?_
      refine vx_ret ?_
      refine x_iret X w hr hlk ⟨by decide, by decide⟩ dL_undo_9 ?_
      have hne9 : (oUnd nu σ).1 ≠ 0 := by rw [hpx]; decide
      have he9 : (oUnd nu σ).2.2 = σ := o3k hne9
      exact ⟨by rw [tv_t hne9], by rw [he9]; exact hC⟩
    · refine x_catchB (E := XIS) (E1 := XIA) X hout (by decide +kernel) (by decide) hV.2.2.2.1 (by decide +kernel) (by decide) (by decide) hV.2.1 hce hcv hcl ?_
      show W p l e _ s m _ below meth c _ _ _ _ _ (F0 m 10 ls [.ref a9])
      refine x_as_n (lv' := [(2, .ref a9), (0, .ref x), (1, .int (iI nu))]) X hl rfl (by decide) rfl dL_undo_10 (fun ls hl => ?_)
      refine x_ldc (z := -99999) (v := (-99999 : Int32)) X (by decide +kernel) (by decide +kernel) dL_undo_11 ?_
      refine vx_ret ?_
      refine x_iret X w hr hlk ⟨by decide, by decide⟩ dL_undo_13 ?_
      have hne9 : (oUnd nu σ).1 ≠ 0 := by rw [hpx]; decide
      have he9 : (oUnd nu σ).2.2 = σ := o3k hne9
      exact ⟨by rw [tv_t hne9], by rw [he9]; exact hC⟩
  · obtain ⟨h0, rfl, hC1, hsub, hF⟩ := hp
    show W p l e _ s m _ below meth c _ _ _ _ _ (F0 m 5 ls [.int (iI ((oUnd nu σ).2.1))])
    refine vx_ret ?_
    refine x_iret X w hr hlk ⟨by decide, by decide⟩ dL_undo_5 ?_
    exact ⟨by rw [tv_0 h0], hC1⟩

theorem k_L_amnesty_X3_amnesty : XV wsL_amnesty RL 30 RX3 yX3_amnesty cX3_amnesty 7 (some .int) wsX3_amnesty 2 := ⟨gL_amnesty_X3_amnesty, ⟨_, rfl⟩, rfl, by decide, by decide, by decide +kernel⟩
set_option maxHeartbeats 4000000 in
set_option maxRecDepth 100000 in
theorem c_L_amnesty (l : Launch) (D : va_G) (cs : ClassId × ClassId × ClassId) (hl9 : l.stackTraces = false) (L : List Nat) (f0 : Nat → va_E) (x br ba pr sz lr : Nat) (σ : Sg) (su dy : Int) (hC : CC cs L f0 x br ba pr sz lr σ) (hI : Inv σ) (hrg : (-2147483648 ≤ su ∧ su < 2147483648) ∧ (-2147483648 ≤ dy ∧ dy < 2147483648)) : C1 l yL_amnesty wsL_amnesty ({ frames := 8, cells := 1, slots := 6, locals := 166 } : Room) D cs [.ref x, .int (iI su), .int (iI dy)] L f0 (fun v L1 f1 => v = some (.int (iI (tv (oAmn su dy σ)))) ∧ CC cs L1 f1 x br ba pr sz lr (oAmn su dy σ).2.2) (fun _ => False) := by
  refine C1.ofH (cc := cL_amnesty) (maxL := 4) (ret := (some .int)) (by decide) rfl (Nat.le_of_ble_eq_true rfl) ?_
  intro p e s m below meth c X hr hlk hout hV A hA hZ w ls hl
  have hl : lv_has ls 4 [(0, .ref x), (1, .int (iI su)), (2, .int (iI dy))] := hl
  refine x_al_n X hl 0 rfl rfl dL_amnesty_0 ?_
  refine x_il_n X hl 1 rfl rfl dL_amnesty_1 ?_
  refine x_il_n X hl 2 rfl rfl dL_amnesty_2 ?_
  refine x_callV1 (As := [.int (iI su), .int (iI dy)]) (rest := []) (c1 := 1) (s1 := 6) X w hA hV hZ (c_X3_amnesty l D cs hl9 L f0 x br ba pr sz lr σ su dy hC hI hrg) k_L_amnesty_X3_amnesty (by decide) hC.mx hC.fx rfl rfl rfl hl rfl (Nat.le_of_ble_eq_true rfl) (by decide) rfl rfl dL_amnesty_3 (fun E ce a9 H locs w hpx hce hcv hcl => ?_) (fun v L1 f1 H locs w hp => ?_)
  · rcases hpx with ⟨hpx, rfl⟩ | ⟨hpx, rfl⟩
    · refine x_catchA (E := XIA) X hout (by decide +kernel) (by decide) (by decide) hV.1 hce hcv hcl ?_
      show W p l e _ s m _ below meth c _ _ _ _ _ (F0 m 7 ls [.ref a9])
      refine x_as_n (lv' := [(3, .ref a9), (0, .ref x), (1, .int (iI su)), (2, .int (iI dy))]) X hl rfl (by decide) rfl dL_amnesty_7 (fun ls hl => ?_)
      refine x_ldc (z := -99999) (v := (-99999 : Int32)) X (by decide +kernel) (by decide +kernel) dL_amnesty_8 ?_
      refine vx_ret ?_
      refine x_iret X w hr hlk ⟨by decide, by decide⟩ dL_amnesty_10 ?_
      have hne9 : (oAmn su dy σ).1 ≠ 0 := by rw [hpx]; decide
      have he9 : (oAmn su dy σ).2.2 = σ := o2k hne9
      exact ⟨by rw [tv_t hne9], by rw [he9]; exact hC⟩
    · exact (o2n hpx).elim
  · obtain ⟨h0, rfl, hC1, hsub, hF⟩ := hp
    show W p l e _ s m _ below meth c _ _ _ _ _ (F0 m 6 ls [.int (iI ((oAmn su dy σ).2.1))])
    refine vx_ret ?_
    refine x_iret X w hr hlk ⟨by decide, by decide⟩ dL_amnesty_6 ?_
    exact ⟨by rw [tv_0 h0], hC1⟩

theorem k_L_pass_X3_pass : XV wsL_pass RL 34 RX3 yX3_pass cX3_pass 4 (some .int) wsX3_pass 1 := ⟨gL_pass_X3_pass, ⟨_, rfl⟩, rfl, by decide, by decide, by decide +kernel⟩
set_option maxHeartbeats 4000000 in
set_option maxRecDepth 100000 in
theorem c_L_pass (l : Launch) (D : va_G) (cs : ClassId × ClassId × ClassId) (hl9 : l.stackTraces = false) (L : List Nat) (f0 : Nat → va_E) (x br ba pr sz lr : Nat) (σ : Sg) (d : Int) (hC : CC cs L f0 x br ba pr sz lr σ) (hI : Inv σ) (hrg : (-2147483648 ≤ d ∧ d < 2147483648)) : C1 l yL_pass wsL_pass ({ frames := 9, cells := 1, slots := 6, locals := 187 } : Room) D cs [.ref x, .int (iI d)] L f0 (fun v L1 f1 => v = some (.int (iI (tv (oPas d σ)))) ∧ CC cs L1 f1 x br ba pr sz lr (oPas d σ).2.2) (fun _ => False) := by
  refine C1.ofH (cc := cL_pass) (maxL := 3) (ret := (some .int)) (by decide) rfl (Nat.le_of_ble_eq_true rfl) ?_
  intro p e s m below meth c X hr hlk hout hV A hA hZ w ls hl
  have hl : lv_has ls 3 [(0, .ref x), (1, .int (iI d))] := hl
  refine x_al_n X hl 0 rfl rfl dL_pass_0 ?_
  refine x_il_n X hl 1 rfl rfl dL_pass_1 ?_
  refine x_callV1 (As := [.int (iI d)]) (rest := []) (c1 := 1) (s1 := 6) X w hA hV hZ (c_X3_pass l D cs hl9 L f0 x br ba pr sz lr σ d hC hI hrg) k_L_pass_X3_pass (by decide) hC.mx hC.fx rfl rfl rfl hl rfl (Nat.le_of_ble_eq_true rfl) (by decide) rfl rfl dL_pass_2 (fun E ce a9 H locs w hpx hce hcv hcl => ?_) (fun v L1 f1 H locs w hp => ?_)
  · rcases hpx with ⟨hpx, rfl⟩ | ⟨hpx, rfl⟩
    · refine x_catchA (E := XIA) X hout (by decide +kernel) (by decide) (by decide) hV.1 hce hcv hcl ?_
      show W p l e _ s m _ below meth c _ _ _ _ _ (F0 m 6 ls [.ref a9])
      refine x_as_n (lv' := [(2, .ref a9), (0, .ref x), (1, .int (iI d))]) X hl rfl (by decide) rfl dL_pass_6 (fun ls hl => ?_)
      refine x_ldc (z := -99999) (v := (-99999 : Int32)) X (by decide +kernel) (by decide +kernel) dL_pass_7 ?_
      refine vx_ret ?_
      refine x_iret X w hr hlk ⟨by decide, by decide⟩ dL_pass_9 ?_
      have hne9 : (oPas d σ).1 ≠ 0 := by rw [hpx]; decide
      have he9 : (oPas d σ).2.2 = σ := o3k hne9
      exact ⟨by rw [tv_t hne9], by rw [he9]; exact hC⟩
    · refine x_catchB (E := XIS) (E1 := XIA) X hout (by decide +kernel) (by decide) hV.2.2.2.1 (by decide +kernel) (by decide) (by decide) hV.2.1 hce hcv hcl ?_
      show W p l e _ s m _ below meth c _ _ _ _ _ (F0 m 10 ls [.ref a9])
      refine x_as_n (lv' := [(2, .ref a9), (0, .ref x), (1, .int (iI d))]) X hl rfl (by decide) rfl dL_pass_10 (fun ls hl => ?_)
      refine x_ldc (z := -99999) (v := (-99999 : Int32)) X (by decide +kernel) (by decide +kernel) dL_pass_11 ?_
      refine vx_ret ?_
      refine x_iret X w hr hlk ⟨by decide, by decide⟩ dL_pass_13 ?_
      have hne9 : (oPas d σ).1 ≠ 0 := by rw [hpx]; decide
      have he9 : (oPas d σ).2.2 = σ := o3k hne9
      exact ⟨by rw [tv_t hne9], by rw [he9]; exact hC⟩
  · obtain ⟨h0, rfl, hC1, hsub, hF⟩ := hp
    show W p l e _ s m _ below meth c _ _ _ _ _ (F0 m 5 ls [.int (iI ((oPas d σ).2.1))])
    refine vx_ret ?_
    refine x_iret X w hr hlk ⟨by decide, by decide⟩ dL_pass_5 ?_
    exact ⟨by rw [tv_0 h0], hC1⟩

theorem k_L_sweep_X3_sweep : XV wsL_sweep RL 37 RX3 yX3_sweep cX3_sweep 1 none wsX3_sweep 0 := ⟨gL_sweep_X3_sweep, ⟨_, rfl⟩, rfl, by decide, by decide, by decide +kernel⟩
set_option maxHeartbeats 4000000 in
set_option maxRecDepth 100000 in
theorem c_L_sweep (l : Launch) (D : va_G) (cs : ClassId × ClassId × ClassId) (hl9 : l.stackTraces = false) (L : List Nat) (f0 : Nat → va_E) (x br ba pr sz lr : Nat) (σ : Sg) (hC : CC cs L f0 x br ba pr sz lr σ) (hI : Inv σ) : C1 l yL_sweep wsL_sweep ({ frames := 7, cells := 1, slots := 6, locals := 110 } : Room) D cs [.ref x] L f0 (fun v L1 f1 => v = some (.int (iI (tv (oSwe σ)))) ∧ CC cs L1 f1 x br ba pr sz lr (oSwe σ).2.2) (fun _ => False) := by
  refine C1.ofH (cc := cL_sweep) (maxL := 2) (ret := (some .int)) (by decide) rfl (Nat.le_of_ble_eq_true rfl) ?_
  intro p e s m below meth c X hr hlk hout hV A hA hZ w ls hl
  have hl : lv_has ls 2 [(0, .ref x)] := hl
  refine x_al_n X hl 0 rfl rfl dL_sweep_0 ?_
  refine x_callV1 (As := []) (rest := []) (c1 := 1) (s1 := 6) X w hA hV hZ (c_X3_sweep l D cs hl9 L f0 x br ba pr sz lr σ hC hI) k_L_sweep_X3_sweep (by decide) hC.mx hC.fx rfl rfl rfl hl rfl (Nat.le_of_ble_eq_true rfl) (by decide) rfl rfl dL_sweep_1 (fun E ce a9 H locs w hpx hce hcv hcl => ?_) (fun v L1 f1 H locs w hp => ?_)
  · obtain ⟨hpx, rfl⟩ := hpx
    refine x_catchA (E := XIS) X hout (by decide +kernel) (by decide) (by decide) hV.2.1 hce hcv hcl ?_
    show W p l e _ s m _ below meth c _ _ _ _ _ (F0 m 6 ls [.ref a9])
    refine x_as_n (lv' := [(1, .ref a9), (0, .ref x)]) X hl rfl (by decide) rfl dL_sweep_6 (fun ls hl => ?_)
    refine x_ldc (z := -99999) (v := (-99999 : Int32)) X (by decide +kernel) (by decide +kernel) dL_sweep_7 ?_
    refine vx_ret ?_
    refine x_iret X w hr hlk ⟨by decide, by decide⟩ dL_sweep_9 ?_
    have hne9 : (oSwe σ).1 ≠ 0 := by rw [hpx]; decide
    have he9 : (oSwe σ).2.2 = σ := o2k hne9
    exact ⟨by rw [tv_t hne9], by rw [he9]; exact hC⟩
  · obtain ⟨h0, rfl, hC1, hsub, hF⟩ := hp
    show W p l e _ s m _ below meth c _ _ _ _ _ (F0 m 4 ls [])
    refine x_iconst X dL_sweep_4 ?_
    refine vx_ret ?_
    refine x_iret X w hr hlk ⟨by decide, by decide⟩ dL_sweep_5 ?_
    exact ⟨by rw [tv_0 h0, oSwe_0], hC1⟩

theorem k_L_step_X3_step : XV wsL_step RL 40 RX3 yX3_step cX3_step 4 (some .int) wsX3_step 1 := ⟨gL_step_X3_step, ⟨_, rfl⟩, rfl, by decide, by decide, by decide +kernel⟩
set_option maxHeartbeats 4000000 in
set_option maxRecDepth 100000 in
theorem c_L_step (l : Launch) (D : va_G) (cs : ClassId × ClassId × ClassId) (hl9 : l.stackTraces = false) (L : List Nat) (f0 : Nat → va_E) (x br ba pr sz lr : Nat) (σ : Sg) (d : Int) (hC : CC cs L f0 x br ba pr sz lr σ) (hI : Inv σ) (hrg : (-2147483648 ≤ d ∧ d < 2147483648)) : C1 l yL_step wsL_step ({ frames := 7, cells := 1, slots := 6, locals := 120 } : Room) D cs [.ref x, .int (iI d)] L f0 (fun v L1 f1 => v = some (.int (iI (tv (oSte d σ)))) ∧ CC cs L1 f1 x br ba pr sz lr (oSte d σ).2.2) (fun _ => False) := by
  refine C1.ofH (cc := cL_step) (maxL := 3) (ret := (some .int)) (by decide) rfl (Nat.le_of_ble_eq_true rfl) ?_
  intro p e s m below meth c X hr hlk hout hV A hA hZ w ls hl
  have hl : lv_has ls 3 [(0, .ref x), (1, .int (iI d))] := hl
  refine x_al_n X hl 0 rfl rfl dL_step_0 ?_
  refine x_il_n X hl 1 rfl rfl dL_step_1 ?_
  refine x_callV1 (As := [.int (iI d)]) (rest := []) (c1 := 1) (s1 := 6) X w hA hV hZ (c_X3_step l D cs hl9 L f0 x br ba pr sz lr σ d hC hI hrg) k_L_step_X3_step (by decide) hC.mx hC.fx rfl rfl rfl hl rfl (Nat.le_of_ble_eq_true rfl) (by decide) rfl rfl dL_step_2 (fun E ce a9 H locs w hpx hce hcv hcl => ?_) (fun v L1 f1 H locs w hp => ?_)
  · rcases hpx with ⟨hpx, rfl⟩ | ⟨hpx, rfl⟩
    · refine x_catchA (E := XIA) X hout (by decide +kernel) (by decide) (by decide) hV.1 hce hcv hcl ?_
      show W p l e _ s m _ below meth c _ _ _ _ _ (F0 m 6 ls [.ref a9])
      refine x_as_n (lv' := [(2, .ref a9), (0, .ref x), (1, .int (iI d))]) X hl rfl (by decide) rfl dL_step_6 (fun ls hl => ?_)
      refine x_ldc (z := -99999) (v := (-99999 : Int32)) X (by decide +kernel) (by decide +kernel) dL_step_7 ?_
      refine vx_ret ?_
      refine x_iret X w hr hlk ⟨by decide, by decide⟩ dL_step_9 ?_
      have hne9 : (oSte d σ).1 ≠ 0 := by rw [hpx]; decide
      have he9 : (oSte d σ).2.2 = σ := o3k hne9
      exact ⟨by rw [tv_t hne9], by rw [he9]; exact hC⟩
    · refine x_catchB (E := XIS) (E1 := XIA) X hout (by decide +kernel) (by decide) hV.2.2.2.1 (by decide +kernel) (by decide) (by decide) hV.2.1 hce hcv hcl ?_
      show W p l e _ s m _ below meth c _ _ _ _ _ (F0 m 10 ls [.ref a9])
      refine x_as_n (lv' := [(2, .ref a9), (0, .ref x), (1, .int (iI d))]) X hl rfl (by decide) rfl dL_step_10 (fun ls hl => ?_)
      refine x_ldc (z := -99999) (v := (-99999 : Int32)) X (by decide +kernel) (by decide +kernel) dL_step_11 ?_
      refine vx_ret ?_
      refine x_iret X w hr hlk ⟨by decide, by decide⟩ dL_step_13 ?_
      have hne9 : (oSte d σ).1 ≠ 0 := by rw [hpx]; decide
      have he9 : (oSte d σ).2.2 = σ := o3k hne9
      exact ⟨by rw [tv_t hne9], by rw [he9]; exact hC⟩
  · obtain ⟨h0, rfl, hC1, hsub, hF⟩ := hp
    show W p l e _ s m _ below meth c _ _ _ _ _ (F0 m 5 ls [.int (iI ((oSte d σ).2.1))])
    refine vx_ret ?_
    refine x_iret X w hr hlk ⟨by decide, by decide⟩ dL_step_5 ?_
    exact ⟨by rw [tv_0 h0], hC1⟩

theorem k_L_walk_X3_walk : XV wsL_walk RL 43 RX3 yX3_walk cX3_walk 2 (some .int) wsX3_walk 1 := ⟨gL_walk_X3_walk, ⟨_, rfl⟩, rfl, by decide, by decide, by decide +kernel⟩
set_option maxHeartbeats 4000000 in
set_option maxRecDepth 100000 in
theorem c_L_walk (l : Launch) (D : va_G) (cs : ClassId × ClassId × ClassId) (hl9 : l.stackTraces = false) (L : List Nat) (f0 : Nat → va_E) (x br ba pr sz lr : Nat) (σ : Sg) (rd : Int) (hC : CC cs L f0 x br ba pr sz lr σ) (hI : Inv σ) (hrg : (-2147483648 ≤ rd ∧ rd < 2147483648)) : C1 l yL_walk wsL_walk ({ frames := 7, cells := 1, slots := 6, locals := 111 } : Room) D cs [.ref x, .int (iI rd)] L f0 (fun v L1 f1 => v = some (.int (iI (tv (oWal rd σ)))) ∧ CC cs L1 f1 x br ba pr sz lr (oWal rd σ).2.2) (fun _ => False) := by
  refine C1.ofH (cc := cL_walk) (maxL := 3) (ret := (some .int)) (by decide) rfl (Nat.le_of_ble_eq_true rfl) ?_
  intro p e s m below meth c X hr hlk hout hV A hA hZ w ls hl
  have hl : lv_has ls 3 [(0, .ref x), (1, .int (iI rd))] := hl
  refine x_al_n X hl 0 rfl rfl dL_walk_0 ?_
  refine x_il_n X hl 1 rfl rfl dL_walk_1 ?_
  refine x_callV1 (As := [.int (iI rd)]) (rest := []) (c1 := 1) (s1 := 6) X w hA hV hZ (c_X3_walk l D cs hl9 L f0 x br ba pr sz lr σ rd hC hI hrg) k_L_walk_X3_walk (by decide) hC.mx hC.fx rfl rfl rfl hl rfl (Nat.le_of_ble_eq_true rfl) (by decide) rfl rfl dL_walk_2 (fun E ce a9 H locs w hpx hce hcv hcl => ?_) (fun v L1 f1 H locs w hp => ?_)
  · rcases hpx with ⟨hpx, rfl⟩ | ⟨hpx, rfl⟩
    · refine x_catchA (E := XIA) X hout (by decide +kernel) (by decide) (by decide) hV.1 hce hcv hcl ?_
      show W p l e _ s m _ below meth c _ _ _ _ _ (F0 m 6 ls [.ref a9])
      refine x_as_n (lv' := [(2, .ref a9), (0, .ref x), (1, .int (iI rd))]) X hl rfl (by decide) rfl dL_walk_6 (fun ls hl => ?_)
      refine x_ldc (z := -99999) (v := (-99999 : Int32)) X (by decide +kernel) (by decide +kernel) dL_walk_7 ?_
      refine vx_ret ?_
      refine x_iret X w hr hlk ⟨by decide, by decide⟩ dL_walk_9 ?_
      have hne9 : (oWal rd σ).1 ≠ 0 := by rw [hpx]; decide
      have he9 : (oWal rd σ).2.2 = σ := o2k hne9
      exact ⟨by rw [tv_t hne9], by rw [he9]; exact hC⟩
    · exact (o2n hpx).elim
  · obtain ⟨h0, rfl, hC1, hsub, hF⟩ := hp
    show W p l e _ s m _ below meth c _ _ _ _ _ (F0 m 5 ls [.int (iI ((oWal rd σ).2.1))])
    refine vx_ret ?_
    refine x_iret X w hr hlk ⟨by decide, by decide⟩ dL_walk_5 ?_
    exact ⟨by rw [tv_0 h0], hC1⟩
