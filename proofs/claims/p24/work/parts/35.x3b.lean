/-! the class's public methods -/
theorem pw_b {z : Int → Int} {k p : Int} (hk : 0 ≤ k) : -1 ≤ pw z k p ∧ pw z k p ≤ k := by
  by_cases c : ∃ q, isPg z k p q
  · obtain ⟨q, h⟩ := c
    have h1 := h.1; have h2 := h.2.1
    rw [pw_eq h]; omega
  · rw [pw_no (fun q h => c ⟨q, h⟩)]; omega
section CXN
variable {cs : ClassId × ClassId × ClassId} {L : List Nat} {f f1 : Nat → va_E} {x br ba pr sz lr : Nat} {n : Int} {R : Rc} {k : Int} {z : Int → Int} {td kp pb sw : Int} {w : Int → Int}
theorem CX.new2 {q : Nat} (h : CX cs L f x br ba pr sz lr n R k z td kp pb sw w) (hq : q ∉ L) (hf1 : ∀ b, b ≠ q → f1 b = f b) : CX cs (L ++ [q]) f1 x br ba pr sz lr n R k z td kp pb sw w := by
  have h1 := h.new (e := f1 q) hq
  rw [show va_up f q (f1 q) = f1 from funext (fun b => by
    by_cases c : b = q
    · rw [c]; exact va_up_self _ _ _
    · exact (va_up_ne f _ c).trans (hf1 b c).symm)] at h1
  exact h1
theorem FC.new2 {f0 : Nat → va_E} {q : Nat} (h : FC L f0 f x br ba pr sz lr) (hq : q ∉ L) (hf1 : ∀ b, b ≠ q → f1 b = f b) : FC L f0 f1 x br ba pr sz lr := fun a m a1 a2 a3 a4 a5 a6 a7 => (hf1 a (fun he => hq (by rw [← he]; exact m))).trans (h a m a1 a2 a3 a4 a5 a6 a7)
end CXN
theorem FC.new3 {L : List Nat} {f0 f f1 : Nat → va_E} {x br ba pr sz lr : Nat} {q : Nat} (h : FC L f0 f x br ba pr sz lr) (hq : q ∉ L) (hf1 : ∀ b, b ≠ q → f1 b = f b) : FC L f0 f1 x br ba pr sz lr := h.new2 hq hf1

theorem iw_X3_records_X3 : ∀ w ∈ wsX30, w ∈ wsX3_records := by decide +kernel
theorem fq_X3_records_10 : XF wsX3_records RX3 10 3 0 := ⟨RX3, TX3, 7, iw_X3_records_X3, rfl, by decide, by decide +kernel⟩
theorem k_X3_records_X1_count : XV wsX3_records RX3 50 RX1 yX1_count cX1_count 1 (some .int) wsX1_count 0 := ⟨gX3_records_X1_count, ⟨_, rfl⟩, rfl, by decide, by decide, by decide +kernel⟩
set_option maxHeartbeats 4000000 in
set_option maxRecDepth 100000 in
theorem c_X3_records (l : Launch) (D : va_G) (cs : ClassId × ClassId × ClassId) (L : List Nat) (f0 : Nat → va_E) (x br ba pr sz lr : Nat) (σ : Sg) (hC : CC cs L f0 x br ba pr sz lr σ) : C0 l yX3_records wsX3_records ({ frames := 2, cells := 0, slots := 0, locals := 32 } : Room) D cs [.ref x] L f0 (fun v L1 f1 => L = L1 ∧ f0 = f1 ∧ v = some (.int (iI (gN σ)))) := by
  refine C0.of (cc := cX3_records) (maxL := 1) (ret := (some .int)) (by decide) rfl (Nat.le_of_ble_eq_true rfl) ?_
  intro p e s m below meth c X hr hlk hin A hA w ls hl
  have hl : lv_has ls 1 [(0, .ref x)] := hl
  refine x_al_n X hl 0 rfl rfl dX3_records_0 ?_
  refine x_get X w hC.mx hC.fx fq_X3_records_10 rfl dX3_records_1 ?_
  obtain ⟨r4, hRB, hO⟩ := hC.rb
  refine x_callV (As := []) (rest := []) (c1 := 0) (s1 := 0) X w hA (c_X1_count l D cs L f0 br ba (gN σ) r4 (gR σ)  hRB hO) k_X3_records_X1_count (by decide) hC.mb hC.fb rfl rfl rfl hl rfl (Nat.le_of_ble_eq_true rfl) (by decide) rfl rfl dX3_records_4 (fun v L1 f1 H locs w hp => ?_)
  obtain ⟨rfl, rfl, hp⟩ := hp
  subst hp
  show W p l e _ s m _ below meth c _ _ _ _ _ (F0 m 7 ls [.int (iI (gN σ))])
  refine x_iret X w hr hlk ⟨by decide, by decide⟩ dX3_records_7 ?_
  exact ⟨rfl, rfl, rfl⟩

theorem iw_X3_kept_X3 : ∀ w ∈ wsX30, w ∈ wsX3_kept := by decide +kernel
theorem fq_X3_kept_125 : XF wsX3_kept RX3 125 3 4 := ⟨RX3, TX3, 7, iw_X3_kept_X3, rfl, by decide, by decide +kernel⟩
set_option maxHeartbeats 4000000 in
set_option maxRecDepth 100000 in
theorem c_X3_kept (l : Launch) (D : va_G) (cs : ClassId × ClassId × ClassId) (L : List Nat) (f0 : Nat → va_E) (x br ba pr sz lr : Nat) (σ : Sg) (hC : CC cs L f0 x br ba pr sz lr σ) : C0 l yX3_kept wsX3_kept ({ frames := 1, cells := 0, slots := 0, locals := 12 } : Room) D cs [.ref x] L f0 (fun v L1 f1 => L = L1 ∧ f0 = f1 ∧ v = some (.int (iI (gP σ)))) := by
  refine C0.of (cc := cX3_kept) (maxL := 1) (ret := (some .int)) (by decide) rfl (Nat.le_of_ble_eq_true rfl) ?_
  intro p e s m below meth c X hr hlk hin A hA w ls hl
  have hl : lv_has ls 1 [(0, .ref x)] := hl
  refine x_al_n X hl 0 rfl rfl dX3_kept_0 ?_
  refine x_get X w hC.mx hC.fx fq_X3_kept_125 rfl dX3_kept_1 ?_
  refine x_iret X w hr hlk ⟨by decide, by decide⟩ dX3_kept_4 ?_
  exact ⟨rfl, rfl, rfl⟩

theorem iw_X3_paidBack_X3 : ∀ w ∈ wsX30, w ∈ wsX3_paidBack := by decide +kernel
theorem fq_X3_paidBack_94 : XF wsX3_paidBack RX3 94 3 5 := ⟨RX3, TX3, 7, iw_X3_paidBack_X3, rfl, by decide, by decide +kernel⟩
set_option maxHeartbeats 4000000 in
set_option maxRecDepth 100000 in
theorem c_X3_paidBack (l : Launch) (D : va_G) (cs : ClassId × ClassId × ClassId) (L : List Nat) (f0 : Nat → va_E) (x br ba pr sz lr : Nat) (σ : Sg) (hC : CC cs L f0 x br ba pr sz lr σ) : C0 l yX3_paidBack wsX3_paidBack ({ frames := 1, cells := 0, slots := 0, locals := 12 } : Room) D cs [.ref x] L f0 (fun v L1 f1 => L = L1 ∧ f0 = f1 ∧ v = some (.int (iI (gB σ)))) := by
  refine C0.of (cc := cX3_paidBack) (maxL := 1) (ret := (some .int)) (by decide) rfl (Nat.le_of_ble_eq_true rfl) ?_
  intro p e s m below meth c X hr hlk hin A hA w ls hl
  have hl : lv_has ls 1 [(0, .ref x)] := hl
  refine x_al_n X hl 0 rfl rfl dX3_paidBack_0 ?_
  refine x_get X w hC.mx hC.fx fq_X3_paidBack_94 rfl dX3_paidBack_1 ?_
  refine x_iret X w hr hlk ⟨by decide, by decide⟩ dX3_paidBack_4 ?_
  exact ⟨rfl, rfl, rfl⟩

theorem iw_X3_today_X3 : ∀ w ∈ wsX30, w ∈ wsX3_today := by decide +kernel
theorem fq_X3_today_77 : XF wsX3_today RX3 77 3 3 := ⟨RX3, TX3, 7, iw_X3_today_X3, rfl, by decide, by decide +kernel⟩
set_option maxHeartbeats 4000000 in
set_option maxRecDepth 100000 in
theorem c_X3_today (l : Launch) (D : va_G) (cs : ClassId × ClassId × ClassId) (L : List Nat) (f0 : Nat → va_E) (x br ba pr sz lr : Nat) (σ : Sg) (hC : CC cs L f0 x br ba pr sz lr σ) : C0 l yX3_today wsX3_today ({ frames := 1, cells := 0, slots := 0, locals := 12 } : Room) D cs [.ref x] L f0 (fun v L1 f1 => L = L1 ∧ f0 = f1 ∧ v = some (.int (iI (gT σ)))) := by
  refine C0.of (cc := cX3_today) (maxL := 1) (ret := (some .int)) (by decide) rfl (Nat.le_of_ble_eq_true rfl) ?_
  intro p e s m below meth c X hr hlk hin A hA w ls hl
  have hl : lv_has ls 1 [(0, .ref x)] := hl
  refine x_al_n X hl 0 rfl rfl dX3_today_0 ?_
  refine x_get X w hC.mx hC.fx fq_X3_today_77 rfl dX3_today_1 ?_
  refine x_iret X w hr hlk ⟨by decide, by decide⟩ dX3_today_4 ?_
  exact ⟨rfl, rfl, rfl⟩

theorem iw_X3_pages_X3 : ∀ w ∈ wsX30, w ∈ wsX3_pages := by decide +kernel
theorem fq_X3_pages_19 : XF wsX3_pages RX3 19 3 1 := ⟨RX3, TX3, 7, iw_X3_pages_X3, rfl, by decide, by decide +kernel⟩
theorem k_X3_pages_X2_count : XV wsX3_pages RX3 87 RX2 yX2_count cX2_count 1 (some .int) wsX2_count 0 := ⟨gX3_pages_X2_count, ⟨_, rfl⟩, rfl, by decide, by decide, by decide +kernel⟩
set_option maxHeartbeats 4000000 in
set_option maxRecDepth 100000 in
theorem c_X3_pages (l : Launch) (D : va_G) (cs : ClassId × ClassId × ClassId) (L : List Nat) (f0 : Nat → va_E) (x br ba pr sz lr : Nat) (σ : Sg) (hC : CC cs L f0 x br ba pr sz lr σ) : C0 l yX3_pages wsX3_pages ({ frames := 2, cells := 0, slots := 0, locals := 32 } : Room) D cs [.ref x] L f0 (fun v L1 f1 => L = L1 ∧ f0 = f1 ∧ v = some (.int (iI (gK σ)))) := by
  refine C0.of (cc := cX3_pages) (maxL := 1) (ret := (some .int)) (by decide) rfl (Nat.le_of_ble_eq_true rfl) ?_
  intro p e s m below meth c X hr hlk hin A hA w ls hl
  have hl : lv_has ls 1 [(0, .ref x)] := hl
  refine x_al_n X hl 0 rfl rfl dX3_pages_0 ?_
  refine x_get X w hC.mx hC.fx fq_X3_pages_19 rfl dX3_pages_1 ?_
  refine x_callV (As := []) (rest := []) (c1 := 0) (s1 := 0) X w hA (c_X2_count l D cs L f0 pr sz (gK σ) (gZ σ)  hC.pp) k_X3_pages_X2_count (by decide) hC.pp.mp hC.pp.fp rfl rfl rfl hl rfl (Nat.le_of_ble_eq_true rfl) (by decide) rfl rfl dX3_pages_4 (fun v L1 f1 H locs w hp => ?_)
  obtain ⟨rfl, rfl, hp⟩ := hp
  subst hp
  show W p l e _ s m _ below meth c _ _ _ _ _ (F0 m 7 ls [.int (iI (gK σ))])
  refine x_iret X w hr hlk ⟨by decide, by decide⟩ dX3_pages_7 ?_
  exact ⟨rfl, rfl, rfl⟩

theorem iw_X3_sweeping_X3 : ∀ w ∈ wsX30, w ∈ wsX3_sweeping := by decide +kernel
theorem fq_X3_sweeping_27 : XF wsX3_sweeping RX3 27 3 6 := ⟨RX3, TX3, 7, iw_X3_sweeping_X3, rfl, by decide, by decide +kernel⟩
set_option maxHeartbeats 4000000 in
set_option maxRecDepth 100000 in
theorem c_X3_sweeping (l : Launch) (D : va_G) (cs : ClassId × ClassId × ClassId) (L : List Nat) (f0 : Nat → va_E) (x br ba pr sz lr : Nat) (σ : Sg) (hC : CC cs L f0 x br ba pr sz lr σ) : C0 l yX3_sweeping wsX3_sweeping ({ frames := 1, cells := 0, slots := 0, locals := 12 } : Room) D cs [.ref x] L f0 (fun v L1 f1 => L = L1 ∧ f0 = f1 ∧ v = some (.int (iI (gS σ)))) := by
  refine C0.of (cc := cX3_sweeping) (maxL := 1) (ret := (some .int)) (by decide) rfl (Nat.le_of_ble_eq_true rfl) ?_
  intro p e s m below meth c X hr hlk hin A hA w ls hl
  have hl : lv_has ls 1 [(0, .ref x)] := hl
  refine x_al_n X hl 0 rfl rfl dX3_sweeping_0 ?_
  refine x_get X w hC.mx hC.fx fq_X3_sweeping_27 rfl dX3_sweeping_1 ?_
  refine x_iret X w hr hlk ⟨by decide, by decide⟩ dX3_sweeping_4 ?_
  exact ⟨rfl, rfl, rfl⟩

theorem k_X3_payBack_X3_requireCase : XS wsX3_payBack RX3 31 yX3_requireCase cX3_requireCase 1 none wsX3_requireCase 1 := ⟨gX3_payBack_X3_requireCase, ⟨_, rfl⟩, by decide, by decide, by decide +kernel⟩
theorem iw_X3_payBack_X3 : ∀ w ∈ wsX30, w ∈ wsX3_payBack := by decide +kernel
theorem fq_X3_payBack_10 : XF wsX3_payBack RX3 10 3 0 := ⟨RX3, TX3, 7, iw_X3_payBack_X3, rfl, by decide, by decide +kernel⟩
theorem k_X3_payBack_X1_find : XV wsX3_payBack RX3 46 RX1 yX1_find cX1_find 2 (some (.object "PageBail$Bail")) wsX1_find 1 := ⟨gX3_payBack_X1_find, ⟨_, rfl⟩, rfl, by decide, by decide, by decide +kernel⟩
theorem k_X3_payBack_X0_hasForfeitDay : XV wsX3_payBack RX3 88 RX0 yX0_hasForfeitDay cX0_hasForfeitDay 1 (some .boolean) wsX0_hasForfeitDay 0 := ⟨gX3_payBack_X0_hasForfeitDay, ⟨_, rfl⟩, rfl, by decide, by decide, by decide +kernel⟩
theorem xt_X3_payBack_92 : XT wsX3_payBack RX3 54 92 58 XIS "no record of the case, or it is forfeited" := ⟨by decide +kernel, by decide +kernel, by decide +kernel, by decide, xt_g58.1, xt_g58.2, by decide, rfl⟩
theorem fq_X3_payBack_94 : XF wsX3_payBack RX3 94 3 5 := ⟨RX3, TX3, 7, iw_X3_payBack_X3, rfl, by decide, by decide +kernel⟩
theorem iw_X3_payBack_X0 : ∀ w ∈ wsX00, w ∈ wsX3_payBack := by decide +kernel
theorem fq_X3_payBack_97 : XF wsX3_payBack RX3 97 0 1 := ⟨RX0, TX0, 5, iw_X3_payBack_X0, rfl, by decide, by decide +kernel⟩
theorem fp_X3_payBack_94 : XGn wsX3_payBack RX3 94 3 5 (tyX3 5) := ⟨RX3, TX3, 7, tyX3, iw_X3_payBack_X3, rfl, by decide, by decide +kernel, tyX3_ok, nmX3, rfl, by decide +kernel⟩
theorem k_X3_payBack_X1_placeOf : XV wsX3_payBack RX3 100 RX1 yX1_placeOf cX1_placeOf 3 (some .int) wsX1_placeOf 1 := ⟨gX3_payBack_X1_placeOf, ⟨_, rfl⟩, rfl, by decide, by decide, by decide +kernel⟩
theorem k_X3_payBack_X3_takeOut : XV wsX3_payBack RX3 103 RX3 yX3_takeOut cX3_takeOut 2 none wsX3_takeOut 1 := ⟨gX3_payBack_X3_takeOut, ⟨_, rfl⟩, rfl, by decide, by decide, by decide +kernel⟩
set_option maxHeartbeats 4000000 in
set_option maxRecDepth 100000 in
theorem c_X3_payBack (l : Launch) (D : va_G) (cs : ClassId × ClassId × ClassId) (hl9 : l.stackTraces = false) (L : List Nat) (f0 : Nat → va_E) (x br ba pr sz lr : Nat) (σ : Sg) (nu : Int) (hC : CC cs L f0 x br ba pr sz lr σ) (hI : Inv σ) (hrg : (-2147483648 ≤ nu ∧ nu < 2147483648)) : C1 l yX3_payBack wsX3_payBack ({ frames := 7, cells := 2, slots := 12, locals := 140 } : Room) D cs [.ref x, .int (iI nu)] L f0 (fun v L1 f1 => CPi cs L f0 x br ba pr sz lr (oPay nu σ) v L1 f1) (fun E => PXA (oPay nu σ) E) := by
  refine C1.of (cc := cX3_payBack) (maxL := 3) (ret := (some .int)) (by decide) rfl (Nat.le_of_ble_eq_true rfl) ?_
  intro p e s m below meth c X hr hlk hout hV A hA hZ w ls hl
  have hl : lv_has ls 3 [(0, .ref x), (1, .int (iI nu))] := hl
  have hn := hI.n; have hk := hI.k; have ht := hI.t; have hsw := hI.s; have hz4 := hI.z4
  have hF : FC L f0 f0 x br ba pr sz lr := FC.rf _ _ _ _ _ _ _ _
  refine x_il_n X hl 1 rfl rfl dX3_payBack_0 ?_
  refine x_callS1 (As := [.int (iI nu)]) (rest := []) (c1 := 1) (s1 := 6) X w hA hV hZ (c_X3_requireCase l D cs hl9 L f0 nu (by omega)) k_X3_payBack_X3_requireCase (by decide) rfl hl rfl (Nat.le_of_ble_eq_true rfl) (by decide) rfl rfl dX3_payBack_1 (fun E ce a9 H locs w hpx hce hcv hcl => ?_) (fun v L1 f1 H locs w hp => ?_)
  · exact x_out X w hlk hout hce hcv hcl ⟨by decide, by decide⟩ (Or.inl ⟨by unfold oPay; rw [if_neg (by have h9 := hpx.1; omega)], hpx.2⟩)
  · obtain ⟨rfl, rfl, rfl, hrc⟩ := hp
    show W p l e _ s m _ below meth c _ _ _ _ _ (F0 m 4 ls [])
    refine x_al_n X hl 0 rfl rfl dX3_payBack_4 ?_
    refine x_get X w hC.mx hC.fx fq_X3_payBack_10 rfl dX3_payBack_5 ?_
    refine x_il_n X hl 1 rfl rfl dX3_payBack_8 ?_
    obtain ⟨r9, hRB, hO⟩ := hC.rb
    refine x_callV (As := [.int (iI nu)]) (rest := []) (c1 := 1) (s1 := 6) X w hA (c_X1_find l D cs L f0 br ba (gN σ) r9 (gR σ) nu hRB hO (by omega) hI.r0 hI.so) k_X3_payBack_X1_find (by decide) hC.mb hC.fb rfl rfl rfl hl rfl (Nat.le_of_ble_eq_true rfl) (by decide) rfl rfl dX3_payBack_9 (fun v L1 f1 H locs w hp => ?_)
    obtain ⟨rfl, rfl, hp⟩ := hp
    rcases hp with ⟨a9, rfl, ha9, hm9, hf9, hq9⟩ | ⟨rfl, hq9⟩
    · show W p l e _ s m _ below meth c _ _ _ _ _ (F0 m 12 ls [.ref a9])
      refine x_as_n (lv' := [(2, .ref a9), (0, .ref x), (1, .int (iI nu))]) X hl rfl (by decide) rfl dX3_payBack_12 (fun ls hl => ?_)
      refine x_al_n X hl 0 rfl rfl dX3_payBack_13 ?_
      refine x_ifnull_r X dX3_payBack_14 ?_
      have hrec := hI.r (fd (gR σ) (gN σ) nu) (by omega) (by omega)
      refine x_al_n X hl 0 rfl rfl dX3_payBack_17 ?_
      refine x_callV (As := []) (rest := []) (c1 := 1) (s1 := 6) X w hA (c_X0_hasForfeitDay l D cs L f0 a9 ((gR σ) (fd (gR σ) (gN σ) nu)) hm9 hf9 (by omega)) k_X3_payBack_X0_hasForfeitDay (by decide) hm9 hf9 rfl rfl rfl hl rfl (Nat.le_of_ble_eq_true rfl) (by decide) rfl rfl dX3_payBack_18 (fun v L1 f1 H locs w hp => ?_)
      obtain ⟨rfl, rfl, hp⟩ := hp
      rcases hp with ⟨rfl, hq18⟩ | ⟨rfl, hq18⟩
      · show W p l e _ s m _ below meth c _ _ _ _ _ (F0 m 21 ls [.int (iI 1)])
        refine x_ifF_eq (tgt := 34) X (by decide) (by decide) (by decide) dX3_payBack_21 ?_
        refine x_throw X w hl9 hV hZ hlk hout hl xt_X3_payBack_92 dX3_payBack_24 dX3_payBack_27 dX3_payBack_28 dX3_payBack_30 dX3_payBack_33 ⟨by decide, (Nat.le_of_ble_eq_true rfl), by decide, by decide⟩ ⟨by decide, by decide⟩ ?_
        exact Or.inr ⟨by unfold oPay; rw [if_pos (by omega), if_pos (show qF nu σ = -1 ∨ gR σ (qF nu σ) 4 ≠ -1 from Or.inr hq18)], rfl⟩
      · show W p l e _ s m _ below meth c _ _ _ _ _ (F0 m 21 ls [.int (iI 0)])
        refine x_ifT_eq (tgt := 34) X (by decide) (by decide) (by decide) dX3_payBack_21 ?_
        refine x_al_n X hl 1 rfl rfl dX3_payBack_34 ?_
        refine x_dup X rfl dX3_payBack_35 ?_
        refine x_get X w hC.mx hC.fx fq_X3_payBack_94 rfl dX3_payBack_36 ?_
        refine x_al_n X hl 0 rfl rfl dX3_payBack_39 ?_
        refine x_get X w hm9 hf9 fq_X3_payBack_97 rfl dX3_payBack_40 ?_
        refine x_iadd X dX3_payBack_43 ?_
        refine x_put X w hC.mx hC.fx fp_X3_payBack_94 rfl rfl (Nat.le_of_ble_eq_true rfl) rfl dX3_payBack_44 (fun H locs w => ?_)
        have hCo := hC
        obtain ⟨f47, w, hC, hF, hFx⟩ : ∃ f9, XW D A s.heap L f9 H locs ∧ CX cs L f9 x br ba pr sz lr (gN σ) (gR σ) (gK σ) (gZ σ) (gT σ) (gP σ) ((gB σ) + ((gR σ) (fd (gR σ) (gN σ) nu) 1)) (gS σ) (gW σ) ∧ FC L f0 f9 x br ba pr sz lr ∧ FT f0 f9 x br ba pr sz := ⟨_, w, hC.fld _ _ _ _, hF.xx, (FT.rf _ _ _ _ _ _).xx⟩
        have hf9 := FT.bail hCo hFx hf9
        refine x_al_n X hl 1 rfl rfl dX3_payBack_47 ?_
        refine x_al_n X hl 1 rfl rfl dX3_payBack_48 ?_
        refine x_get X w hC.mx hC.fx fq_X3_payBack_10 rfl dX3_payBack_49 ?_
        refine x_il_n X hl 2 rfl rfl dX3_payBack_52 ?_
        obtain ⟨r53, hRB, hO⟩ := hC.rb
        refine x_callV (As := [.int (iI nu)]) (rest := [.ref x]) (c1 := 1) (s1 := 6) X w hA (c_X1_placeOf l D cs L f47 br ba (gN σ) r53 (gR σ) nu hRB hO (by omega) hI.r0 hI.so) k_X3_payBack_X1_placeOf (by decide) hC.mb hC.fb rfl rfl rfl hl rfl (Nat.le_of_ble_eq_true rfl) (by decide) rfl rfl dX3_payBack_53 (fun v L1 f1 H locs w hp => ?_)
        obtain ⟨rfl, rfl, hp⟩ := hp
        subst hp
        show W p l e _ s m _ below meth c _ _ _ _ _ (F0 m 56 ls [.int (iI (fd (gR σ) (gN σ) nu)), .ref x])
        refine x_callV (As := [.int (iI (fd (gR σ) (gN σ) nu))]) (rest := []) (c1 := 1) (s1 := 6) X w hA (c_X3_takeOut l D cs L f47 x br ba pr sz lr (oAdd false ((gR σ) (fd (gR σ) (gN σ) nu) 1) σ) (fd (gR σ) (gN σ) nu) hC hI (show 0 ≤ (fd (gR σ) (gN σ) nu) ∧ (fd (gR σ) (gN σ) nu) < gN σ from by omega)) k_X3_payBack_X3_takeOut (by decide) hC.mx hC.fx rfl rfl rfl hl rfl (Nat.le_of_ble_eq_true rfl) (by decide) rfl rfl dX3_payBack_56 (fun v L1 f1 H locs w hp => ?_)
        obtain ⟨rfl, rfl, hFT, hC2⟩ := hp
        have hf9 := FT.bail hC hFT hf9
        have hC := hC2
        have hF := hF.t hFT
        have hI56 : Inv (oTake (fd (gR σ) (gN σ) nu) (oAdd false ((gR σ) (fd (gR σ) (gN σ) nu) 1) σ)) := Inv.take hI (show 0 ≤ (fd (gR σ) (gN σ) nu) ∧ (fd (gR σ) (gN σ) nu) < gN σ from by omega)
        show W p l e _ s m _ below meth c _ _ _ _ _ (F0 m 59 ls [])
        refine x_al_n X hl 0 rfl rfl dX3_payBack_59 ?_
        refine x_get X w hm9 hf9 fq_X3_payBack_97 rfl dX3_payBack_60 ?_
        refine vx_ret ?_
        refine x_iret X w hr hlk ⟨by decide, by decide⟩ dX3_payBack_63 ?_
        have ho : oPay nu σ = (0, gR σ (qF nu σ) 1, oTake (qF nu σ) (oAdd false (gR σ (qF nu σ) 1) σ)) := by unfold oPay; rw [if_pos (by omega), if_neg (show ¬ (qF nu σ = -1 ∨ gR σ (qF nu σ) 4 ≠ -1) from fun h9 => h9.elim (fun h8 => by have h7 : fd (gR σ) (gN σ) nu = -1 := h8; omega) (fun h8 => h8 hq18))]
        rw [ho]
        exact ⟨rfl, rfl, hC, fun _ h => h, hF⟩
    · show W p l e _ s m _ below meth c _ _ _ _ _ (F0 m 12 ls [.null])
      refine x_asN_n (lv' := [(2, .null), (0, .ref x), (1, .int (iI nu))]) X hl rfl (by decide) rfl dX3_payBack_12 (fun ls hl => ?_)
      refine x_alN_n X hl 0 rfl rfl dX3_payBack_13 ?_
      refine x_ifnull_n (tgt := 24) X (by decide) dX3_payBack_14 ?_
      refine x_throw X w hl9 hV hZ hlk hout hl xt_X3_payBack_92 dX3_payBack_24 dX3_payBack_27 dX3_payBack_28 dX3_payBack_30 dX3_payBack_33 ⟨by decide, (Nat.le_of_ble_eq_true rfl), by decide, by decide⟩ ⟨by decide, by decide⟩ ?_
      exact Or.inr ⟨by unfold oPay; rw [if_pos (by omega), if_pos (show qF nu σ = -1 ∨ gR σ (qF nu σ) 4 ≠ -1 from Or.inl hq9)], rfl⟩

theorem k_X3_forfeit_X3_requireCase : XS wsX3_forfeit RX3 31 yX3_requireCase cX3_requireCase 1 none wsX3_requireCase 1 := ⟨gX3_forfeit_X3_requireCase, ⟨_, rfl⟩, by decide, by decide, by decide +kernel⟩
theorem iw_X3_forfeit_X3 : ∀ w ∈ wsX30, w ∈ wsX3_forfeit := by decide +kernel
theorem fq_X3_forfeit_10 : XF wsX3_forfeit RX3 10 3 0 := ⟨RX3, TX3, 7, iw_X3_forfeit_X3, rfl, by decide, by decide +kernel⟩
theorem k_X3_forfeit_X1_find : XV wsX3_forfeit RX3 46 RX1 yX1_find cX1_find 2 (some (.object "PageBail$Bail")) wsX1_find 1 := ⟨gX3_forfeit_X1_find, ⟨_, rfl⟩, rfl, by decide, by decide, by decide +kernel⟩
theorem k_X3_forfeit_X0_hasForfeitDay : XV wsX3_forfeit RX3 88 RX0 yX0_hasForfeitDay cX0_hasForfeitDay 1 (some .boolean) wsX0_hasForfeitDay 0 := ⟨gX3_forfeit_X0_hasForfeitDay, ⟨_, rfl⟩, rfl, by decide, by decide, by decide +kernel⟩
theorem xt_X3_forfeit_92 : XT wsX3_forfeit RX3 54 92 58 XIS "no record of the case, or it is forfeited" := ⟨by decide +kernel, by decide +kernel, by decide +kernel, by decide, xt_g58.1, xt_g58.2, by decide, rfl⟩
theorem fq_X3_forfeit_77 : XF wsX3_forfeit RX3 77 3 3 := ⟨RX3, TX3, 7, iw_X3_forfeit_X3, rfl, by decide, by decide +kernel⟩
theorem iw_X3_forfeit_X0 : ∀ w ∈ wsX00, w ∈ wsX3_forfeit := by decide +kernel
theorem fp_X3_forfeit_106 : XGn wsX3_forfeit RX3 106 0 4 (tyX0 4) := ⟨RX0, TX0, 5, tyX0, iw_X3_forfeit_X0, rfl, by decide, by decide +kernel, tyX0_ok, nmX0, rfl, by decide +kernel⟩
set_option maxHeartbeats 4000000 in
set_option maxRecDepth 100000 in
theorem c_X3_forfeit (l : Launch) (D : va_G) (cs : ClassId × ClassId × ClassId) (hl9 : l.stackTraces = false) (L : List Nat) (f0 : Nat → va_E) (x br ba pr sz lr : Nat) (σ : Sg) (nu : Int) (hC : CC cs L f0 x br ba pr sz lr σ) (hI : Inv σ) (hrg : (-2147483648 ≤ nu ∧ nu < 2147483648)) : C1 l yX3_forfeit wsX3_forfeit ({ frames := 7, cells := 2, slots := 12, locals := 120 } : Room) D cs [.ref x, .int (iI nu)] L f0 (fun v L1 f1 => CPv cs L f0 x br ba pr sz lr (oFor nu σ) v L1 f1) (fun E => PXA (oFor nu σ) E) := by
  refine C1.of (cc := cX3_forfeit) (maxL := 3) (ret := none) (by decide) rfl (Nat.le_of_ble_eq_true rfl) ?_
  intro p e s m below meth c X hr hlk hout hV A hA hZ w ls hl
  have hl : lv_has ls 3 [(0, .ref x), (1, .int (iI nu))] := hl
  have hn := hI.n; have hk := hI.k; have ht := hI.t; have hsw := hI.s; have hz4 := hI.z4
  have hF : FC L f0 f0 x br ba pr sz lr := FC.rf _ _ _ _ _ _ _ _
  refine x_il_n X hl 1 rfl rfl dX3_forfeit_0 ?_
  refine x_callS1 (As := [.int (iI nu)]) (rest := []) (c1 := 1) (s1 := 6) X w hA hV hZ (c_X3_requireCase l D cs hl9 L f0 nu (by omega)) k_X3_forfeit_X3_requireCase (by decide) rfl hl rfl (Nat.le_of_ble_eq_true rfl) (by decide) rfl rfl dX3_forfeit_1 (fun E ce a9 H locs w hpx hce hcv hcl => ?_) (fun v L1 f1 H locs w hp => ?_)
  · exact x_out X w hlk hout hce hcv hcl ⟨by decide, by decide⟩ (Or.inl ⟨by unfold oFor; rw [if_neg (by have h9 := hpx.1; omega)], hpx.2⟩)
  · obtain ⟨rfl, rfl, rfl, hrc⟩ := hp
    show W p l e _ s m _ below meth c _ _ _ _ _ (F0 m 4 ls [])
    refine x_al_n X hl 0 rfl rfl dX3_forfeit_4 ?_
    refine x_get X w hC.mx hC.fx fq_X3_forfeit_10 rfl dX3_forfeit_5 ?_
    refine x_il_n X hl 1 rfl rfl dX3_forfeit_8 ?_
    obtain ⟨r9, hRB, hO⟩ := hC.rb
    refine x_callV (As := [.int (iI nu)]) (rest := []) (c1 := 1) (s1 := 6) X w hA (c_X1_find l D cs L f0 br ba (gN σ) r9 (gR σ) nu hRB hO (by omega) hI.r0 hI.so) k_X3_forfeit_X1_find (by decide) hC.mb hC.fb rfl rfl rfl hl rfl (Nat.le_of_ble_eq_true rfl) (by decide) rfl rfl dX3_forfeit_9 (fun v L1 f1 H locs w hp => ?_)
    obtain ⟨rfl, rfl, hp⟩ := hp
    rcases hp with ⟨a9, rfl, ha9, hm9, hf9, hq9⟩ | ⟨rfl, hq9⟩
    · show W p l e _ s m _ below meth c _ _ _ _ _ (F0 m 12 ls [.ref a9])
      refine x_as_n (lv' := [(2, .ref a9), (0, .ref x), (1, .int (iI nu))]) X hl rfl (by decide) rfl dX3_forfeit_12 (fun ls hl => ?_)
      refine x_al_n X hl 0 rfl rfl dX3_forfeit_13 ?_
      refine x_ifnull_r X dX3_forfeit_14 ?_
      have hrec := hI.r (fd (gR σ) (gN σ) nu) (by omega) (by omega)
      refine x_al_n X hl 0 rfl rfl dX3_forfeit_17 ?_
      refine x_callV (As := []) (rest := []) (c1 := 1) (s1 := 6) X w hA (c_X0_hasForfeitDay l D cs L f0 a9 ((gR σ) (fd (gR σ) (gN σ) nu)) hm9 hf9 (by omega)) k_X3_forfeit_X0_hasForfeitDay (by decide) hm9 hf9 rfl rfl rfl hl rfl (Nat.le_of_ble_eq_true rfl) (by decide) rfl rfl dX3_forfeit_18 (fun v L1 f1 H locs w hp => ?_)
      obtain ⟨rfl, rfl, hp⟩ := hp
      rcases hp with ⟨rfl, hq18⟩ | ⟨rfl, hq18⟩
      · show W p l e _ s m _ below meth c _ _ _ _ _ (F0 m 21 ls [.int (iI 1)])
        refine x_ifF_eq (tgt := 34) X (by decide) (by decide) (by decide) dX3_forfeit_21 ?_
        refine x_throw X w hl9 hV hZ hlk hout hl xt_X3_forfeit_92 dX3_forfeit_24 dX3_forfeit_27 dX3_forfeit_28 dX3_forfeit_30 dX3_forfeit_33 ⟨by decide, (Nat.le_of_ble_eq_true rfl), by decide, by decide⟩ ⟨by decide, by decide⟩ ?_
        exact Or.inr ⟨by unfold oFor; rw [if_pos (by omega), if_pos (show qF nu σ = -1 ∨ gR σ (qF nu σ) 4 ≠ -1 from Or.inr hq18)], rfl⟩
      · show W p l e _ s m _ below meth c _ _ _ _ _ (F0 m 21 ls [.int (iI 0)])
        refine x_ifT_eq (tgt := 34) X (by decide) (by decide) (by decide) dX3_forfeit_21 ?_
        refine x_al_n X hl 0 rfl rfl dX3_forfeit_34 ?_
        refine x_al_n X hl 1 rfl rfl dX3_forfeit_35 ?_
        refine x_get X w hC.mx hC.fx fq_X3_forfeit_77 rfl dX3_forfeit_36 ?_
        refine x_put X w hm9 hf9 fp_X3_forfeit_106 rfl rfl (Nat.le_of_ble_eq_true rfl) rfl dX3_forfeit_39 (fun H locs w => ?_)
        obtain ⟨f42, w, hC, hF⟩ : ∃ f9, XW D A s.heap L f9 H locs ∧ CX cs L f9 x br ba pr sz lr (gN σ) (uI (gR σ) (fd (gR σ) (gN σ) nu) (uN (gR σ (fd (gR σ) (gN σ) nu)) 4 (gT σ))) (gK σ) (gZ σ) (gT σ) (gP σ) (gB σ) (gS σ) (gW σ) ∧ FC L f0 f9 x br ba pr sz lr := ⟨_, w, CX.rec (g := uN (gR σ (fd (gR σ) (gN σ) nu)) 4 (gT σ)) hC hRB hO (by omega) ha9 hI.so hI.r0, FC.rec hF hf9⟩
        refine vx_ret ?_
        refine x_vret X w hr hlk ⟨by decide, by decide⟩ dX3_forfeit_42 ?_
        have ho : oFor nu σ = (0, 0, oSetR (uI (gR σ) (qF nu σ) (uN (gR σ (qF nu σ)) 4 (gT σ))) σ) := by unfold oFor; rw [if_pos (by omega), if_neg (show ¬ (qF nu σ = -1 ∨ gR σ (qF nu σ) 4 ≠ -1) from fun h9 => h9.elim (fun h8 => by have h7 : fd (gR σ) (gN σ) nu = -1 := h8; omega) (fun h8 => h8 hq18))]
        rw [ho]
        exact ⟨rfl, rfl, hC, fun _ h => h, hF⟩
    · show W p l e _ s m _ below meth c _ _ _ _ _ (F0 m 12 ls [.null])
      refine x_asN_n (lv' := [(2, .null), (0, .ref x), (1, .int (iI nu))]) X hl rfl (by decide) rfl dX3_forfeit_12 (fun ls hl => ?_)
      refine x_alN_n X hl 0 rfl rfl dX3_forfeit_13 ?_
      refine x_ifnull_n (tgt := 24) X (by decide) dX3_forfeit_14 ?_
      refine x_throw X w hl9 hV hZ hlk hout hl xt_X3_forfeit_92 dX3_forfeit_24 dX3_forfeit_27 dX3_forfeit_28 dX3_forfeit_30 dX3_forfeit_33 ⟨by decide, (Nat.le_of_ble_eq_true rfl), by decide, by decide⟩ ⟨by decide, by decide⟩ ?_
      exact Or.inr ⟨by unfold oFor; rw [if_pos (by omega), if_pos (show qF nu σ = -1 ∨ gR σ (qF nu σ) 4 ≠ -1 from Or.inl hq9)], rfl⟩

theorem k_X3_undo_X3_requireCase : XS wsX3_undo RX3 31 yX3_requireCase cX3_requireCase 1 none wsX3_requireCase 1 := ⟨gX3_undo_X3_requireCase, ⟨_, rfl⟩, by decide, by decide, by decide +kernel⟩
theorem iw_X3_undo_X3 : ∀ w ∈ wsX30, w ∈ wsX3_undo := by decide +kernel
theorem fq_X3_undo_10 : XF wsX3_undo RX3 10 3 0 := ⟨RX3, TX3, 7, iw_X3_undo_X3, rfl, by decide, by decide +kernel⟩
theorem k_X3_undo_X1_find : XV wsX3_undo RX3 46 RX1 yX1_find cX1_find 2 (some (.object "PageBail$Bail")) wsX1_find 1 := ⟨gX3_undo_X1_find, ⟨_, rfl⟩, rfl, by decide, by decide, by decide +kernel⟩
theorem k_X3_undo_X0_hasForfeitDay : XV wsX3_undo RX3 88 RX0 yX0_hasForfeitDay cX0_hasForfeitDay 1 (some .boolean) wsX0_hasForfeitDay 0 := ⟨gX3_undo_X0_hasForfeitDay, ⟨_, rfl⟩, rfl, by decide, by decide, by decide +kernel⟩
theorem fq_X3_undo_77 : XF wsX3_undo RX3 77 3 3 := ⟨RX3, TX3, 7, iw_X3_undo_X3, rfl, by decide, by decide +kernel⟩
theorem iw_X3_undo_X0 : ∀ w ∈ wsX00, w ∈ wsX3_undo := by decide +kernel
theorem fq_X3_undo_106 : XF wsX3_undo RX3 106 0 4 := ⟨RX0, TX0, 5, iw_X3_undo_X0, rfl, by decide, by decide +kernel⟩
theorem fp_X3_undo_106 : XGn wsX3_undo RX3 106 0 4 (tyX0 4) := ⟨RX0, TX0, 5, tyX0, iw_X3_undo_X0, rfl, by decide, by decide +kernel, tyX0_ok, nmX0, rfl, by decide +kernel⟩
theorem xt_X3_undo_109 : XT wsX3_undo RX3 54 109 58 XIS "no record of the case, or it is not forfeited" := ⟨by decide +kernel, by decide +kernel, by decide +kernel, by decide, xt_g58.1, xt_g58.2, by decide, rfl⟩
set_option maxHeartbeats 4000000 in
set_option maxRecDepth 100000 in
theorem c_X3_undo (l : Launch) (D : va_G) (cs : ClassId × ClassId × ClassId) (hl9 : l.stackTraces = false) (L : List Nat) (f0 : Nat → va_E) (x br ba pr sz lr : Nat) (σ : Sg) (nu : Int) (hC : CC cs L f0 x br ba pr sz lr σ) (hI : Inv σ) (hrg : (-2147483648 ≤ nu ∧ nu < 2147483648)) : C1 l yX3_undo wsX3_undo ({ frames := 7, cells := 2, slots := 12, locals := 120 } : Room) D cs [.ref x, .int (iI nu)] L f0 (fun v L1 f1 => CPi cs L f0 x br ba pr sz lr (oUnd nu σ) v L1 f1) (fun E => PXA (oUnd nu σ) E) := by
  refine C1.of (cc := cX3_undo) (maxL := 4) (ret := (some .int)) (by decide) rfl (Nat.le_of_ble_eq_true rfl) ?_
  intro p e s m below meth c X hr hlk hout hV A hA hZ w ls hl
  have hl : lv_has ls 4 [(0, .ref x), (1, .int (iI nu))] := hl
  have hn := hI.n; have hk := hI.k; have ht := hI.t; have hsw := hI.s; have hz4 := hI.z4
  have hF : FC L f0 f0 x br ba pr sz lr := FC.rf _ _ _ _ _ _ _ _
  refine x_il_n X hl 1 rfl rfl dX3_undo_0 ?_
  refine x_callS1 (As := [.int (iI nu)]) (rest := []) (c1 := 1) (s1 := 6) X w hA hV hZ (c_X3_requireCase l D cs hl9 L f0 nu (by omega)) k_X3_undo_X3_requireCase (by decide) rfl hl rfl (Nat.le_of_ble_eq_true rfl) (by decide) rfl rfl dX3_undo_1 (fun E ce a9 H locs w hpx hce hcv hcl => ?_) (fun v L1 f1 H locs w hp => ?_)
  · exact x_out X w hlk hout hce hcv hcl ⟨by decide, by decide⟩ (Or.inl ⟨by unfold oUnd; rw [if_neg (by have h9 := hpx.1; omega)], hpx.2⟩)
  · obtain ⟨rfl, rfl, rfl, hrc⟩ := hp
    show W p l e _ s m _ below meth c _ _ _ _ _ (F0 m 4 ls [])
    refine x_al_n X hl 0 rfl rfl dX3_undo_4 ?_
    refine x_get X w hC.mx hC.fx fq_X3_undo_10 rfl dX3_undo_5 ?_
    refine x_il_n X hl 1 rfl rfl dX3_undo_8 ?_
    obtain ⟨r9, hRB, hO⟩ := hC.rb
    refine x_callV (As := [.int (iI nu)]) (rest := []) (c1 := 1) (s1 := 6) X w hA (c_X1_find l D cs L f0 br ba (gN σ) r9 (gR σ) nu hRB hO (by omega) hI.r0 hI.so) k_X3_undo_X1_find (by decide) hC.mb hC.fb rfl rfl rfl hl rfl (Nat.le_of_ble_eq_true rfl) (by decide) rfl rfl dX3_undo_9 (fun v L1 f1 H locs w hp => ?_)
    obtain ⟨rfl, rfl, hp⟩ := hp
    rcases hp with ⟨a9, rfl, ha9, hm9, hf9, hq9⟩ | ⟨rfl, hq9⟩
    · show W p l e _ s m _ below meth c _ _ _ _ _ (F0 m 12 ls [.ref a9])
      refine x_as_n (lv' := [(2, .ref a9), (0, .ref x), (1, .int (iI nu))]) X hl rfl (by decide) rfl dX3_undo_12 (fun ls hl => ?_)
      refine x_al_n X hl 0 rfl rfl dX3_undo_13 ?_
      refine x_ifnull_r X dX3_undo_14 ?_
      have hrec := hI.r (fd (gR σ) (gN σ) nu) (by omega) (by omega)
      refine x_al_n X hl 0 rfl rfl dX3_undo_17 ?_
      refine x_callV (As := []) (rest := []) (c1 := 1) (s1 := 6) X w hA (c_X0_hasForfeitDay l D cs L f0 a9 ((gR σ) (fd (gR σ) (gN σ) nu)) hm9 hf9 (by omega)) k_X3_undo_X0_hasForfeitDay (by decide) hm9 hf9 rfl rfl rfl hl rfl (Nat.le_of_ble_eq_true rfl) (by decide) rfl rfl dX3_undo_18 (fun v L1 f1 H locs w hp => ?_)
      obtain ⟨rfl, rfl, hp⟩ := hp
      rcases hp with ⟨rfl, hq18⟩ | ⟨rfl, hq18⟩
      · show W p l e _ s m _ below meth c _ _ _ _ _ (F0 m 21 ls [.int (iI 1)])
        refine x_ifT_ne (tgt := 34) X (by decide) (by decide) (by decide) dX3_undo_21 ?_
        refine x_al_n X hl 1 rfl rfl dX3_undo_34 ?_
        refine x_get X w hC.mx hC.fx fq_X3_undo_77 rfl dX3_undo_35 ?_
        refine x_al_n X hl 0 rfl rfl dX3_undo_38 ?_
        refine x_get X w hm9 hf9 fq_X3_undo_106 rfl dX3_undo_39 ?_
        refine x_isub X dX3_undo_42 ?_
        refine x_is_n (lv' := [(3, .int (iI ((gT σ) - ((gR σ) (fd (gR σ) (gN σ) nu) 4)))), (2, .ref a9), (0, .ref x), (1, .int (iI nu))]) X hl rfl (by decide) rfl dX3_undo_43 (fun ls hl => ?_)
        refine x_al_n X hl 1 rfl rfl dX3_undo_44 ?_
        refine x_iconst X dX3_undo_45 ?_
        refine x_put X w hm9 hf9 fp_X3_undo_106 rfl rfl (Nat.le_of_ble_eq_true rfl) rfl dX3_undo_46 (fun H locs w => ?_)
        obtain ⟨f49, w, hC, hF⟩ : ∃ f9, XW D A s.heap L f9 H locs ∧ CX cs L f9 x br ba pr sz lr (gN σ) (uI (gR σ) (fd (gR σ) (gN σ) nu) (uN (gR σ (fd (gR σ) (gN σ) nu)) 4 (-1))) (gK σ) (gZ σ) (gT σ) (gP σ) (gB σ) (gS σ) (gW σ) ∧ FC L f0 f9 x br ba pr sz lr := ⟨_, w, CX.rec (g := uN (gR σ (fd (gR σ) (gN σ) nu)) 4 (-1)) hC hRB hO (by omega) ha9 hI.so hI.r0, FC.rec hF hf9⟩
        refine x_il_n X hl 0 rfl rfl dX3_undo_49 ?_
        refine vx_ret ?_
        refine x_iret X w hr hlk ⟨by decide, by decide⟩ dX3_undo_50 ?_
        have ho : oUnd nu σ = (0, gT σ - gR σ (qF nu σ) 4, oSetR (uI (gR σ) (qF nu σ) (uN (gR σ (qF nu σ)) 4 (-1))) σ) := by unfold oUnd; rw [if_pos (by omega), if_neg (show ¬ (qF nu σ = -1 ∨ gR σ (qF nu σ) 4 = -1) from fun h9 => h9.elim (fun h8 => by have h7 : fd (gR σ) (gN σ) nu = -1 := h8; omega) (fun h8 => hq18 h8))]
        rw [ho]
        exact ⟨rfl, rfl, hC, fun _ h => h, hF⟩
      · show W p l e _ s m _ below meth c _ _ _ _ _ (F0 m 21 ls [.int (iI 0)])
        refine x_ifF_ne (tgt := 34) X (by decide) (by decide) (by decide) dX3_undo_21 ?_
        refine x_throw X w hl9 hV hZ hlk hout hl xt_X3_undo_109 dX3_undo_24 dX3_undo_27 dX3_undo_28 dX3_undo_30 dX3_undo_33 ⟨by decide, (Nat.le_of_ble_eq_true rfl), by decide, by decide⟩ ⟨by decide, by decide⟩ ?_
        exact Or.inr ⟨by unfold oUnd; rw [if_pos (by omega), if_pos (show qF nu σ = -1 ∨ gR σ (qF nu σ) 4 = -1 from Or.inr hq18)], rfl⟩
    · show W p l e _ s m _ below meth c _ _ _ _ _ (F0 m 12 ls [.null])
      refine x_asN_n (lv' := [(2, .null), (0, .ref x), (1, .int (iI nu))]) X hl rfl (by decide) rfl dX3_undo_12 (fun ls hl => ?_)
      refine x_alN_n X hl 0 rfl rfl dX3_undo_13 ?_
      refine x_ifnull_n (tgt := 24) X (by decide) dX3_undo_14 ?_
      refine x_throw X w hl9 hV hZ hlk hout hl xt_X3_undo_109 dX3_undo_24 dX3_undo_27 dX3_undo_28 dX3_undo_30 dX3_undo_33 ⟨by decide, (Nat.le_of_ble_eq_true rfl), by decide, by decide⟩ ⟨by decide, by decide⟩ ?_
      exact Or.inr ⟨by unfold oUnd; rw [if_pos (by omega), if_pos (show qF nu σ = -1 ∨ gR σ (qF nu σ) 4 = -1 from Or.inl hq9)], rfl⟩

theorem k_X3_sum_X3_requireCase : XS wsX3_sum RX3 31 yX3_requireCase cX3_requireCase 1 none wsX3_requireCase 1 := ⟨gX3_sum_X3_requireCase, ⟨_, rfl⟩, by decide, by decide, by decide +kernel⟩
theorem iw_X3_sum_X3 : ∀ w ∈ wsX30, w ∈ wsX3_sum := by decide +kernel
theorem fq_X3_sum_10 : XF wsX3_sum RX3 10 3 0 := ⟨RX3, TX3, 7, iw_X3_sum_X3, rfl, by decide, by decide +kernel⟩
theorem k_X3_sum_X1_find : XV wsX3_sum RX3 46 RX1 yX1_find cX1_find 2 (some (.object "PageBail$Bail")) wsX1_find 1 := ⟨gX3_sum_X1_find, ⟨_, rfl⟩, rfl, by decide, by decide, by decide +kernel⟩
theorem iw_X3_sum_X0 : ∀ w ∈ wsX00, w ∈ wsX3_sum := by decide +kernel
theorem fq_X3_sum_97 : XF wsX3_sum RX3 97 0 1 := ⟨RX0, TX0, 5, iw_X3_sum_X0, rfl, by decide, by decide +kernel⟩
set_option maxHeartbeats 4000000 in
set_option maxRecDepth 100000 in
theorem c_X3_sum (l : Launch) (D : va_G) (cs : ClassId × ClassId × ClassId) (hl9 : l.stackTraces = false) (L : List Nat) (f0 : Nat → va_E) (x br ba pr sz lr : Nat) (σ : Sg) (nu : Int) (hC : CC cs L f0 x br ba pr sz lr σ) (hI : Inv σ) (hrg : (-2147483648 ≤ nu ∧ nu < 2147483648)) : C1 l yX3_sum wsX3_sum ({ frames := 7, cells := 1, slots := 6, locals := 120 } : Room) D cs [.ref x, .int (iI nu)] L f0 (fun v L1 f1 => CPi cs L f0 x br ba pr sz lr (oSum nu σ) v L1 f1) (fun E => PXA (oSum nu σ) E) := by
  refine C1.of (cc := cX3_sum) (maxL := 3) (ret := (some .int)) (by decide) rfl (Nat.le_of_ble_eq_true rfl) ?_
  intro p e s m below meth c X hr hlk hout hV A hA hZ w ls hl
  have hl : lv_has ls 3 [(0, .ref x), (1, .int (iI nu))] := hl
  have hn := hI.n; have hk := hI.k; have ht := hI.t; have hsw := hI.s; have hz4 := hI.z4
  have hF : FC L f0 f0 x br ba pr sz lr := FC.rf _ _ _ _ _ _ _ _
  refine x_il_n X hl 1 rfl rfl dX3_sum_0 ?_
  refine x_callS1 (As := [.int (iI nu)]) (rest := []) (c1 := 1) (s1 := 6) X w hA hV hZ (c_X3_requireCase l D cs hl9 L f0 nu (by omega)) k_X3_sum_X3_requireCase (by decide) rfl hl rfl (Nat.le_of_ble_eq_true rfl) (by decide) rfl rfl dX3_sum_1 (fun E ce a9 H locs w hpx hce hcv hcl => ?_) (fun v L1 f1 H locs w hp => ?_)
  · exact x_out X w hlk hout hce hcv hcl ⟨by decide, by decide⟩ (Or.inl ⟨by unfold oSum; rw [if_neg (by have h9 := hpx.1; omega)], hpx.2⟩)
  · obtain ⟨rfl, rfl, rfl, hrc⟩ := hp
    show W p l e _ s m _ below meth c _ _ _ _ _ (F0 m 4 ls [])
    refine x_al_n X hl 0 rfl rfl dX3_sum_4 ?_
    refine x_get X w hC.mx hC.fx fq_X3_sum_10 rfl dX3_sum_5 ?_
    refine x_il_n X hl 1 rfl rfl dX3_sum_8 ?_
    obtain ⟨r9, hRB, hO⟩ := hC.rb
    refine x_callV (As := [.int (iI nu)]) (rest := []) (c1 := 1) (s1 := 6) X w hA (c_X1_find l D cs L f0 br ba (gN σ) r9 (gR σ) nu hRB hO (by omega) hI.r0 hI.so) k_X3_sum_X1_find (by decide) hC.mb hC.fb rfl rfl rfl hl rfl (Nat.le_of_ble_eq_true rfl) (by decide) rfl rfl dX3_sum_9 (fun v L1 f1 H locs w hp => ?_)
    obtain ⟨rfl, rfl, hp⟩ := hp
    rcases hp with ⟨a9, rfl, ha9, hm9, hf9, hq9⟩ | ⟨rfl, hq9⟩
    · show W p l e _ s m _ below meth c _ _ _ _ _ (F0 m 12 ls [.ref a9])
      refine x_as_n (lv' := [(2, .ref a9), (0, .ref x), (1, .int (iI nu))]) X hl rfl (by decide) rfl dX3_sum_12 (fun ls hl => ?_)
      refine x_al_n X hl 0 rfl rfl dX3_sum_13 ?_
      refine x_ifnonnull_r (tgt := 21) X (by decide) dX3_sum_14 ?_
      refine x_al_n X hl 0 rfl rfl dX3_sum_21 ?_
      refine x_get X w hm9 hf9 fq_X3_sum_97 rfl dX3_sum_22 ?_
      refine vx_ret ?_
      refine x_iret X w hr hlk ⟨by decide, by decide⟩ dX3_sum_25 ?_
      have ho : oSum nu σ = (0, gR σ (qF nu σ) 1, σ) := by unfold oSum; rw [if_pos (by omega), if_neg (show ¬ qF nu σ = -1 by show ¬ fd (gR σ) (gN σ) nu = -1; omega)]
      rw [ho]
      exact ⟨rfl, rfl, hC, fun _ h => h, hF⟩
    · show W p l e _ s m _ below meth c _ _ _ _ _ (F0 m 12 ls [.null])
      refine x_asN_n (lv' := [(2, .null), (0, .ref x), (1, .int (iI nu))]) X hl rfl (by decide) rfl dX3_sum_12 (fun ls hl => ?_)
      refine x_alN_n X hl 0 rfl rfl dX3_sum_13 ?_
      refine x_ifnonnull_n X dX3_sum_14 ?_
      refine x_iconst X dX3_sum_17 ?_
      refine x_goto (tgt := 25) X (by decide) dX3_sum_18 ?_
      refine vx_ret ?_
      refine x_iret X w hr hlk ⟨by decide, by decide⟩ dX3_sum_25 ?_
      have ho : oSum nu σ = (0, 0, σ) := by unfold oSum; rw [if_pos (by omega), if_pos (show qF nu σ = -1 from hq9)]
      rw [ho]
      exact ⟨rfl, rfl, hC, fun _ h => h, hF⟩

theorem k_X3_heldBy_X3_isIn : XS wsX3_heldBy RX3 35 yX3_isIn cX3_isIn 3 (some .boolean) wsX3_isIn 3 := ⟨gX3_heldBy_X3_isIn, ⟨_, rfl⟩, by decide, by decide, by decide +kernel⟩
theorem iw_X3_heldBy_X3 : ∀ w ∈ wsX30, w ∈ wsX3_heldBy := by decide +kernel
theorem fq_X3_heldBy_10 : XF wsX3_heldBy RX3 10 3 0 := ⟨RX3, TX3, 7, iw_X3_heldBy_X3, rfl, by decide, by decide +kernel⟩
theorem k_X3_heldBy_X1_sumOfSurety : XV wsX3_heldBy RX3 122 RX1 yX1_sumOfSurety cX1_sumOfSurety 5 (some .int) wsX1_sumOfSurety 1 := ⟨gX3_heldBy_X1_sumOfSurety, ⟨_, rfl⟩, rfl, by decide, by decide, by decide +kernel⟩
theorem xt_X3_heldBy_120 : XT wsX3_heldBy RX3 39 120 43 XIA "surety out of range" := ⟨by decide +kernel, by decide +kernel, by decide +kernel, by decide, xt_g43.1, xt_g43.2, by decide, rfl⟩
set_option maxHeartbeats 4000000 in
set_option maxRecDepth 100000 in
theorem c_X3_heldBy (l : Launch) (D : va_G) (cs : ClassId × ClassId × ClassId) (hl9 : l.stackTraces = false) (L : List Nat) (f0 : Nat → va_E) (x br ba pr sz lr : Nat) (σ : Sg) (sy : Int) (hC : CC cs L f0 x br ba pr sz lr σ) (hI : Inv σ) (hrg : (-2147483648 ≤ sy ∧ sy < 2147483648)) : C1 l yX3_heldBy wsX3_heldBy ({ frames := 6, cells := 1, slots := 6, locals := 90 } : Room) D cs [.ref x, .int (iI sy)] L f0 (fun v L1 f1 => CPi cs L f0 x br ba pr sz lr (oHel sy σ) v L1 f1) (fun E => PXA (oHel sy σ) E) := by
  refine C1.of (cc := cX3_heldBy) (maxL := 2) (ret := (some .int)) (by decide) rfl (Nat.le_of_ble_eq_true rfl) ?_
  intro p e s m below meth c X hr hlk hout hV A hA hZ w ls hl
  have hl : lv_has ls 2 [(0, .ref x), (1, .int (iI sy))] := hl
  have hn := hI.n; have hk := hI.k; have ht := hI.t; have hsw := hI.s; have hz4 := hI.z4
  have hF : FC L f0 f0 x br ba pr sz lr := FC.rf _ _ _ _ _ _ _ _
  refine x_il_n X hl 1 rfl rfl dX3_heldBy_0 ?_
  refine x_iconst X dX3_heldBy_1 ?_
  refine x_bipush X (by decide) dX3_heldBy_2 ?_
  refine x_callS (As := [.int (iI sy), .int (iI 0), .int (iI 9)]) (rest := []) (c1 := 0) (s1 := 0) X w hA (c_X3_isIn l D cs L f0 sy 0 9 (by omega)) k_X3_heldBy_X3_isIn (by decide) rfl hl rfl (Nat.le_of_ble_eq_true rfl) (by decide) rfl rfl dX3_heldBy_4 (fun v L1 f1 H locs w hp => ?_)
  obtain ⟨rfl, rfl, hp⟩ := hp
  rcases hp with ⟨rfl, hq4⟩ | ⟨rfl, hq4⟩
  · show W p l e _ s m _ below meth c _ _ _ _ _ (F0 m 7 ls [.int (iI 1)])
    refine x_ifT_ne (tgt := 20) X (by decide) (by decide) (by decide) dX3_heldBy_7 ?_
    refine x_al_n X hl 0 rfl rfl dX3_heldBy_20 ?_
    refine x_get X w hC.mx hC.fx fq_X3_heldBy_10 rfl dX3_heldBy_21 ?_
    refine x_il_n X hl 1 rfl rfl dX3_heldBy_24 ?_
    obtain ⟨r25, hRB, hO⟩ := hC.rb
    refine x_callV (As := [.int (iI sy)]) (rest := []) (c1 := 0) (s1 := 0) X w hA (c_X1_sumOfSurety l D cs L f0 br ba (gN σ) r25 (gR σ) sy hRB hO (by omega) hI.r2) k_X3_heldBy_X1_sumOfSurety (by decide) hC.mb hC.fb rfl rfl rfl hl rfl (Nat.le_of_ble_eq_true rfl) (by decide) rfl rfl dX3_heldBy_25 (fun v L1 f1 H locs w hp => ?_)
    obtain ⟨rfl, rfl, hp⟩ := hp
    subst hp
    show W p l e _ s m _ below meth c _ _ _ _ _ (F0 m 28 ls [.int (iI (hs (gR σ) sy (gN σ)))])
    refine vx_ret ?_
    refine x_iret X w hr hlk ⟨by decide, by decide⟩ dX3_heldBy_28 ?_
    have ho : oHel sy σ = (0, hs (gR σ) sy (gN σ), σ) := by unfold oHel; rw [if_pos (by omega)]
    rw [ho]
    exact ⟨rfl, rfl, hC, fun _ h => h, hF⟩
  · show W p l e _ s m _ below meth c _ _ _ _ _ (F0 m 7 ls [.int (iI 0)])
    refine x_ifF_ne (tgt := 20) X (by decide) (by decide) (by decide) dX3_heldBy_7 ?_
    refine x_throw X w hl9 hV hZ hlk hout hl xt_X3_heldBy_120 dX3_heldBy_10 dX3_heldBy_13 dX3_heldBy_14 dX3_heldBy_16 dX3_heldBy_19 ⟨by decide, (Nat.le_of_ble_eq_true rfl), by decide, by decide⟩ ⟨by decide, by decide⟩ ?_
    exact Or.inl ⟨by unfold oHel; rw [if_neg (by omega)], rfl⟩

theorem k_X3_amnesty_X3_isIn : XS wsX3_amnesty RX3 35 yX3_isIn cX3_isIn 3 (some .boolean) wsX3_isIn 3 := ⟨gX3_amnesty_X3_isIn, ⟨_, rfl⟩, by decide, by decide, by decide +kernel⟩
theorem iw_X3_amnesty_X3 : ∀ w ∈ wsX30, w ∈ wsX3_amnesty := by decide +kernel
theorem fq_X3_amnesty_77 : XF wsX3_amnesty RX3 77 3 3 := ⟨RX3, TX3, 7, iw_X3_amnesty_X3, rfl, by decide, by decide +kernel⟩
theorem fq_X3_amnesty_10 : XF wsX3_amnesty RX3 10 3 0 := ⟨RX3, TX3, 7, iw_X3_amnesty_X3, rfl, by decide, by decide +kernel⟩
theorem k_X3_amnesty_X1_count : XV wsX3_amnesty RX3 50 RX1 yX1_count cX1_count 1 (some .int) wsX1_count 0 := ⟨gX3_amnesty_X1_count, ⟨_, rfl⟩, rfl, by decide, by decide, by decide +kernel⟩
theorem k_X3_amnesty_X1_bailAt : XV wsX3_amnesty RX3 113 RX1 yX1_bailAt cX1_bailAt 2 (some (.object "PageBail$Bail")) wsX1_bailAt 1 := ⟨gX3_amnesty_X1_bailAt, ⟨_, rfl⟩, rfl, by decide, by decide, by decide +kernel⟩
theorem k_X3_amnesty_X0_isUnder : XV wsX3_amnesty RX3 116 RX0 yX0_isUnder cX0_isUnder 3 (some .boolean) wsX0_isUnder 2 := ⟨gX3_amnesty_X0_isUnder, ⟨_, rfl⟩, rfl, by decide, by decide, by decide +kernel⟩
theorem fq_X3_amnesty_94 : XF wsX3_amnesty RX3 94 3 5 := ⟨RX3, TX3, 7, iw_X3_amnesty_X3, rfl, by decide, by decide +kernel⟩
theorem iw_X3_amnesty_X0 : ∀ w ∈ wsX00, w ∈ wsX3_amnesty := by decide +kernel
theorem fq_X3_amnesty_97 : XF wsX3_amnesty RX3 97 0 1 := ⟨RX0, TX0, 5, iw_X3_amnesty_X0, rfl, by decide, by decide +kernel⟩
theorem fp_X3_amnesty_94 : XGn wsX3_amnesty RX3 94 3 5 (tyX3 5) := ⟨RX3, TX3, 7, tyX3, iw_X3_amnesty_X3, rfl, by decide, by decide +kernel, tyX3_ok, nmX3, rfl, by decide +kernel⟩
theorem k_X3_amnesty_X3_takeOut : XV wsX3_amnesty RX3 103 RX3 yX3_takeOut cX3_takeOut 2 none wsX3_takeOut 1 := ⟨gX3_amnesty_X3_takeOut, ⟨_, rfl⟩, rfl, by decide, by decide, by decide +kernel⟩
theorem xt_X3_amnesty_111 : XT wsX3_amnesty RX3 39 111 43 XIA "sum or day out of range" := ⟨by decide +kernel, by decide +kernel, by decide +kernel, by decide, xt_g43.1, xt_g43.2, by decide, rfl⟩
set_option maxHeartbeats 4000000 in
set_option maxRecDepth 100000 in
theorem c_X3_amnesty (l : Launch) (D : va_G) (cs : ClassId × ClassId × ClassId) (hl9 : l.stackTraces = false) (L : List Nat) (f0 : Nat → va_E) (x br ba pr sz lr : Nat) (σ : Sg) (su dy : Int) (hC : CC cs L f0 x br ba pr sz lr σ) (hI : Inv σ) (hrg : (-2147483648 ≤ su ∧ su < 2147483648) ∧ (-2147483648 ≤ dy ∧ dy < 2147483648)) : C1 l yX3_amnesty wsX3_amnesty ({ frames := 7, cells := 1, slots := 6, locals := 140 } : Room) D cs [.ref x, .int (iI su), .int (iI dy)] L f0 (fun v L1 f1 => CPi cs L f0 x br ba pr sz lr (oAmn su dy σ) v L1 f1) (fun E => PXA (oAmn su dy σ) E) := by
  refine C1.of (cc := cX3_amnesty) (maxL := 7) (ret := (some .int)) (by decide) rfl (Nat.le_of_ble_eq_true rfl) ?_
  intro p e s m below meth c X hr hlk hout hV A hA hZ w ls hl
  have hl : lv_has ls 7 [(0, .ref x), (1, .int (iI su)), (2, .int (iI dy))] := hl
  have hn := hI.n; have hk := hI.k; have ht := hI.t; have hsw := hI.s; have hz4 := hI.z4
  have hF : FC L f0 f0 x br ba pr sz lr := FC.rf _ _ _ _ _ _ _ _
  refine x_il_n X hl 1 rfl rfl dX3_amnesty_0 ?_
  refine x_iconst X dX3_amnesty_1 ?_
  refine x_sipush X (by decide) dX3_amnesty_2 ?_
  refine x_callS (As := [.int (iI su), .int (iI 1), .int (iI 10000)]) (rest := []) (c1 := 0) (s1 := 0) X w hA (c_X3_isIn l D cs L f0 su 1 10000 (by omega)) k_X3_amnesty_X3_isIn (by decide) rfl hl rfl (Nat.le_of_ble_eq_true rfl) (by decide) rfl rfl dX3_amnesty_5 (fun v L1 f1 H locs w hp => ?_)
  obtain ⟨rfl, rfl, hp⟩ := hp
  rcases hp with ⟨rfl, hq5⟩ | ⟨rfl, hq5⟩
  · show W p l e _ s m _ below meth c _ _ _ _ _ (F0 m 8 ls [.int (iI 1)])
    refine x_ifF_eq (tgt := 23) X (by decide) (by decide) (by decide) dX3_amnesty_8 ?_
    refine x_il_n X hl 2 rfl rfl dX3_amnesty_11 ?_
    refine x_iconst X dX3_amnesty_12 ?_
    refine x_al_n X hl 0 rfl rfl dX3_amnesty_13 ?_
    refine x_get X w hC.mx hC.fx fq_X3_amnesty_77 rfl dX3_amnesty_14 ?_
    refine x_callS (As := [.int (iI dy), .int (iI 0), .int (iI (gT σ))]) (rest := []) (c1 := 0) (s1 := 0) X w hA (c_X3_isIn l D cs L f0 dy 0 (gT σ) (by omega)) k_X3_amnesty_X3_isIn (by decide) rfl hl rfl (Nat.le_of_ble_eq_true rfl) (by decide) rfl rfl dX3_amnesty_17 (fun v L1 f1 H locs w hp => ?_)
    obtain ⟨rfl, rfl, hp⟩ := hp
    rcases hp with ⟨rfl, hq17⟩ | ⟨rfl, hq17⟩
    · show W p l e _ s m _ below meth c _ _ _ _ _ (F0 m 20 ls [.int (iI 1)])
      refine x_ifT_ne (tgt := 33) X (by decide) (by decide) (by decide) dX3_amnesty_20 ?_
      refine x_iconst X dX3_amnesty_33 ?_
      refine x_is_n (lv' := [(3, .int (iI 0)), (0, .ref x), (1, .int (iI su)), (2, .int (iI dy))]) X hl rfl (by decide) rfl dX3_amnesty_34 (fun ls hl => ?_)
      refine x_iconst X dX3_amnesty_35 ?_
      refine x_is (lv' := [(4, .int (iI 0)), (3, .int (iI 0)), (0, .ref x), (1, .int (iI su)), (2, .int (iI dy))]) X hl (by decide) rfl dX3_amnesty_36 (fun ls hl => ?_)
      refine x_al_n X hl 2 rfl rfl dX3_amnesty_38 ?_
      refine x_get X w hC.mx hC.fx fq_X3_amnesty_10 rfl dX3_amnesty_39 ?_
      obtain ⟨r42, hRB, hO⟩ := hC.rb
      refine x_callV (As := []) (rest := []) (c1 := 0) (s1 := 0) X w hA (c_X1_count l D cs L f0 br ba (gN σ) r42 (gR σ)  hRB hO) k_X3_amnesty_X1_count (by decide) hC.mb hC.fb rfl rfl rfl hl rfl (Nat.le_of_ble_eq_true rfl) (by decide) rfl rfl dX3_amnesty_42 (fun v L1 f1 H locs w hp => ?_)
      obtain ⟨rfl, rfl, hp⟩ := hp
      subst hp
      show W p l e _ s m _ below meth c _ _ _ _ _ (F0 m 45 ls [.int (iI (gN σ))])
      refine x_is (lv' := [(5, .int (iI (gN σ))), (4, .int (iI 0)), (3, .int (iI 0)), (0, .ref x), (1, .int (iI su)), (2, .int (iI dy))]) X hl (by decide) rfl dX3_amnesty_45 (fun ls hl => ?_)
      have loop47 : ∀ (N9 : Nat) (σ2 : Sg) (f1 : Nat → va_E) (pl : Int) (tk : Int) (mm : Nat) (H : Heap) (locs : List Loc) (ls : Array Slot), mm < N9 → (Inv σ2) → (CC cs L f1 x br ba pr sz lr σ2) → (FC L f0 f1 x br ba pr sz lr) → (0 ≤ pl ∧ pl + (mm : Int) = gN σ2) → (gT σ2 = gT σ) → (tk + (oLoop (amP su dy) false mm pl σ2).1 = (oLoop (amP su dy) false (gN σ).toNat 0 σ).1) → ((oLoop (amP su dy) false mm pl σ2).2 = (oLoop (amP su dy) false (gN σ).toNat 0 σ).2) → XW D A s.heap L f1 H locs → lv_has ls 7 [(0, .ref x), (1, .int (iI su)), (2, .int (iI dy)), (3, .int (iI tk)), (4, .int (iI pl)), (5, .int (iI (mm : Int)))] → W p l e ({ frames := 7, cells := 1, slots := 6, locals := 140 } : Room) s m ([.ref x, .int (iI su), .int (iI dy)] : List Value).toArray below meth c H locs 0 0 (vx_MQ below (CQ D cs A (fun v L1 f1 => CPi cs L f0 x br ba pr sz lr (oAmn su dy σ) v L1 f1)) (EX D cs A L f0 (fun E => PXA (oAmn su dy σ) E)) ([.ref x, .int (iI su), .int (iI dy)] : List Value).toArray s 1 6 A) (F0 m 47 ls []) := by
        intro N9
        induction N9 with
        | zero => intro σ2 f1 pl tk mm H locs ls h9; exact absurd h9 (Nat.not_lt_zero _)
        | succ N9 ih47 =>
          intro σ2 f1 pl tk mm H locs ls h9 hI2 hC hF hp0 hT hQ hQ2 w hl
          have hn := hI2.n; have hk := hI2.k; have ht := hI2.t; have hsw := hI2.s; have hz4 := hI2.z4
          refine x_il X hl 5 rfl dX3_amnesty_47 ?_
          refine x_if_le (tgt := 113) X (by omega) (by decide) dX3_amnesty_49 (fun hb49 => ?_) (fun hb49 => ?_)
          · refine x_il_n X hl 3 rfl rfl dX3_amnesty_113 ?_
            refine vx_ret ?_
            refine x_iret X w hr hlk ⟨by decide, by decide⟩ dX3_amnesty_114 ?_
            have he9 : mm = 0 := by omega
            subst he9
            have hQ : tk + 0 = (oLoop (amP su dy) false (gN σ).toNat 0 σ).1 := hQ
            rw [Int.add_zero] at hQ
            have hQ2 : σ2 = (oLoop (amP su dy) false (gN σ).toNat 0 σ).2 := hQ2
            have ho : oAmn su dy σ = (0, tk, σ2) := by unfold oAmn; rw [if_pos (by omega), ← hQ, ← hQ2]
            rw [ho]
            exact ⟨rfl, rfl, hC, fun _ h => h, hF⟩
          · obtain ⟨m1, rfl⟩ : ∃ m1 : Nat, mm = m1 + 1 := ⟨mm - 1, by omega⟩
            have hrec := hI2.r pl (by omega) (by omega)
            refine x_al_n X hl 0 rfl rfl dX3_amnesty_52 ?_
            refine x_get X w hC.mx hC.fx fq_X3_amnesty_10 rfl dX3_amnesty_53 ?_
            refine x_il X hl 4 rfl dX3_amnesty_56 ?_
            obtain ⟨r58, hRB, hO⟩ := hC.rb
            refine x_callV (As := [.int (iI pl)]) (rest := []) (c1 := 0) (s1 := 0) X w hA (c_X1_bailAt l D cs L f1 br ba (gN σ2) r58 (gR σ2) pl hRB hO (by omega)) k_X3_amnesty_X1_bailAt (by decide) hC.mb hC.fb rfl rfl rfl hl rfl (Nat.le_of_ble_eq_true rfl) (by decide) rfl rfl dX3_amnesty_58 (fun v L1 f1 H locs w hp => ?_)
            obtain ⟨rfl, rfl, hp⟩ := hp
            rcases hp with ⟨a58, rfl, ha58, hm58, hf58, hq58⟩ | ⟨rfl, hq58⟩
            · show W p l e _ s m _ below meth c _ _ _ _ _ (F0 m 61 ls [.ref a58])
              refine x_as (lv' := [(6, .ref a58), (0, .ref x), (1, .int (iI su)), (2, .int (iI dy)), (3, .int (iI tk)), (4, .int (iI pl)), (5, .int (iI ((m1 + 1 : Nat) : Int)))]) X hl (by decide) rfl dX3_amnesty_61 (fun ls hl => ?_)
              refine x_al X hl 0 rfl dX3_amnesty_63 ?_
              refine x_ifnull_r X dX3_amnesty_65 ?_
              refine x_al X hl 0 rfl dX3_amnesty_68 ?_
              refine x_il_n X hl 2 rfl rfl dX3_amnesty_70 ?_
              refine x_il_n X hl 3 rfl rfl dX3_amnesty_71 ?_
              refine x_callV (As := [.int (iI su), .int (iI dy)]) (rest := []) (c1 := 0) (s1 := 0) X w hA (c_X0_isUnder l D cs L f1 a58 ((gR σ2) pl) su dy hm58 hf58 (by omega)) k_X3_amnesty_X0_isUnder (by decide) hm58 hf58 rfl rfl rfl hl rfl (Nat.le_of_ble_eq_true rfl) (by decide) rfl rfl dX3_amnesty_72 (fun v L1 f1 H locs w hp => ?_)
              obtain ⟨rfl, rfl, hp⟩ := hp
              rcases hp with ⟨rfl, hq72⟩ | ⟨rfl, hq72⟩
              · show W p l e _ s m _ below meth c _ _ _ _ _ (F0 m 75 ls [.int (iI 1)])
                refine x_ifF_eq (tgt := 104) X (by decide) (by decide) (by decide) dX3_amnesty_75 ?_
                refine x_al_n X hl 1 rfl rfl dX3_amnesty_78 ?_
                refine x_dup X rfl dX3_amnesty_79 ?_
                refine x_get X w hC.mx hC.fx fq_X3_amnesty_94 rfl dX3_amnesty_80 ?_
                refine x_al X hl 0 rfl dX3_amnesty_83 ?_
                refine x_get X w hm58 hf58 fq_X3_amnesty_97 rfl dX3_amnesty_85 ?_
                refine x_iadd X dX3_amnesty_88 ?_
                refine x_put X w hC.mx hC.fx fp_X3_amnesty_94 rfl rfl (Nat.le_of_ble_eq_true rfl) rfl dX3_amnesty_89 (fun H locs w => ?_)
                have hCo := hC
                obtain ⟨f92, w, hC, hF, hFx⟩ : ∃ f9, XW D A s.heap L f9 H locs ∧ CX cs L f9 x br ba pr sz lr (gN σ2) (gR σ2) (gK σ2) (gZ σ2) (gT σ2) (gP σ2) ((gB σ2) + ((gR σ2) pl 1)) (gS σ2) (gW σ2) ∧ FC L f0 f9 x br ba pr sz lr ∧ FT f1 f9 x br ba pr sz := ⟨_, w, hC.fld _ _ _ _, hF.xx, (FT.rf _ _ _ _ _ _).xx⟩
                have hf58 := FT.bail hCo hFx hf58
                refine x_al_n X hl 1 rfl rfl dX3_amnesty_92 ?_
                refine x_il X hl 5 rfl dX3_amnesty_93 ?_
                refine x_callV (As := [.int (iI pl)]) (rest := []) (c1 := 0) (s1 := 0) X w hA (c_X3_takeOut l D cs L f92 x br ba pr sz lr (oAdd false ((gR σ2) pl 1) σ2) pl hC hI2 (show 0 ≤ pl ∧ pl < gN σ2 from by omega)) k_X3_amnesty_X3_takeOut (by decide) hC.mx hC.fx rfl rfl rfl hl rfl (Nat.le_of_ble_eq_true rfl) (by decide) rfl rfl dX3_amnesty_95 (fun v L1 f1 H locs w hp => ?_)
                obtain ⟨rfl, rfl, hFT, hC2⟩ := hp
                have hf58 := FT.bail hC hFT hf58
                have hC := hC2
                have hF := hF.t hFT
                have hI95 : Inv (oTake pl (oAdd false ((gR σ2) pl 1) σ2)) := Inv.take hI2 (show 0 ≤ pl ∧ pl < gN σ2 from by omega)
                show W p l e _ s m _ below meth c _ _ _ _ _ (F0 m 98 ls [])
                refine x_iinc (lv' := [(3, .int (iI (tk + 1))), (6, .ref a58), (0, .ref x), (1, .int (iI su)), (2, .int (iI dy)), (4, .int (iI pl)), (5, .int (iI ((m1 + 1 : Nat) : Int)))]) X hl 4 rfl (by decide) rfl dX3_amnesty_98 (fun ls hl => ?_)
                refine x_goto (tgt := 107) X (by decide) dX3_amnesty_101 ?_
                refine x_iinc (lv' := [(5, .int (iI (((m1 + 1 : Nat) : Int) + (-1)))), (3, .int (iI (tk + 1))), (6, .ref a58), (0, .ref x), (1, .int (iI su)), (2, .int (iI dy)), (4, .int (iI pl))]) X hl 6 rfl (by decide) rfl dX3_amnesty_107 (fun ls hl => ?_)
                rw [show ((m1 + 1 : Nat) : Int) + (-1) = (m1 : Int) from by omega] at hl
                have hN1 : gN (oTake pl (oAdd false (gR σ2 pl 1) σ2)) = gN σ2 - 1 := rfl
                rw [oLoop_t (by exact hq72)] at hQ hQ2
                refine x_goto (tgt := 47) X (by decide) dX3_amnesty_110 ?_
                refine ih47 _ f1 pl (tk + 1) m1 _ _ _ (by omega) hI95 hC hF (⟨by omega, by rw [hN1]; omega⟩) hT (by rw [← hQ]; show _ = tk + (_ + 1); omega) hQ2 w (lv_sub hl [3, 4, 5, 1, 6, 0] rfl)
              · show W p l e _ s m _ below meth c _ _ _ _ _ (F0 m 75 ls [.int (iI 0)])
                refine x_ifT_eq (tgt := 104) X (by decide) (by decide) (by decide) dX3_amnesty_75 ?_
                refine x_iinc (lv' := [(4, .int (iI (pl + 1))), (6, .ref a58), (0, .ref x), (1, .int (iI su)), (2, .int (iI dy)), (3, .int (iI tk)), (5, .int (iI ((m1 + 1 : Nat) : Int)))]) X hl 5 rfl (by decide) rfl dX3_amnesty_104 (fun ls hl => ?_)
                refine x_iinc (lv' := [(5, .int (iI (((m1 + 1 : Nat) : Int) + (-1)))), (4, .int (iI (pl + 1))), (6, .ref a58), (0, .ref x), (1, .int (iI su)), (2, .int (iI dy)), (3, .int (iI tk))]) X hl 6 rfl (by decide) rfl dX3_amnesty_107 (fun ls hl => ?_)
                rw [show ((m1 + 1 : Nat) : Int) + (-1) = (m1 : Int) from by omega] at hl
                rw [oLoop_f (by exact hq72)] at hQ hQ2
                refine x_goto (tgt := 47) X (by decide) dX3_amnesty_110 ?_
                refine ih47 σ2 f1 (pl + 1) tk m1 _ _ _ (by omega) hI2 hC hF (by omega) hT hQ hQ2 w (lv_sub hl [3, 4, 5, 6, 1, 0] rfl)
            · exfalso; omega
      rw [show (gN σ) = ((gN σ).toNat : Int) from by omega] at hl
      refine loop47 _ σ f0 0 0 ((gN σ).toNat) _ _ _ (Nat.lt_succ_self _) hI hC hF (by omega) rfl (Int.zero_add _) rfl w (lv_sub hl [3, 4, 5, 2, 1, 0] rfl)
    · show W p l e _ s m _ below meth c _ _ _ _ _ (F0 m 20 ls [.int (iI 0)])
      refine x_ifF_ne (tgt := 33) X (by decide) (by decide) (by decide) dX3_amnesty_20 ?_
      refine x_throw X w hl9 hV hZ hlk hout hl xt_X3_amnesty_111 dX3_amnesty_23 dX3_amnesty_26 dX3_amnesty_27 dX3_amnesty_29 dX3_amnesty_32 ⟨by decide, (Nat.le_of_ble_eq_true rfl), by decide, by decide⟩ ⟨by decide, by decide⟩ ?_
      exact Or.inl ⟨by unfold oAmn; rw [if_neg (by omega)], rfl⟩
  · show W p l e _ s m _ below meth c _ _ _ _ _ (F0 m 8 ls [.int (iI 0)])
    refine x_ifT_eq (tgt := 23) X (by decide) (by decide) (by decide) dX3_amnesty_8 ?_
    refine x_throw X w hl9 hV hZ hlk hout hl xt_X3_amnesty_111 dX3_amnesty_23 dX3_amnesty_26 dX3_amnesty_27 dX3_amnesty_29 dX3_amnesty_32 ⟨by decide, (Nat.le_of_ble_eq_true rfl), by decide, by decide⟩ ⟨by decide, by decide⟩ ?_
    exact Or.inl ⟨by unfold oAmn; rw [if_neg (by omega)], rfl⟩

theorem k_X3_pass_X3_isIn : XS wsX3_pass RX3 35 yX3_isIn cX3_isIn 3 (some .boolean) wsX3_isIn 3 := ⟨gX3_pass_X3_isIn, ⟨_, rfl⟩, by decide, by decide, by decide +kernel⟩
theorem iw_X3_pass_X3 : ∀ w ∈ wsX30, w ∈ wsX3_pass := by decide +kernel
theorem fq_X3_pass_77 : XF wsX3_pass RX3 77 3 3 := ⟨RX3, TX3, 7, iw_X3_pass_X3, rfl, by decide, by decide +kernel⟩
theorem fp_X3_pass_77 : XGn wsX3_pass RX3 77 3 3 (tyX3 3) := ⟨RX3, TX3, 7, tyX3, iw_X3_pass_X3, rfl, by decide, by decide +kernel, tyX3_ok, nmX3, rfl, by decide +kernel⟩
theorem k_X3_pass_X3_keepOverdue : XV wsX3_pass RX3 132 RX3 yX3_keepOverdue cX3_keepOverdue 5 (some .int) wsX3_keepOverdue 0 := ⟨gX3_pass_X3_keepOverdue, ⟨_, rfl⟩, rfl, by decide, by decide, by decide +kernel⟩
theorem xt_X3_pass_130 : XT wsX3_pass RX3 54 130 58 XIS "today would be above the last day" := ⟨by decide +kernel, by decide +kernel, by decide +kernel, by decide, xt_g58.1, xt_g58.2, by decide, rfl⟩
theorem xt_X3_pass_128 : XT wsX3_pass RX3 39 128 43 XIA "days out of range" := ⟨by decide +kernel, by decide +kernel, by decide +kernel, by decide, xt_g43.1, xt_g43.2, by decide, rfl⟩
set_option maxHeartbeats 4000000 in
set_option maxRecDepth 100000 in
theorem c_X3_pass (l : Launch) (D : va_G) (cs : ClassId × ClassId × ClassId) (hl9 : l.stackTraces = false) (L : List Nat) (f0 : Nat → va_E) (x br ba pr sz lr : Nat) (σ : Sg) (d : Int) (hC : CC cs L f0 x br ba pr sz lr σ) (hI : Inv σ) (hrg : (-2147483648 ≤ d ∧ d < 2147483648)) : C1 l yX3_pass wsX3_pass ({ frames := 8, cells := 1, slots := 6, locals := 164 } : Room) D cs [.ref x, .int (iI d)] L f0 (fun v L1 f1 => CPi cs L f0 x br ba pr sz lr (oPas d σ) v L1 f1) (fun E => PXA (oPas d σ) E) := by
  refine C1.of (cc := cX3_pass) (maxL := 4) (ret := (some .int)) (by decide) rfl (Nat.le_of_ble_eq_true rfl) ?_
  intro p e s m below meth c X hr hlk hout hV A hA hZ w ls hl
  have hl : lv_has ls 4 [(0, .ref x), (1, .int (iI d))] := hl
  have hn := hI.n; have hk := hI.k; have ht := hI.t; have hsw := hI.s; have hz4 := hI.z4
  have hF : FC L f0 f0 x br ba pr sz lr := FC.rf _ _ _ _ _ _ _ _
  refine x_il_n X hl 1 rfl rfl dX3_pass_0 ?_
  refine x_iconst X dX3_pass_1 ?_
  refine x_bipush X (by decide) dX3_pass_2 ?_
  refine x_callS (As := [.int (iI d), .int (iI 1), .int (iI 100)]) (rest := []) (c1 := 0) (s1 := 0) X w hA (c_X3_isIn l D cs L f0 d 1 100 (by omega)) k_X3_pass_X3_isIn (by decide) rfl hl rfl (Nat.le_of_ble_eq_true rfl) (by decide) rfl rfl dX3_pass_4 (fun v L1 f1 H locs w hp => ?_)
  obtain ⟨rfl, rfl, hp⟩ := hp
  rcases hp with ⟨rfl, hq4⟩ | ⟨rfl, hq4⟩
  · show W p l e _ s m _ below meth c _ _ _ _ _ (F0 m 7 ls [.int (iI 1)])
    refine x_ifT_ne (tgt := 20) X (by decide) (by decide) (by decide) dX3_pass_7 ?_
    refine x_al_n X hl 0 rfl rfl dX3_pass_20 ?_
    refine x_get X w hC.mx hC.fx fq_X3_pass_77 rfl dX3_pass_21 ?_
    refine x_il_n X hl 1 rfl rfl dX3_pass_24 ?_
    refine x_iadd X dX3_pass_25 ?_
    refine x_sipush X (by decide) dX3_pass_26 ?_
    refine x_icmp_le (tgt := 42) X (by omega) (by decide) dX3_pass_29 (fun hb29 => ?_) (fun hb29 => ?_)
    · refine x_iconst X dX3_pass_42 ?_
      refine x_is_n (lv' := [(2, .int (iI 0)), (0, .ref x), (1, .int (iI d))]) X hl rfl (by decide) rfl dX3_pass_43 (fun ls hl => ?_)
      refine x_iconst X dX3_pass_44 ?_
      refine x_is_n (lv' := [(3, .int (iI 0)), (2, .int (iI 0)), (0, .ref x), (1, .int (iI d))]) X hl rfl (by decide) rfl dX3_pass_45 (fun ls hl => ?_)
      have loop46 : ∀ (N9 : Nat) (σ2 : Sg) (f1 : Nat → va_E) (i : Int) (tk : Int) (mm : Nat) (H : Heap) (locs : List Loc) (ls : Array Slot), mm < N9 → (Inv σ2) → (CC cs L f1 x br ba pr sz lr σ2) → (FC L f0 f1 x br ba pr sz lr) → (0 ≤ i ∧ i + (mm : Int) = d) → (gT σ2 + (mm : Int) ≤ 5000) → (tk + (oDays mm σ2).1 = (oDays d.toNat σ).1) → ((oDays mm σ2).2 = (oDays d.toNat σ).2) → XW D A s.heap L f1 H locs → lv_has ls 4 [(0, .ref x), (1, .int (iI d)), (2, .int (iI tk)), (3, .int (iI i))] → W p l e ({ frames := 8, cells := 1, slots := 6, locals := 164 } : Room) s m ([.ref x, .int (iI d)] : List Value).toArray below meth c H locs 0 0 (vx_MQ below (CQ D cs A (fun v L1 f1 => CPi cs L f0 x br ba pr sz lr (oPas d σ) v L1 f1)) (EX D cs A L f0 (fun E => PXA (oPas d σ) E)) ([.ref x, .int (iI d)] : List Value).toArray s 1 6 A) (F0 m 46 ls []) := by
        intro N9
        induction N9 with
        | zero => intro σ2 f1 i tk mm H locs ls h9; exact absurd h9 (Nat.not_lt_zero _)
        | succ N9 ih46 =>
          intro σ2 f1 i tk mm H locs ls h9 hI2 hC hF hi hT hQ hQ2 w hl
          have hn := hI2.n; have hk := hI2.k; have ht := hI2.t; have hsw := hI2.s; have hz4 := hI2.z4
          refine x_il_n X hl 3 rfl rfl dX3_pass_46 ?_
          refine x_il_n X hl 1 rfl rfl dX3_pass_47 ?_
          refine x_icmp_ge (tgt := 74) X (by omega) (by decide) dX3_pass_48 (fun hb48 => ?_) (fun hb48 => ?_)
          · refine x_il_n X hl 2 rfl rfl dX3_pass_74 ?_
            refine vx_ret ?_
            refine x_iret X w hr hlk ⟨by decide, by decide⟩ dX3_pass_75 ?_
            have he9 : mm = 0 := by omega
            subst he9
            have hQ : tk + 0 = (oDays d.toNat σ).1 := hQ
            rw [Int.add_zero] at hQ
            have hQ2 : σ2 = (oDays d.toNat σ).2 := hQ2
            have ho : oPas d σ = (0, tk, σ2) := by unfold oPas; rw [if_pos (by omega), if_neg (by omega), ← hQ, ← hQ2]
            rw [ho]
            exact ⟨rfl, rfl, hC, fun _ h => h, hF⟩
          · obtain ⟨m1, rfl⟩ : ∃ m1 : Nat, mm = m1 + 1 := ⟨mm - 1, by omega⟩
            refine x_al_n X hl 0 rfl rfl dX3_pass_51 ?_
            refine x_dup X rfl dX3_pass_52 ?_
            refine x_get X w hC.mx hC.fx fq_X3_pass_77 rfl dX3_pass_53 ?_
            refine x_iconst X dX3_pass_56 ?_
            refine x_iadd X dX3_pass_57 ?_
            refine x_put X w hC.mx hC.fx fp_X3_pass_77 rfl rfl (Nat.le_of_ble_eq_true rfl) rfl dX3_pass_58 (fun H locs w => ?_)
            obtain ⟨f61, w, hC, hF⟩ : ∃ f9, XW D A s.heap L f9 H locs ∧ CX cs L f9 x br ba pr sz lr (gN σ2) (gR σ2) (gK σ2) (gZ σ2) ((gT σ2) + 1) (gP σ2) (gB σ2) (gS σ2) (gW σ2) ∧ FC L f0 f9 x br ba pr sz lr := ⟨_, w, hC.fld _ _ _ _, hF.xx⟩
            have hId := Inv.day hI2 (by omega)
            refine x_il_n X hl 2 rfl rfl dX3_pass_61 ?_
            refine x_al_n X hl 0 rfl rfl dX3_pass_62 ?_
            refine x_callV (As := []) (rest := [.int (iI tk)]) (c1 := 0) (s1 := 0) X w hA (c_X3_keepOverdue l D cs L f61 x br ba pr sz lr (oDay σ2) hC hId) k_X3_pass_X3_keepOverdue (by decide) hC.mx hC.fx rfl rfl rfl hl rfl (Nat.le_of_ble_eq_true rfl) (by decide) rfl rfl dX3_pass_63 (fun v L1 f1 H locs w hp => ?_)
            obtain ⟨rfl, rfl, hFT, hC⟩ := hp
            have hF := hF.t hFT
            have hI63 := Inv.ov hId
            show W p l e _ s m _ below meth c _ _ _ _ _ (F0 m 66 ls [.int (iI ((oOv (oDay σ2)).1)), .int (iI tk)])
            refine x_iadd X dX3_pass_66 ?_
            refine x_is_n (lv' := [(2, .int (iI (tk + ((oOv (oDay σ2)).1)))), (0, .ref x), (1, .int (iI d)), (3, .int (iI i))]) X hl rfl (by decide) rfl dX3_pass_67 (fun ls hl => ?_)
            refine x_iinc (lv' := [(3, .int (iI (i + 1))), (2, .int (iI (tk + ((oOv (oDay σ2)).1)))), (0, .ref x), (1, .int (iI d))]) X hl 3 rfl (by decide) rfl dX3_pass_68 (fun ls hl => ?_)
            refine x_goto (tgt := 46) X (by decide) dX3_pass_71 ?_
            refine ih46 _ f1 (i + 1) (tk + (oOv (oDay σ2)).1) m1 _ _ _ (by omega) hI63 hC hF (by omega) (by have h9 : gT (oOv (oDay σ2)).2 = gT σ2 + 1 := (loop_T _).trans rfl; rw [h9]; omega) (by rw [← hQ]; show _ = tk + ((oOv (oDay σ2)).1 + (oDays m1 (oOv (oDay σ2)).2).1); omega) hQ2 w (lv_sub hl [2, 3, 1, 0] rfl)
      refine loop46 _ σ f0 0 0 (d.toNat) _ _ _ (Nat.lt_succ_self _) hI hC hF (by omega) (by omega) (Int.zero_add _) rfl w (lv_sub hl [2, 3, 1, 0] rfl)
    · refine x_throw X w hl9 hV hZ hlk hout hl xt_X3_pass_130 dX3_pass_32 dX3_pass_35 dX3_pass_36 dX3_pass_38 dX3_pass_41 ⟨by decide, (Nat.le_of_ble_eq_true rfl), by decide, by decide⟩ ⟨by decide, by decide⟩ ?_
      exact Or.inr ⟨by unfold oPas; rw [if_pos (by omega), if_pos (show 5000 < gT σ + d from by omega)], rfl⟩
  · show W p l e _ s m _ below meth c _ _ _ _ _ (F0 m 7 ls [.int (iI 0)])
    refine x_ifF_ne (tgt := 20) X (by decide) (by decide) (by decide) dX3_pass_7 ?_
    refine x_throw X w hl9 hV hZ hlk hout hl xt_X3_pass_128 dX3_pass_10 dX3_pass_13 dX3_pass_14 dX3_pass_16 dX3_pass_19 ⟨by decide, (Nat.le_of_ble_eq_true rfl), by decide, by decide⟩ ⟨by decide, by decide⟩ ?_
    exact Or.inl ⟨by unfold oPas; rw [if_neg (by omega)], rfl⟩

theorem k_X3_step_X3_isIn : XS wsX3_step RX3 35 yX3_isIn cX3_isIn 3 (some .boolean) wsX3_isIn 3 := ⟨gX3_step_X3_isIn, ⟨_, rfl⟩, by decide, by decide, by decide +kernel⟩
theorem iw_X3_step_X3 : ∀ w ∈ wsX30, w ∈ wsX3_step := by decide +kernel
theorem fq_X3_step_27 : XF wsX3_step RX3 27 3 6 := ⟨RX3, TX3, 7, iw_X3_step_X3, rfl, by decide, by decide +kernel⟩
theorem k_X3_step_X3_sweepOn : XV wsX3_step RX3 161 RX3 yX3_sweepOn cX3_sweepOn 1 (some .int) wsX3_sweepOn 0 := ⟨gX3_step_X3_sweepOn, ⟨_, rfl⟩, rfl, by decide, by decide, by decide +kernel⟩
theorem xt_X3_step_159 : XT wsX3_step RX3 54 159 58 XIS "no sweep goes on" := ⟨by decide +kernel, by decide +kernel, by decide +kernel, by decide, xt_g58.1, xt_g58.2, by decide, rfl⟩
theorem xt_X3_step_157 : XT wsX3_step RX3 39 157 43 XIA "steps out of range" := ⟨by decide +kernel, by decide +kernel, by decide +kernel, by decide, xt_g43.1, xt_g43.2, by decide, rfl⟩
set_option maxHeartbeats 4000000 in
set_option maxRecDepth 100000 in
theorem c_X3_step (l : Launch) (D : va_G) (cs : ClassId × ClassId × ClassId) (hl9 : l.stackTraces = false) (L : List Nat) (f0 : Nat → va_E) (x br ba pr sz lr : Nat) (σ : Sg) (d : Int) (hC : CC cs L f0 x br ba pr sz lr σ) (hI : Inv σ) (hrg : (-2147483648 ≤ d ∧ d < 2147483648)) : C1 l yX3_step wsX3_step ({ frames := 6, cells := 1, slots := 6, locals := 97 } : Room) D cs [.ref x, .int (iI d)] L f0 (fun v L1 f1 => CPi cs L f0 x br ba pr sz lr (oSte d σ) v L1 f1) (fun E => PXA (oSte d σ) E) := by
  refine C1.of (cc := cX3_step) (maxL := 4) (ret := (some .int)) (by decide) rfl (Nat.le_of_ble_eq_true rfl) ?_
  intro p e s m below meth c X hr hlk hout hV A hA hZ w ls hl
  have hl : lv_has ls 4 [(0, .ref x), (1, .int (iI d))] := hl
  have hn := hI.n; have hk := hI.k; have ht := hI.t; have hsw := hI.s; have hz4 := hI.z4
  have hF : FC L f0 f0 x br ba pr sz lr := FC.rf _ _ _ _ _ _ _ _
  refine x_il_n X hl 1 rfl rfl dX3_step_0 ?_
  refine x_iconst X dX3_step_1 ?_
  refine x_bipush X (by decide) dX3_step_2 ?_
  refine x_callS (As := [.int (iI d), .int (iI 1), .int (iI 100)]) (rest := []) (c1 := 0) (s1 := 0) X w hA (c_X3_isIn l D cs L f0 d 1 100 (by omega)) k_X3_step_X3_isIn (by decide) rfl hl rfl (Nat.le_of_ble_eq_true rfl) (by decide) rfl rfl dX3_step_4 (fun v L1 f1 H locs w hp => ?_)
  obtain ⟨rfl, rfl, hp⟩ := hp
  rcases hp with ⟨rfl, hq4⟩ | ⟨rfl, hq4⟩
  · show W p l e _ s m _ below meth c _ _ _ _ _ (F0 m 7 ls [.int (iI 1)])
    refine x_ifT_ne (tgt := 20) X (by decide) (by decide) (by decide) dX3_step_7 ?_
    refine x_al_n X hl 0 rfl rfl dX3_step_20 ?_
    refine x_get X w hC.mx hC.fx fq_X3_step_27 rfl dX3_step_21 ?_
    refine x_iconst X dX3_step_24 ?_
    refine x_icmp_ne (tgt := 38) X (by omega) (by decide) dX3_step_25 (fun hb25 => ?_) (fun hb25 => ?_)
    · refine x_iconst X dX3_step_38 ?_
      refine x_is_n (lv' := [(2, .int (iI 0)), (0, .ref x), (1, .int (iI d))]) X hl rfl (by decide) rfl dX3_step_39 (fun ls hl => ?_)
      refine x_iconst X dX3_step_40 ?_
      refine x_is_n (lv' := [(3, .int (iI 0)), (2, .int (iI 0)), (0, .ref x), (1, .int (iI d))]) X hl rfl (by decide) rfl dX3_step_41 (fun ls hl => ?_)
      have loop42 : ∀ (N9 : Nat) (σ2 : Sg) (f1 : Nat → va_E) (i : Int) (tk : Int) (mm : Nat) (H : Heap) (locs : List Loc) (ls : Array Slot), mm < N9 → (Inv σ2) → (CC cs L f1 x br ba pr sz lr σ2) → (FC L f0 f1 x br ba pr sz lr) → (0 ≤ i ∧ i + (mm : Int) = d) → (tk + (oSteps mm σ2).1 = (oSteps d.toNat σ).1) → ((oSteps mm σ2).2 = (oSteps d.toNat σ).2) → XW D A s.heap L f1 H locs → lv_has ls 4 [(0, .ref x), (1, .int (iI d)), (2, .int (iI tk)), (3, .int (iI i))] → W p l e ({ frames := 6, cells := 1, slots := 6, locals := 97 } : Room) s m ([.ref x, .int (iI d)] : List Value).toArray below meth c H locs 0 0 (vx_MQ below (CQ D cs A (fun v L1 f1 => CPi cs L f0 x br ba pr sz lr (oSte d σ) v L1 f1)) (EX D cs A L f0 (fun E => PXA (oSte d σ) E)) ([.ref x, .int (iI d)] : List Value).toArray s 1 6 A) (F0 m 42 ls []) := by
        intro N9
        induction N9 with
        | zero => intro σ2 f1 i tk mm H locs ls h9; exact absurd h9 (Nat.not_lt_zero _)
        | succ N9 ih42 =>
          intro σ2 f1 i tk mm H locs ls h9 hI2 hC hF hi hQ hQ2 w hl
          have hn := hI2.n; have hk := hI2.k; have ht := hI2.t; have hsw := hI2.s; have hz4 := hI2.z4
          refine x_il_n X hl 3 rfl rfl dX3_step_42 ?_
          refine x_il_n X hl 1 rfl rfl dX3_step_43 ?_
          refine x_icmp_ge (tgt := 68) X (by omega) (by decide) dX3_step_44 (fun hb44 => ?_) (fun hb44 => ?_)
          · refine x_il_n X hl 2 rfl rfl dX3_step_68 ?_
            refine vx_ret ?_
            refine x_iret X w hr hlk ⟨by decide, by decide⟩ dX3_step_69 ?_
            have he9 : mm = 0 := by omega
            subst he9
            have hQ : tk + 0 = (oSteps d.toNat σ).1 := hQ
            rw [Int.add_zero] at hQ
            have hQ2 : σ2 = (oSteps d.toNat σ).2 := hQ2
            have ho : oSte d σ = (0, tk, σ2) := by unfold oSte; rw [if_pos (by omega), if_neg (by omega), ← hQ, ← hQ2]
            rw [ho]
            exact ⟨rfl, rfl, hC, fun _ h => h, hF⟩
          · refine x_al_n X hl 0 rfl rfl dX3_step_47 ?_
            refine x_get X w hC.mx hC.fx fq_X3_step_27 rfl dX3_step_48 ?_
            refine x_iconst X dX3_step_51 ?_
            refine x_icmp_eq (tgt := 68) X (by omega) (by decide) dX3_step_52 (fun hb52 => ?_) (fun hb52 => ?_)
            · refine x_il_n X hl 2 rfl rfl dX3_step_68 ?_
              refine vx_ret ?_
              refine x_iret X w hr hlk ⟨by decide, by decide⟩ dX3_step_69 ?_
              rw [oSteps_0 hb52] at hQ hQ2
              have hQ : tk + 0 = (oSteps d.toNat σ).1 := hQ
              rw [Int.add_zero] at hQ
              have hQ2 : σ2 = (oSteps d.toNat σ).2 := hQ2
              have ho : oSte d σ = (0, tk, σ2) := by unfold oSte; rw [if_pos (by omega), if_neg (by omega), ← hQ, ← hQ2]
              rw [ho]
              exact ⟨rfl, rfl, hC, fun _ h => h, hF⟩
            · obtain ⟨m1, rfl⟩ : ∃ m1 : Nat, mm = m1 + 1 := ⟨mm - 1, by omega⟩
              rw [oSteps_n hb52] at hQ hQ2
              refine x_il_n X hl 2 rfl rfl dX3_step_55 ?_
              refine x_al_n X hl 0 rfl rfl dX3_step_56 ?_
              refine x_callV (As := []) (rest := [.int (iI tk)]) (c1 := 0) (s1 := 0) X w hA (c_X3_sweepOn l D cs L f1 x br ba pr sz lr σ2 hC hI2 (by omega)) k_X3_step_X3_sweepOn (by decide) hC.mx hC.fx rfl rfl rfl hl rfl (Nat.le_of_ble_eq_true rfl) (by decide) rfl rfl dX3_step_57 (fun v L1 f1 H locs w hp => ?_)
              obtain ⟨rfl, rfl, hFT, hC⟩ := hp
              have hF := hF.t hFT
              have hI57 := Inv.sw hI2 (by omega)
              show W p l e _ s m _ below meth c _ _ _ _ _ (F0 m 60 ls [.int (iI ((oSw σ2).1)), .int (iI tk)])
              refine x_iadd X dX3_step_60 ?_
              refine x_is_n (lv' := [(2, .int (iI (tk + ((oSw σ2).1)))), (0, .ref x), (1, .int (iI d)), (3, .int (iI i))]) X hl rfl (by decide) rfl dX3_step_61 (fun ls hl => ?_)
              refine x_iinc (lv' := [(3, .int (iI (i + 1))), (2, .int (iI (tk + ((oSw σ2).1)))), (0, .ref x), (1, .int (iI d))]) X hl 3 rfl (by decide) rfl dX3_step_62 (fun ls hl => ?_)
              refine x_goto (tgt := 42) X (by decide) dX3_step_65 ?_
              refine ih42 _ f1 (i + 1) (tk + (oSw σ2).1) m1 _ _ _ (by omega) hI57 hC hF (by omega) (by rw [← hQ]; show _ = tk + ((oSw σ2).1 + (oSteps m1 (oSw σ2).2).1); omega) hQ2 w (lv_sub hl [2, 3, 1, 0] rfl)
      refine loop42 _ σ f0 0 0 (d.toNat) _ _ _ (Nat.lt_succ_self _) hI hC hF (by omega) (Int.zero_add _) rfl w (lv_sub hl [2, 3, 1, 0] rfl)
    · refine x_throw X w hl9 hV hZ hlk hout hl xt_X3_step_159 dX3_step_28 dX3_step_31 dX3_step_32 dX3_step_34 dX3_step_37 ⟨by decide, (Nat.le_of_ble_eq_true rfl), by decide, by decide⟩ ⟨by decide, by decide⟩ ?_
      exact Or.inr ⟨by unfold oSte; rw [if_pos (by omega), if_pos (show gS σ = -1 from by omega)], rfl⟩
  · show W p l e _ s m _ below meth c _ _ _ _ _ (F0 m 7 ls [.int (iI 0)])
    refine x_ifF_ne (tgt := 20) X (by decide) (by decide) (by decide) dX3_step_7 ?_
    refine x_throw X w hl9 hV hZ hlk hout hl xt_X3_step_157 dX3_step_10 dX3_step_13 dX3_step_14 dX3_step_16 dX3_step_19 ⟨by decide, (Nat.le_of_ble_eq_true rfl), by decide, by decide⟩ ⟨by decide, by decide⟩ ?_
    exact Or.inl ⟨by unfold oSte; rw [if_neg (by omega)], rfl⟩

theorem iw_X3_size_X3 : ∀ w ∈ wsX30, w ∈ wsX3_size := by decide +kernel
theorem fq_X3_size_19 : XF wsX3_size RX3 19 3 1 := ⟨RX3, TX3, 7, iw_X3_size_X3, rfl, by decide, by decide +kernel⟩
theorem k_X3_size_X2_has : XV wsX3_size RX3 135 RX2 yX2_has cX2_has 2 (some .boolean) wsX2_has 1 := ⟨gX3_size_X2_has, ⟨_, rfl⟩, rfl, by decide, by decide, by decide +kernel⟩
theorem k_X3_size_X2_sizeOf : XV wsX3_size RX3 66 RX2 yX2_sizeOf cX2_sizeOf 2 (some .int) wsX2_sizeOf 1 := ⟨gX3_size_X2_sizeOf, ⟨_, rfl⟩, rfl, by decide, by decide, by decide +kernel⟩
theorem xt_X3_size_141 : XT wsX3_size RX3 139 141 143 XIO "no such page" := ⟨by decide +kernel, by decide +kernel, by decide +kernel, by decide, xt_g143.1, xt_g143.2, by decide, rfl⟩
set_option maxHeartbeats 4000000 in
set_option maxRecDepth 100000 in
theorem c_X3_size (l : Launch) (D : va_G) (cs : ClassId × ClassId × ClassId) (hl9 : l.stackTraces = false) (L : List Nat) (f0 : Nat → va_E) (x br ba pr sz lr : Nat) (σ : Sg) (pg : Int) (hC : CC cs L f0 x br ba pr sz lr σ) (hI : Inv σ) (hrg : (-2147483648 ≤ pg ∧ pg < 2147483648)) : C1 l yX3_size wsX3_size ({ frames := 6, cells := 1, slots := 6, locals := 90 } : Room) D cs [.ref x, .int (iI pg)] L f0 (fun v L1 f1 => CPi cs L f0 x br ba pr sz lr (oSiz pg σ) v L1 f1) (fun E => PXO (oSiz pg σ) E) := by
  refine C1.of (cc := cX3_size) (maxL := 2) (ret := (some .int)) (by decide) rfl (Nat.le_of_ble_eq_true rfl) ?_
  intro p e s m below meth c X hr hlk hout hV A hA hZ w ls hl
  have hl : lv_has ls 2 [(0, .ref x), (1, .int (iI pg))] := hl
  have hn := hI.n; have hk := hI.k; have ht := hI.t; have hsw := hI.s; have hz4 := hI.z4
  have hF : FC L f0 f0 x br ba pr sz lr := FC.rf _ _ _ _ _ _ _ _
  refine x_al_n X hl 0 rfl rfl dX3_size_0 ?_
  refine x_get X w hC.mx hC.fx fq_X3_size_19 rfl dX3_size_1 ?_
  refine x_il_n X hl 1 rfl rfl dX3_size_4 ?_
  refine x_callV (As := [.int (iI pg)]) (rest := []) (c1 := 0) (s1 := 0) X w hA (c_X2_has l D cs L f0 pr sz (gK σ) (gZ σ) pg hC.pp (by omega)) k_X3_size_X2_has (by decide) hC.pp.mp hC.pp.fp rfl rfl rfl hl rfl (Nat.le_of_ble_eq_true rfl) (by decide) rfl rfl dX3_size_5 (fun v L1 f1 H locs w hp => ?_)
  obtain ⟨rfl, rfl, hp⟩ := hp
  rcases hp with ⟨rfl, hq5⟩ | ⟨rfl, hq5⟩
  · show W p l e _ s m _ below meth c _ _ _ _ _ (F0 m 8 ls [.int (iI 1)])
    refine x_ifT_ne (tgt := 21) X (by decide) (by decide) (by decide) dX3_size_8 ?_
    refine x_al_n X hl 0 rfl rfl dX3_size_21 ?_
    refine x_get X w hC.mx hC.fx fq_X3_size_19 rfl dX3_size_22 ?_
    refine x_il_n X hl 1 rfl rfl dX3_size_25 ?_
    refine x_callV (As := [.int (iI pg)]) (rest := []) (c1 := 0) (s1 := 0) X w hA (c_X2_sizeOf l D cs L f0 pr sz (gK σ) (gZ σ) pg hC.pp (by omega)) k_X3_size_X2_sizeOf (by decide) hC.pp.mp hC.pp.fp rfl rfl rfl hl rfl (Nat.le_of_ble_eq_true rfl) (by decide) rfl rfl dX3_size_26 (fun v L1 f1 H locs w hp => ?_)
    obtain ⟨rfl, rfl, hp⟩ := hp
    rcases hp with ⟨rfl, hq26⟩ | ⟨rfl, hq26⟩
    · show W p l e _ s m _ below meth c _ _ _ _ _ (F0 m 29 ls [.int (iI ((gZ σ) pg))])
      refine vx_ret ?_
      refine x_iret X w hr hlk ⟨by decide, by decide⟩ dX3_size_29 ?_
      have ho : oSiz pg σ = (0, gZ σ pg, σ) := by unfold oSiz; rw [if_pos (by omega)]
      rw [ho]
      exact ⟨rfl, rfl, hC, fun _ h => h, hF⟩
    · exfalso; omega
  · show W p l e _ s m _ below meth c _ _ _ _ _ (F0 m 8 ls [.int (iI 0)])
    refine x_ifF_ne (tgt := 21) X (by decide) (by decide) (by decide) dX3_size_8 ?_
    refine x_throw X w hl9 hV hZ hlk hout hl xt_X3_size_141 dX3_size_11 dX3_size_14 dX3_size_15 dX3_size_17 dX3_size_20 ⟨by decide, (Nat.le_of_ble_eq_true rfl), by decide, by decide⟩ ⟨by decide, by decide⟩ ?_
    exact ⟨by unfold oSiz; rw [if_neg (by omega)], rfl⟩

theorem iw_X3_at_X3 : ∀ w ∈ wsX30, w ∈ wsX3_at := by decide +kernel
theorem fq_X3_at_19 : XF wsX3_at RX3 19 3 1 := ⟨RX3, TX3, 7, iw_X3_at_X3, rfl, by decide, by decide +kernel⟩
theorem k_X3_at_X2_has : XV wsX3_at RX3 135 RX2 yX2_has cX2_has 2 (some .boolean) wsX2_has 1 := ⟨gX3_at_X2_has, ⟨_, rfl⟩, rfl, by decide, by decide, by decide +kernel⟩
theorem k_X3_at_X2_sizeOf : XV wsX3_at RX3 66 RX2 yX2_sizeOf cX2_sizeOf 2 (some .int) wsX2_sizeOf 1 := ⟨gX3_at_X2_sizeOf, ⟨_, rfl⟩, rfl, by decide, by decide, by decide +kernel⟩
theorem k_X3_at_X3_isIn : XS wsX3_at RX3 35 yX3_isIn cX3_isIn 3 (some .boolean) wsX3_isIn 3 := ⟨gX3_at_X3_isIn, ⟨_, rfl⟩, by decide, by decide, by decide +kernel⟩
theorem fq_X3_at_10 : XF wsX3_at RX3 10 3 0 := ⟨RX3, TX3, 7, iw_X3_at_X3, rfl, by decide, by decide +kernel⟩
theorem k_X3_at_X2_beginOf : XV wsX3_at RX3 146 RX2 yX2_beginOf cX2_beginOf 4 (some .int) wsX2_beginOf 1 := ⟨gX3_at_X2_beginOf, ⟨_, rfl⟩, rfl, by decide, by decide, by decide +kernel⟩
theorem k_X3_at_X1_numberAt : XV wsX3_at RX3 149 RX1 yX1_numberAt cX1_numberAt 3 (some .int) wsX1_numberAt 1 := ⟨gX3_at_X1_numberAt, ⟨_, rfl⟩, rfl, by decide, by decide, by decide +kernel⟩
theorem xt_X3_at_144 : XT wsX3_at RX3 139 144 143 XIO "no such page, or no such place on it" := ⟨by decide +kernel, by decide +kernel, by decide +kernel, by decide, xt_g143.1, xt_g143.2, by decide, rfl⟩
set_option maxHeartbeats 4000000 in
set_option maxRecDepth 100000 in
theorem c_X3_at (l : Launch) (D : va_G) (cs : ClassId × ClassId × ClassId) (hl9 : l.stackTraces = false) (L : List Nat) (f0 : Nat → va_E) (x br ba pr sz lr : Nat) (σ : Sg) (pg pl : Int) (hC : CC cs L f0 x br ba pr sz lr σ) (hI : Inv σ) (hrg : (-2147483648 ≤ pg ∧ pg < 2147483648) ∧ (-2147483648 ≤ pl ∧ pl < 2147483648)) : C1 l yX3_at wsX3_at ({ frames := 6, cells := 1, slots := 6, locals := 90 } : Room) D cs [.ref x, .int (iI pg), .int (iI pl)] L f0 (fun v L1 f1 => CPi cs L f0 x br ba pr sz lr (oAt pg pl σ) v L1 f1) (fun E => PXO (oAt pg pl σ) E) := by
  refine C1.of (cc := cX3_at) (maxL := 3) (ret := (some .int)) (by decide) rfl (Nat.le_of_ble_eq_true rfl) ?_
  intro p e s m below meth c X hr hlk hout hV A hA hZ w ls hl
  have hl : lv_has ls 3 [(0, .ref x), (1, .int (iI pg)), (2, .int (iI pl))] := hl
  have hn := hI.n; have hk := hI.k; have ht := hI.t; have hsw := hI.s; have hz4 := hI.z4
  have hF : FC L f0 f0 x br ba pr sz lr := FC.rf _ _ _ _ _ _ _ _
  refine x_al_n X hl 0 rfl rfl dX3_at_0 ?_
  refine x_get X w hC.mx hC.fx fq_X3_at_19 rfl dX3_at_1 ?_
  refine x_il_n X hl 1 rfl rfl dX3_at_4 ?_
  refine x_callV (As := [.int (iI pg)]) (rest := []) (c1 := 0) (s1 := 0) X w hA (c_X2_has l D cs L f0 pr sz (gK σ) (gZ σ) pg hC.pp (by omega)) k_X3_at_X2_has (by decide) hC.pp.mp hC.pp.fp rfl rfl rfl hl rfl (Nat.le_of_ble_eq_true rfl) (by decide) rfl rfl dX3_at_5 (fun v L1 f1 H locs w hp => ?_)
  obtain ⟨rfl, rfl, hp⟩ := hp
  rcases hp with ⟨rfl, hq5⟩ | ⟨rfl, hq5⟩
  · show W p l e _ s m _ below meth c _ _ _ _ _ (F0 m 8 ls [.int (iI 1)])
    refine x_ifF_eq (tgt := 29) X (by decide) (by decide) (by decide) dX3_at_8 ?_
    refine x_il_n X hl 2 rfl rfl dX3_at_11 ?_
    refine x_iconst X dX3_at_12 ?_
    refine x_al_n X hl 0 rfl rfl dX3_at_13 ?_
    refine x_get X w hC.mx hC.fx fq_X3_at_19 rfl dX3_at_14 ?_
    refine x_il_n X hl 1 rfl rfl dX3_at_17 ?_
    refine x_callV (As := [.int (iI pg)]) (rest := [.int (iI 0), .int (iI pl)]) (c1 := 0) (s1 := 0) X w hA (c_X2_sizeOf l D cs L f0 pr sz (gK σ) (gZ σ) pg hC.pp (by omega)) k_X3_at_X2_sizeOf (by decide) hC.pp.mp hC.pp.fp rfl rfl rfl hl rfl (Nat.le_of_ble_eq_true rfl) (by decide) rfl rfl dX3_at_18 (fun v L1 f1 H locs w hp => ?_)
    obtain ⟨rfl, rfl, hp⟩ := hp
    rcases hp with ⟨rfl, hq18⟩ | ⟨rfl, hq18⟩
    · show W p l e _ s m _ below meth c _ _ _ _ _ (F0 m 21 ls [.int (iI ((gZ σ) pg)), .int (iI 0), .int (iI pl)])
      have hzz := hz4 pg (by omega) (by omega)
      refine x_iconst X dX3_at_21 ?_
      refine x_isub X dX3_at_22 ?_
      refine x_callS (As := [.int (iI pl), .int (iI 0), .int (iI (((gZ σ) pg) - 1))]) (rest := []) (c1 := 0) (s1 := 0) X w hA (c_X3_isIn l D cs L f0 pl 0 (((gZ σ) pg) - 1) (by omega)) k_X3_at_X3_isIn (by decide) rfl hl rfl (Nat.le_of_ble_eq_true rfl) (by decide) rfl rfl dX3_at_23 (fun v L1 f1 H locs w hp => ?_)
      obtain ⟨rfl, rfl, hp⟩ := hp
      rcases hp with ⟨rfl, hq23⟩ | ⟨rfl, hq23⟩
      · show W p l e _ s m _ below meth c _ _ _ _ _ (F0 m 26 ls [.int (iI 1)])
        refine x_ifT_ne (tgt := 39) X (by decide) (by decide) (by decide) dX3_at_26 ?_
        refine x_al_n X hl 0 rfl rfl dX3_at_39 ?_
        refine x_get X w hC.mx hC.fx fq_X3_at_10 rfl dX3_at_40 ?_
        refine x_al_n X hl 0 rfl rfl dX3_at_43 ?_
        refine x_get X w hC.mx hC.fx fq_X3_at_19 rfl dX3_at_44 ?_
        refine x_il_n X hl 1 rfl rfl dX3_at_47 ?_
        refine x_callV (As := [.int (iI pg)]) (rest := [.ref br]) (c1 := 0) (s1 := 0) X w hA (c_X2_beginOf l D cs L f0 pr sz (gK σ) (gZ σ) pg hC.pp (by omega)) k_X3_at_X2_beginOf (by decide) hC.pp.mp hC.pp.fp rfl rfl rfl hl rfl (Nat.le_of_ble_eq_true rfl) (by decide) rfl rfl dX3_at_48 (fun v L1 f1 H locs w hp => ?_)
        obtain ⟨rfl, rfl, hp⟩ := hp
        subst hp
        show W p l e _ s m _ below meth c _ _ _ _ _ (F0 m 51 ls [.int (iI (sm (gZ σ) pg)), .ref br])
        have h1s := sm_b hz4 (p := pg) (by omega)
        have h2s := sm_s (gZ σ) (p := pg) (by omega)
        have h3s := sm_mo hI.z0 (a := pg + 1) (b := gK σ) (by omega)
        rw [hI.sm] at h3s
        refine x_il_n X hl 2 rfl rfl dX3_at_51 ?_
        refine x_iadd X dX3_at_52 ?_
        obtain ⟨r53, hRB, hO⟩ := hC.rb
        refine x_callV (As := [.int (iI ((sm (gZ σ) pg) + pl))]) (rest := []) (c1 := 0) (s1 := 0) X w hA (c_X1_numberAt l D cs L f0 br ba (gN σ) r53 (gR σ) ((sm (gZ σ) pg) + pl) hRB hO (by omega)) k_X3_at_X1_numberAt (by decide) hC.mb hC.fb rfl rfl rfl hl rfl (Nat.le_of_ble_eq_true rfl) (by decide) rfl rfl dX3_at_53 (fun v L1 f1 H locs w hp => ?_)
        obtain ⟨rfl, rfl, hp⟩ := hp
        rcases hp with ⟨rfl, hq53⟩ | ⟨rfl, hq53⟩
        · show W p l e _ s m _ below meth c _ _ _ _ _ (F0 m 56 ls [.int (iI ((gR σ) ((sm (gZ σ) pg) + pl) 0))])
          refine vx_ret ?_
          refine x_iret X w hr hlk ⟨by decide, by decide⟩ dX3_at_56 ?_
          have ho : oAt pg pl σ = (0, gR σ (sm (gZ σ) pg + pl) 0, σ) := by unfold oAt; rw [if_pos (by omega)]
          rw [ho]
          exact ⟨rfl, rfl, hC, fun _ h => h, hF⟩
        · exfalso; omega
      · show W p l e _ s m _ below meth c _ _ _ _ _ (F0 m 26 ls [.int (iI 0)])
        refine x_ifF_ne (tgt := 39) X (by decide) (by decide) (by decide) dX3_at_26 ?_
        refine x_throw X w hl9 hV hZ hlk hout hl xt_X3_at_144 dX3_at_29 dX3_at_32 dX3_at_33 dX3_at_35 dX3_at_38 ⟨by decide, (Nat.le_of_ble_eq_true rfl), by decide, by decide⟩ ⟨by decide, by decide⟩ ?_
        exact ⟨by unfold oAt; rw [if_neg (by omega)], rfl⟩
    · exfalso; omega
  · show W p l e _ s m _ below meth c _ _ _ _ _ (F0 m 8 ls [.int (iI 0)])
    refine x_ifT_eq (tgt := 29) X (by decide) (by decide) (by decide) dX3_at_8 ?_
    refine x_throw X w hl9 hV hZ hlk hout hl xt_X3_at_144 dX3_at_29 dX3_at_32 dX3_at_33 dX3_at_35 dX3_at_38 ⟨by decide, (Nat.le_of_ble_eq_true rfl), by decide, by decide⟩ ⟨by decide, by decide⟩ ?_
    exact ⟨by unfold oAt; rw [if_neg (by omega)], rfl⟩

theorem k_X3_pageOf_X3_requireCase : XS wsX3_pageOf RX3 31 yX3_requireCase cX3_requireCase 1 none wsX3_requireCase 1 := ⟨gX3_pageOf_X3_requireCase, ⟨_, rfl⟩, by decide, by decide, by decide +kernel⟩
theorem iw_X3_pageOf_X3 : ∀ w ∈ wsX30, w ∈ wsX3_pageOf := by decide +kernel
theorem fq_X3_pageOf_19 : XF wsX3_pageOf RX3 19 3 1 := ⟨RX3, TX3, 7, iw_X3_pageOf_X3, rfl, by decide, by decide +kernel⟩
theorem fq_X3_pageOf_10 : XF wsX3_pageOf RX3 10 3 0 := ⟨RX3, TX3, 7, iw_X3_pageOf_X3, rfl, by decide, by decide +kernel⟩
theorem k_X3_pageOf_X1_placeOf : XV wsX3_pageOf RX3 100 RX1 yX1_placeOf cX1_placeOf 3 (some .int) wsX1_placeOf 1 := ⟨gX3_pageOf_X1_placeOf, ⟨_, rfl⟩, rfl, by decide, by decide, by decide +kernel⟩
theorem k_X3_pageOf_X2_pageWith : XV wsX3_pageOf RX3 152 RX2 yX2_pageWith cX2_pageWith 4 (some .int) wsX2_pageWith 1 := ⟨gX3_pageOf_X2_pageWith, ⟨_, rfl⟩, rfl, by decide, by decide, by decide +kernel⟩
set_option maxHeartbeats 4000000 in
set_option maxRecDepth 100000 in
theorem c_X3_pageOf (l : Launch) (D : va_G) (cs : ClassId × ClassId × ClassId) (hl9 : l.stackTraces = false) (L : List Nat) (f0 : Nat → va_E) (x br ba pr sz lr : Nat) (σ : Sg) (nu : Int) (hC : CC cs L f0 x br ba pr sz lr σ) (hI : Inv σ) (hrg : (-2147483648 ≤ nu ∧ nu < 2147483648)) : C1 l yX3_pageOf wsX3_pageOf ({ frames := 7, cells := 1, slots := 6, locals := 110 } : Room) D cs [.ref x, .int (iI nu)] L f0 (fun v L1 f1 => CPi cs L f0 x br ba pr sz lr (oPgO nu σ) v L1 f1) (fun E => PXA (oPgO nu σ) E) := by
  refine C1.of (cc := cX3_pageOf) (maxL := 2) (ret := (some .int)) (by decide) rfl (Nat.le_of_ble_eq_true rfl) ?_
  intro p e s m below meth c X hr hlk hout hV A hA hZ w ls hl
  have hl : lv_has ls 2 [(0, .ref x), (1, .int (iI nu))] := hl
  have hn := hI.n; have hk := hI.k; have ht := hI.t; have hsw := hI.s; have hz4 := hI.z4
  have hF : FC L f0 f0 x br ba pr sz lr := FC.rf _ _ _ _ _ _ _ _
  refine x_il_n X hl 1 rfl rfl dX3_pageOf_0 ?_
  refine x_callS1 (As := [.int (iI nu)]) (rest := []) (c1 := 1) (s1 := 6) X w hA hV hZ (c_X3_requireCase l D cs hl9 L f0 nu (by omega)) k_X3_pageOf_X3_requireCase (by decide) rfl hl rfl (Nat.le_of_ble_eq_true rfl) (by decide) rfl rfl dX3_pageOf_1 (fun E ce a9 H locs w hpx hce hcv hcl => ?_) (fun v L1 f1 H locs w hp => ?_)
  · exact x_out X w hlk hout hce hcv hcl ⟨by decide, by decide⟩ (Or.inl ⟨by unfold oPgO; rw [if_neg (by have h9 := hpx.1; omega)], hpx.2⟩)
  · obtain ⟨rfl, rfl, rfl, hrc⟩ := hp
    show W p l e _ s m _ below meth c _ _ _ _ _ (F0 m 4 ls [])
    refine x_al_n X hl 0 rfl rfl dX3_pageOf_4 ?_
    refine x_get X w hC.mx hC.fx fq_X3_pageOf_19 rfl dX3_pageOf_5 ?_
    refine x_al_n X hl 0 rfl rfl dX3_pageOf_8 ?_
    refine x_get X w hC.mx hC.fx fq_X3_pageOf_10 rfl dX3_pageOf_9 ?_
    refine x_il_n X hl 1 rfl rfl dX3_pageOf_12 ?_
    obtain ⟨r13, hRB, hO⟩ := hC.rb
    refine x_callV (As := [.int (iI nu)]) (rest := [.ref pr]) (c1 := 1) (s1 := 6) X w hA (c_X1_placeOf l D cs L f0 br ba (gN σ) r13 (gR σ) nu hRB hO (by omega) hI.r0 hI.so) k_X3_pageOf_X1_placeOf (by decide) hC.mb hC.fb rfl rfl rfl hl rfl (Nat.le_of_ble_eq_true rfl) (by decide) rfl rfl dX3_pageOf_13 (fun v L1 f1 H locs w hp => ?_)
    obtain ⟨rfl, rfl, hp⟩ := hp
    subst hp
    show W p l e _ s m _ below meth c _ _ _ _ _ (F0 m 16 ls [.int (iI (fd (gR σ) (gN σ) nu)), .ref pr])
    have hfr := fd_rg (R := gR σ) (n := gN σ) (v := nu) (by omega)
    refine x_callV (As := [.int (iI (fd (gR σ) (gN σ) nu))]) (rest := []) (c1 := 1) (s1 := 6) X w hA (c_X2_pageWith l D cs L f0 pr sz (gK σ) (gZ σ) (fd (gR σ) (gN σ) nu) hC.pp (by omega) hz4) k_X3_pageOf_X2_pageWith (by decide) hC.pp.mp hC.pp.fp rfl rfl rfl hl rfl (Nat.le_of_ble_eq_true rfl) (by decide) rfl rfl dX3_pageOf_16 (fun v L1 f1 H locs w hp => ?_)
    obtain ⟨rfl, rfl, hp⟩ := hp
    subst hp
    show W p l e _ s m _ below meth c _ _ _ _ _ (F0 m 19 ls [.int (iI (pw (gZ σ) (gK σ) (fd (gR σ) (gN σ) nu)))])
    refine vx_ret ?_
    refine x_iret X w hr hlk ⟨by decide, by decide⟩ dX3_pageOf_19 ?_
    have ho : oPgO nu σ = (0, pw (gZ σ) (gK σ) (qF nu σ), σ) := by unfold oPgO; rw [if_pos (by omega)]
    rw [ho]
    exact ⟨rfl, rfl, hC, fun _ h => h, hF⟩

theorem iw_X3_sweep_X3 : ∀ w ∈ wsX30, w ∈ wsX3_sweep := by decide +kernel
theorem fq_X3_sweep_27 : XF wsX3_sweep RX3 27 3 6 := ⟨RX3, TX3, 7, iw_X3_sweep_X3, rfl, by decide, by decide +kernel⟩
theorem fp_X3_sweep_27 : XGn wsX3_sweep RX3 27 3 6 (tyX3 6) := ⟨RX3, TX3, 7, tyX3, iw_X3_sweep_X3, rfl, by decide, by decide +kernel, tyX3_ok, nmX3, rfl, by decide +kernel⟩
theorem xt_X3_sweep_155 : XT wsX3_sweep RX3 54 155 58 XIS "a sweep goes on" := ⟨by decide +kernel, by decide +kernel, by decide +kernel, by decide, xt_g58.1, xt_g58.2, by decide, rfl⟩
set_option maxHeartbeats 4000000 in
set_option maxRecDepth 100000 in
theorem c_X3_sweep (l : Launch) (D : va_G) (cs : ClassId × ClassId × ClassId) (hl9 : l.stackTraces = false) (L : List Nat) (f0 : Nat → va_E) (x br ba pr sz lr : Nat) (σ : Sg) (hC : CC cs L f0 x br ba pr sz lr σ) (hI : Inv σ) : C1 l yX3_sweep wsX3_sweep ({ frames := 6, cells := 1, slots := 6, locals := 90 } : Room) D cs [.ref x] L f0 (fun v L1 f1 => CPv cs L f0 x br ba pr sz lr (oSwe σ) v L1 f1) (fun E => PXS (oSwe σ) E) := by
  refine C1.of (cc := cX3_sweep) (maxL := 1) (ret := none) (by decide) rfl (Nat.le_of_ble_eq_true rfl) ?_
  intro p e s m below meth c X hr hlk hout hV A hA hZ w ls hl
  have hl : lv_has ls 1 [(0, .ref x)] := hl
  have hn := hI.n; have hk := hI.k; have ht := hI.t; have hsw := hI.s; have hz4 := hI.z4
  have hF : FC L f0 f0 x br ba pr sz lr := FC.rf _ _ _ _ _ _ _ _
  refine x_al_n X hl 0 rfl rfl dX3_sweep_0 ?_
  refine x_get X w hC.mx hC.fx fq_X3_sweep_27 rfl dX3_sweep_1 ?_
  refine x_iconst X dX3_sweep_4 ?_
  refine x_icmp_eq (tgt := 18) X (by omega) (by decide) dX3_sweep_5 (fun hb5 => ?_) (fun hb5 => ?_)
  · refine x_al_n X hl 0 rfl rfl dX3_sweep_18 ?_
    refine x_iconst X dX3_sweep_19 ?_
    refine x_put X w hC.mx hC.fx fp_X3_sweep_27 rfl rfl (Nat.le_of_ble_eq_true rfl) rfl dX3_sweep_20 (fun H locs w => ?_)
    obtain ⟨f23, w, hC, hF⟩ : ∃ f9, XW D A s.heap L f9 H locs ∧ CX cs L f9 x br ba pr sz lr (gN σ) (gR σ) (gK σ) (gZ σ) (gT σ) (gP σ) (gB σ) 0 (gW σ) ∧ FC L f0 f9 x br ba pr sz lr := ⟨_, w, hC.fld _ _ _ _, hF.xx⟩
    refine vx_ret ?_
    refine x_vret X w hr hlk ⟨by decide, by decide⟩ dX3_sweep_23 ?_
    have ho : oSwe σ = (0, 0, oSetS 0 σ) := by unfold oSwe; rw [if_pos (by omega)]
    rw [ho]
    exact ⟨rfl, rfl, hC, fun _ h => h, hF⟩
  · refine x_throw X w hl9 hV hZ hlk hout hl xt_X3_sweep_155 dX3_sweep_8 dX3_sweep_11 dX3_sweep_12 dX3_sweep_14 dX3_sweep_17 ⟨by decide, (Nat.le_of_ble_eq_true rfl), by decide, by decide⟩ ⟨by decide, by decide⟩ ?_
    exact ⟨by unfold oSwe; rw [if_neg (by omega)], rfl⟩

theorem k_X3_walk_X3_isIn : XS wsX3_walk RX3 35 yX3_isIn cX3_isIn 3 (some .boolean) wsX3_isIn 3 := ⟨gX3_walk_X3_isIn, ⟨_, rfl⟩, by decide, by decide, by decide +kernel⟩
theorem iw_X3_walk_X3 : ∀ w ∈ wsX30, w ∈ wsX3_walk := by decide +kernel
theorem fq_X3_walk_23 : XF wsX3_walk RX3 23 3 2 := ⟨RX3, TX3, 7, iw_X3_walk_X3, rfl, by decide, by decide +kernel⟩
theorem fq_X3_walk_10 : XF wsX3_walk RX3 10 3 0 := ⟨RX3, TX3, 7, iw_X3_walk_X3, rfl, by decide, by decide +kernel⟩
theorem k_X3_walk_X1_countUpTo : XV wsX3_walk RX3 59 RX1 yX1_countUpTo cX1_countUpTo 3 (some .int) wsX1_countUpTo 1 := ⟨gX3_walk_X1_countUpTo, ⟨_, rfl⟩, rfl, by decide, by decide, by decide +kernel⟩
theorem k_X3_walk_X1_numberAt : XV wsX3_walk RX3 149 RX1 yX1_numberAt cX1_numberAt 3 (some .int) wsX1_numberAt 1 := ⟨gX3_walk_X1_numberAt, ⟨_, rfl⟩, rfl, by decide, by decide, by decide +kernel⟩
theorem xt_X3_walk_164 : XT wsX3_walk RX3 39 164 43 XIA "reader out of range" := ⟨by decide +kernel, by decide +kernel, by decide +kernel, by decide, xt_g43.1, xt_g43.2, by decide, rfl⟩
set_option maxHeartbeats 4000000 in
set_option maxRecDepth 100000 in
theorem c_X3_walk (l : Launch) (D : va_G) (cs : ClassId × ClassId × ClassId) (hl9 : l.stackTraces = false) (L : List Nat) (f0 : Nat → va_E) (x br ba pr sz lr : Nat) (σ : Sg) (rd : Int) (hC : CC cs L f0 x br ba pr sz lr σ) (hI : Inv σ) (hrg : (-2147483648 ≤ rd ∧ rd < 2147483648)) : C1 l yX3_walk wsX3_walk ({ frames := 6, cells := 1, slots := 6, locals := 90 } : Room) D cs [.ref x, .int (iI rd)] L f0 (fun v L1 f1 => CPi cs L f0 x br ba pr sz lr (oWal rd σ) v L1 f1) (fun E => PXA (oWal rd σ) E) := by
  refine C1.of (cc := cX3_walk) (maxL := 2) (ret := (some .int)) (by decide) rfl (Nat.le_of_ble_eq_true rfl) ?_
  intro p e s m below meth c X hr hlk hout hV A hA hZ w ls hl
  have hl : lv_has ls 2 [(0, .ref x), (1, .int (iI rd))] := hl
  have hn := hI.n; have hk := hI.k; have ht := hI.t; have hsw := hI.s; have hz4 := hI.z4
  have hF : FC L f0 f0 x br ba pr sz lr := FC.rf _ _ _ _ _ _ _ _
  refine x_il_n X hl 1 rfl rfl dX3_walk_0 ?_
  refine x_iconst X dX3_walk_1 ?_
  refine x_iconst X dX3_walk_2 ?_
  refine x_callS (As := [.int (iI rd), .int (iI 0), .int (iI 3)]) (rest := []) (c1 := 0) (s1 := 0) X w hA (c_X3_isIn l D cs L f0 rd 0 3 (by omega)) k_X3_walk_X3_isIn (by decide) rfl hl rfl (Nat.le_of_ble_eq_true rfl) (by decide) rfl rfl dX3_walk_3 (fun v L1 f1 H locs w hp => ?_)
  obtain ⟨rfl, rfl, hp⟩ := hp
  rcases hp with ⟨rfl, hq3⟩ | ⟨rfl, hq3⟩
  · show W p l e _ s m _ below meth c _ _ _ _ _ (F0 m 6 ls [.int (iI 1)])
    refine x_ifT_ne (tgt := 19) X (by decide) (by decide) (by decide) dX3_walk_6 ?_
    obtain ⟨ww, hfl, hwl⟩ := hC.fl
    have hww := hI.w rd (by omega) (by omega)
    refine x_al_n X hl 0 rfl rfl dX3_walk_19 ?_
    refine x_get X w hC.mx hC.fx fq_X3_walk_23 rfl dX3_walk_20 ?_
    refine x_il_n X hl 1 rfl rfl dX3_walk_23 ?_
    refine x_al_n X hl 0 rfl rfl dX3_walk_24 ?_
    refine x_get X w hC.mx hC.fx fq_X3_walk_10 rfl dX3_walk_25 ?_
    refine x_al_n X hl 0 rfl rfl dX3_walk_28 ?_
    refine x_get X w hC.mx hC.fx fq_X3_walk_10 rfl dX3_walk_29 ?_
    refine x_al_n X hl 0 rfl rfl dX3_walk_32 ?_
    refine x_get X w hC.mx hC.fx fq_X3_walk_23 rfl dX3_walk_33 ?_
    refine x_il_n X hl 1 rfl rfl dX3_walk_36 ?_
    refine x_ialdv (v := gW σ rd) X w hC.ml hfl (by omega) (hwl rd (by omega) (by omega)) dX3_walk_37 ?_
    obtain ⟨r38, hRB, hO⟩ := hC.rb
    refine x_callV (As := [.int (iI (gW σ rd))]) (rest := [.ref br, .int (iI rd), .ref lr]) (c1 := 0) (s1 := 0) X w hA (c_X1_countUpTo l D cs L f0 br ba (gN σ) r38 (gR σ) (gW σ rd) hRB hO (by omega) hI.r0) k_X3_walk_X1_countUpTo (by decide) hC.mb hC.fb rfl rfl rfl hl rfl (Nat.le_of_ble_eq_true rfl) (by decide) rfl rfl dX3_walk_38 (fun v L1 f1 H locs w hp => ?_)
    obtain ⟨rfl, rfl, hp⟩ := hp
    subst hp
    show W p l e _ s m _ below meth c _ _ _ _ _ (F0 m 41 ls [.int (iI (cu (gR σ) (gN σ) (gW σ rd))), .ref br, .int (iI rd), .ref lr])
    have hcu := cu_is (gR σ) (n := gN σ) (gW σ rd) hn.1
    have hcu1 := hcu.1
    have hcu2 := hcu.2.1
    obtain ⟨r41, hRB, hO⟩ := hC.rb
    refine x_callV (As := [.int (iI (cu (gR σ) (gN σ) (gW σ rd)))]) (rest := [.int (iI rd), .ref lr]) (c1 := 0) (s1 := 0) X w hA (c_X1_numberAt l D cs L f0 br ba (gN σ) r41 (gR σ) (cu (gR σ) (gN σ) (gW σ rd)) hRB hO (by omega)) k_X3_walk_X1_numberAt (by decide) hC.mb hC.fb rfl rfl rfl hl rfl (Nat.le_of_ble_eq_true rfl) (by decide) rfl rfl dX3_walk_41 (fun v L1 f1 H locs w hp => ?_)
    obtain ⟨rfl, rfl, hp⟩ := hp
    rcases hp with ⟨rfl, hq41⟩ | ⟨rfl, hq41⟩
    · show W p l e _ s m _ below meth c _ _ _ _ _ (F0 m 44 ls [.int (iI ((gR σ) (cu (gR σ) (gN σ) (gW σ rd)) 0)), .int (iI rd), .ref lr])
      refine x_iast X w hC.ml hfl (by omega) dX3_walk_44 (fun H locs w => ?_)
      obtain ⟨f45, w, hC, hF⟩ : ∃ f9, XW D A s.heap L f9 H locs ∧ CX cs L f9 x br ba pr sz lr (gN σ) (gR σ) (gK σ) (gZ σ) (gT σ) (gP σ) (gB σ) (gS σ) (uI (gW σ) rd ((gR σ) (cu (gR σ) (gN σ) (gW σ rd)) 0)) ∧ FC L f0 f9 x br ba pr sz lr := ⟨_, w, hC.rd hfl hwl, hF.l⟩
      obtain ⟨ww, hfl, hwl⟩ := hC.fl
      refine x_al_n X hl 0 rfl rfl dX3_walk_45 ?_
      refine x_get X w hC.mx hC.fx fq_X3_walk_23 rfl dX3_walk_46 ?_
      refine x_il_n X hl 1 rfl rfl dX3_walk_49 ?_
      refine x_ialdv (v := (gR σ) (cu (gR σ) (gN σ) (gW σ rd)) 0) X w hC.ml hfl (by omega) ((hwl rd (by omega) (by omega)).trans (uI_s _ _ _)) dX3_walk_50 ?_
      refine vx_ret ?_
      refine x_iret X w hr hlk ⟨by decide, by decide⟩ dX3_walk_51 ?_
      have he9 : wkV rd σ = (gR σ) (cu (gR σ) (gN σ) (gW σ rd)) 0 := if_pos (by omega)
      have ho : oWal rd σ = (0, (gR σ) (cu (gR σ) (gN σ) (gW σ rd)) 0, oSetW (uI (gW σ) rd ((gR σ) (cu (gR σ) (gN σ) (gW σ rd)) 0)) σ) := by unfold oWal; rw [if_pos (by omega), he9]
      rw [ho]
      exact ⟨rfl, rfl, hC, fun _ h => h, hF⟩
    · show W p l e _ s m _ below meth c _ _ _ _ _ (F0 m 44 ls [.int (iI (-1)), .int (iI rd), .ref lr])
      refine x_iast X w hC.ml hfl (by omega) dX3_walk_44 (fun H locs w => ?_)
      obtain ⟨f45, w, hC, hF⟩ : ∃ f9, XW D A s.heap L f9 H locs ∧ CX cs L f9 x br ba pr sz lr (gN σ) (gR σ) (gK σ) (gZ σ) (gT σ) (gP σ) (gB σ) (gS σ) (uI (gW σ) rd (-1)) ∧ FC L f0 f9 x br ba pr sz lr := ⟨_, w, hC.rd hfl hwl, hF.l⟩
      obtain ⟨ww, hfl, hwl⟩ := hC.fl
      refine x_al_n X hl 0 rfl rfl dX3_walk_45 ?_
      refine x_get X w hC.mx hC.fx fq_X3_walk_23 rfl dX3_walk_46 ?_
      refine x_il_n X hl 1 rfl rfl dX3_walk_49 ?_
      refine x_ialdv (v := -1) X w hC.ml hfl (by omega) ((hwl rd (by omega) (by omega)).trans (uI_s _ _ _)) dX3_walk_50 ?_
      refine vx_ret ?_
      refine x_iret X w hr hlk ⟨by decide, by decide⟩ dX3_walk_51 ?_
      have he9 : wkV rd σ = -1 := if_neg (by omega)
      have ho : oWal rd σ = (0, -1, oSetW (uI (gW σ) rd (-1)) σ) := by unfold oWal; rw [if_pos (by omega), he9]
      rw [ho]
      exact ⟨rfl, rfl, hC, fun _ h => h, hF⟩
  · show W p l e _ s m _ below meth c _ _ _ _ _ (F0 m 6 ls [.int (iI 0)])
    refine x_ifF_ne (tgt := 19) X (by decide) (by decide) (by decide) dX3_walk_6 ?_
    refine x_throw X w hl9 hV hZ hlk hout hl xt_X3_walk_164 dX3_walk_9 dX3_walk_12 dX3_walk_13 dX3_walk_15 dX3_walk_18 ⟨by decide, (Nat.le_of_ble_eq_true rfl), by decide, by decide⟩ ⟨by decide, by decide⟩ ?_
    exact Or.inl ⟨by unfold oWal; rw [if_neg (by omega)], rfl⟩

theorem k_X3_put_X3_requireCase : XS wsX3_put RX3 31 yX3_requireCase cX3_requireCase 1 none wsX3_requireCase 1 := ⟨gX3_put_X3_requireCase, ⟨_, rfl⟩, by decide, by decide, by decide +kernel⟩
theorem k_X3_put_X3_isIn : XS wsX3_put RX3 35 yX3_isIn cX3_isIn 3 (some .boolean) wsX3_isIn 3 := ⟨gX3_put_X3_isIn, ⟨_, rfl⟩, by decide, by decide, by decide +kernel⟩
theorem iw_X3_put_X3 : ∀ w ∈ wsX30, w ∈ wsX3_put := by decide +kernel
theorem fq_X3_put_10 : XF wsX3_put RX3 10 3 0 := ⟨RX3, TX3, 7, iw_X3_put_X3, rfl, by decide, by decide +kernel⟩
theorem k_X3_put_X1_find : XV wsX3_put RX3 46 RX1 yX1_find cX1_find 2 (some (.object "PageBail$Bail")) wsX1_find 1 := ⟨gX3_put_X1_find, ⟨_, rfl⟩, rfl, by decide, by decide, by decide +kernel⟩
theorem xt_X3_put_56 : XT wsX3_put RX3 54 56 58 XIS "the case has a record, or the register is full" := ⟨by decide +kernel, by decide +kernel, by decide +kernel, by decide, xt_g58.1, xt_g58.2, by decide, rfl⟩
theorem k_X3_put_X1_count : XV wsX3_put RX3 50 RX1 yX1_count cX1_count 1 (some .int) wsX1_count 0 := ⟨gX3_put_X1_count, ⟨_, rfl⟩, rfl, by decide, by decide, by decide +kernel⟩
theorem k_X3_put_X1_countUpTo : XV wsX3_put RX3 59 RX1 yX1_countUpTo cX1_countUpTo 3 (some .int) wsX1_countUpTo 1 := ⟨gX3_put_X1_countUpTo, ⟨_, rfl⟩, rfl, by decide, by decide, by decide +kernel⟩
theorem fq_X3_put_19 : XF wsX3_put RX3 19 3 1 := ⟨RX3, TX3, 7, iw_X3_put_X3, rfl, by decide, by decide +kernel⟩
theorem k_X3_put_X3_pageToPutOn : XV wsX3_put RX3 63 RX3 yX3_pageToPutOn cX3_pageToPutOn 2 (some .int) wsX3_pageToPutOn 1 := ⟨gX3_put_X3_pageToPutOn, ⟨_, rfl⟩, rfl, by decide, by decide, by decide +kernel⟩
theorem k_X3_put_X2_sizeOf : XV wsX3_put RX3 66 RX2 yX2_sizeOf cX2_sizeOf 2 (some .int) wsX2_sizeOf 1 := ⟨gX3_put_X2_sizeOf, ⟨_, rfl⟩, rfl, by decide, by decide, by decide +kernel⟩
theorem k_X3_put_X2_addTo : XV wsX3_put RX3 72 RX2 yX2_addTo cX2_addTo 2 none wsX2_addTo 1 := ⟨gX3_put_X2_addTo, ⟨_, rfl⟩, rfl, by decide, by decide, by decide +kernel⟩
theorem iw_X3_put_X0 : ∀ w ∈ wsX00, w ∈ wsX3_put := by decide +kernel
theorem fq_X3_put_77 : XF wsX3_put RX3 77 3 3 := ⟨RX3, TX3, 7, iw_X3_put_X3, rfl, by decide, by decide +kernel⟩
theorem k_X3_put_X0_init : XI wsX3_put RX3 80 yX0_init cX0_init 5 wsX0_init 4 := ⟨gX3_put_X0_init, ⟨_, rfl⟩, ⟨by decide +kernel, by decide +kernel, by decide +kernel⟩, rfl, by decide, by decide, by decide +kernel⟩
theorem k_X3_put_X1_insert : XV wsX3_put RX3 83 RX1 yX1_insert cX1_insert 4 none wsX1_insert 2 := ⟨gX3_put_X1_insert, ⟨_, rfl⟩, rfl, by decide, by decide, by decide +kernel⟩
theorem k_X3_put_X2_count : XV wsX3_put RX3 87 RX2 yX2_count cX2_count 1 (some .int) wsX2_count 0 := ⟨gX3_put_X2_count, ⟨_, rfl⟩, rfl, by decide, by decide, by decide +kernel⟩
theorem k_X3_put_X2_split : XV wsX3_put RX3 69 RX2 yX2_split cX2_split 3 none wsX2_split 1 := ⟨gX3_put_X2_split, ⟨_, rfl⟩, rfl, by decide, by decide, by decide +kernel⟩
theorem xt_X3_put_41 : XT wsX3_put RX3 39 41 43 XIA "sum or surety out of range" := ⟨by decide +kernel, by decide +kernel, by decide +kernel, by decide, xt_g43.1, xt_g43.2, by decide, rfl⟩
set_option maxHeartbeats 4000000 in
set_option maxRecDepth 100000 in
theorem c_X3_put (l : Launch) (D : va_G) (cs : ClassId × ClassId × ClassId) (hl9 : l.stackTraces = false) (L : List Nat) (f0 : Nat → va_E) (x br ba pr sz lr : Nat) (σ : Sg) (nu su sy : Int) (hC : CC cs L f0 x br ba pr sz lr σ) (hI : Inv σ) (hrg : (-2147483648 ≤ nu ∧ nu < 2147483648) ∧ (-2147483648 ≤ su ∧ su < 2147483648) ∧ (-2147483648 ≤ sy ∧ sy < 2147483648)) : C1 l yX3_put wsX3_put ({ frames := 7, cells := 2, slots := 12, locals := 120 } : Room) D cs [.ref x, .int (iI nu), .int (iI su), .int (iI sy)] L f0 (fun v L1 f1 => CPi cs L f0 x br ba pr sz lr (oPut nu su sy σ) v L1 f1) (fun E => PXA (oPut nu su sy σ) E) := by
  refine C1.of (cc := cX3_put) (maxL := 5) (ret := (some .int)) (by decide) rfl (Nat.le_of_ble_eq_true rfl) ?_
  intro p e s m below meth c X hr hlk hout hV A hA hZ w ls hl
  have hl : lv_has ls 5 [(0, .ref x), (1, .int (iI nu)), (2, .int (iI su)), (3, .int (iI sy))] := hl
  have hn := hI.n; have hk := hI.k; have ht := hI.t; have hsw := hI.s; have hz4 := hI.z4
  have hF : FC L f0 f0 x br ba pr sz lr := FC.rf _ _ _ _ _ _ _ _
  refine x_il_n X hl 1 rfl rfl dX3_put_0 ?_
  refine x_callS1 (As := [.int (iI nu)]) (rest := []) (c1 := 1) (s1 := 6) X w hA hV hZ (c_X3_requireCase l D cs hl9 L f0 nu (by omega)) k_X3_put_X3_requireCase (by decide) rfl hl rfl (Nat.le_of_ble_eq_true rfl) (by decide) rfl rfl dX3_put_1 (fun E ce a9 H locs w hpx hce hcv hcl => ?_) (fun v L1 f1 H locs w hp => ?_)
  · exact x_out X w hlk hout hce hcv hcl ⟨by decide, by decide⟩ (Or.inl ⟨by unfold oPut; rw [if_neg (by have h9 := hpx.1; omega)], hpx.2⟩)
  · obtain ⟨rfl, rfl, rfl, hrc⟩ := hp
    show W p l e _ s m _ below meth c _ _ _ _ _ (F0 m 4 ls [])
    refine x_il_n X hl 2 rfl rfl dX3_put_4 ?_
    refine x_iconst X dX3_put_5 ?_
    refine x_sipush X (by decide) dX3_put_6 ?_
    refine x_callS (As := [.int (iI su), .int (iI 1), .int (iI 10000)]) (rest := []) (c1 := 1) (s1 := 6) X w hA (c_X3_isIn l D cs L f0 su 1 10000 (by omega)) k_X3_put_X3_isIn (by decide) rfl hl rfl (Nat.le_of_ble_eq_true rfl) (by decide) rfl rfl dX3_put_9 (fun v L1 f1 H locs w hp => ?_)
    obtain ⟨rfl, rfl, hp⟩ := hp
    rcases hp with ⟨rfl, hq9⟩ | ⟨rfl, hq9⟩
    · show W p l e _ s m _ below meth c _ _ _ _ _ (F0 m 12 ls [.int (iI 1)])
      refine x_ifF_eq (tgt := 25) X (by decide) (by decide) (by decide) dX3_put_12 ?_
      refine x_il_n X hl 3 rfl rfl dX3_put_15 ?_
      refine x_iconst X dX3_put_16 ?_
      refine x_bipush X (by decide) dX3_put_17 ?_
      refine x_callS (As := [.int (iI sy), .int (iI 0), .int (iI 9)]) (rest := []) (c1 := 1) (s1 := 6) X w hA (c_X3_isIn l D cs L f0 sy 0 9 (by omega)) k_X3_put_X3_isIn (by decide) rfl hl rfl (Nat.le_of_ble_eq_true rfl) (by decide) rfl rfl dX3_put_19 (fun v L1 f1 H locs w hp => ?_)
      obtain ⟨rfl, rfl, hp⟩ := hp
      rcases hp with ⟨rfl, hq19⟩ | ⟨rfl, hq19⟩
      · show W p l e _ s m _ below meth c _ _ _ _ _ (F0 m 22 ls [.int (iI 1)])
        refine x_ifT_ne (tgt := 35) X (by decide) (by decide) (by decide) dX3_put_22 ?_
        refine x_al_n X hl 0 rfl rfl dX3_put_35 ?_
        refine x_get X w hC.mx hC.fx fq_X3_put_10 rfl dX3_put_36 ?_
        refine x_il_n X hl 1 rfl rfl dX3_put_39 ?_
        obtain ⟨r40, hRB, hO⟩ := hC.rb
        refine x_callV (As := [.int (iI nu)]) (rest := []) (c1 := 1) (s1 := 6) X w hA (c_X1_find l D cs L f0 br ba (gN σ) r40 (gR σ) nu hRB hO (by omega) hI.r0 hI.so) k_X3_put_X1_find (by decide) hC.mb hC.fb rfl rfl rfl hl rfl (Nat.le_of_ble_eq_true rfl) (by decide) rfl rfl dX3_put_40 (fun v L1 f1 H locs w hp => ?_)
        obtain ⟨rfl, rfl, hp⟩ := hp
        rcases hp with ⟨a40, rfl, ha40, hm40, hf40, hq40⟩ | ⟨rfl, hq40⟩
        · show W p l e _ s m _ below meth c _ _ _ _ _ (F0 m 43 ls [.ref a40])
          refine x_ifnonnull_r (tgt := 58) X (by decide) dX3_put_43 ?_
          refine x_throw X w hl9 hV hZ hlk hout hl xt_X3_put_56 dX3_put_58 dX3_put_61 dX3_put_62 dX3_put_64 dX3_put_67 ⟨by decide, (Nat.le_of_ble_eq_true rfl), by decide, by decide⟩ ⟨by decide, by decide⟩ ?_
          exact Or.inr ⟨by unfold oPut; rw [if_pos (by omega), if_pos (show qF nu σ ≠ -1 ∨ 80 ≤ gN σ from Or.inl (by show fd (gR σ) (gN σ) nu ≠ -1; omega))], rfl⟩
        · show W p l e _ s m _ below meth c _ _ _ _ _ (F0 m 43 ls [.null])
          refine x_ifnonnull_n X dX3_put_43 ?_
          refine x_al_n X hl 0 rfl rfl dX3_put_46 ?_
          refine x_get X w hC.mx hC.fx fq_X3_put_10 rfl dX3_put_47 ?_
          obtain ⟨r50, hRB, hO⟩ := hC.rb
          refine x_callV (As := []) (rest := []) (c1 := 1) (s1 := 6) X w hA (c_X1_count l D cs L f0 br ba (gN σ) r50 (gR σ)  hRB hO) k_X3_put_X1_count (by decide) hC.mb hC.fb rfl rfl rfl hl rfl (Nat.le_of_ble_eq_true rfl) (by decide) rfl rfl dX3_put_50 (fun v L1 f1 H locs w hp => ?_)
          obtain ⟨rfl, rfl, hp⟩ := hp
          subst hp
          show W p l e _ s m _ below meth c _ _ _ _ _ (F0 m 53 ls [.int (iI (gN σ))])
          refine x_bipush X (by decide) dX3_put_53 ?_
          refine x_icmp_lt (tgt := 68) X (by omega) (by decide) dX3_put_55 (fun hb55 => ?_) (fun hb55 => ?_)
          · refine x_al_n X hl 0 rfl rfl dX3_put_68 ?_
            refine x_get X w hC.mx hC.fx fq_X3_put_10 rfl dX3_put_69 ?_
            refine x_il_n X hl 1 rfl rfl dX3_put_72 ?_
            obtain ⟨r73, hRB, hO⟩ := hC.rb
            refine x_callV (As := [.int (iI nu)]) (rest := []) (c1 := 1) (s1 := 6) X w hA (c_X1_countUpTo l D cs L f0 br ba (gN σ) r73 (gR σ) nu hRB hO (by omega) hI.r0) k_X3_put_X1_countUpTo (by decide) hC.mb hC.fb rfl rfl rfl hl rfl (Nat.le_of_ble_eq_true rfl) (by decide) rfl rfl dX3_put_73 (fun v L1 f1 H locs w hp => ?_)
            obtain ⟨rfl, rfl, hp⟩ := hp
            subst hp
            show W p l e _ s m _ below meth c _ _ _ _ _ (F0 m 76 ls [.int (iI (cu (gR σ) (gN σ) nu))])
            refine x_is (lv' := [(4, .int (iI (cu (gR σ) (gN σ) nu))), (0, .ref x), (1, .int (iI nu)), (2, .int (iI su)), (3, .int (iI sy))]) X hl (by decide) rfl dX3_put_76 (fun ls hl => ?_)
            have hcu := cu_is (gR σ) (n := gN σ) nu hn.1
            have hcu1 := hcu.1
            have hcu2 := hcu.2.1
            have hkn := k_le hk.1 hI.z1
            rw [hI.sm] at hkn
            have hpb := pw_b (z := gZ σ) (p := pp1 (cu (gR σ) (gN σ) nu)) hk.1
            have hpg : gK σ = 0 ∨ (0 ≤ pw (gZ σ) (gK σ) (pp1 (cu (gR σ) (gN σ) nu)) ∧ pw (gZ σ) (gK σ) (pp1 (cu (gR σ) (gN σ) nu)) < gK σ) := by
              by_cases h9 : gK σ = 0
              · exact Or.inl h9
              · exact Or.inr (hI.pgr (pp1_r ⟨hcu1, hcu2⟩ (by omega)))
            refine x_al_n X hl 1 rfl rfl dX3_put_78 ?_
            refine x_get X w hC.mx hC.fx fq_X3_put_19 rfl dX3_put_79 ?_
            refine x_al_n X hl 1 rfl rfl dX3_put_82 ?_
            refine x_il X hl 0 rfl dX3_put_83 ?_
            refine x_callV (As := [.int (iI (cu (gR σ) (gN σ) nu))]) (rest := [.ref pr]) (c1 := 1) (s1 := 6) X w hA (c_X3_pageToPutOn l D cs L f0 x br ba pr sz lr (gK σ) (gZ σ) (gT σ) (gP σ) (gB σ) (gS σ) (cu (gR σ) (gN σ) nu) hC.mx hC.fx hC.pp (by omega) hz4) k_X3_put_X3_pageToPutOn (by decide) hC.mx hC.fx rfl rfl rfl hl rfl (Nat.le_of_ble_eq_true rfl) (by decide) rfl rfl dX3_put_85 (fun v L1 f1 H locs w hp => ?_)
            obtain ⟨rfl, rfl, hp⟩ := hp
            subst hp
            show W p l e _ s m _ below meth c _ _ _ _ _ (F0 m 88 ls [.int (iI (pw (gZ σ) (gK σ) (pp1 (cu (gR σ) (gN σ) nu)))), .ref pr])
            refine x_callV (As := [.int (iI (pw (gZ σ) (gK σ) (pp1 (cu (gR σ) (gN σ) nu))))]) (rest := []) (c1 := 1) (s1 := 6) X w hA (c_X2_sizeOf l D cs L f0 pr sz (gK σ) (gZ σ) (pw (gZ σ) (gK σ) (pp1 (cu (gR σ) (gN σ) nu))) hC.pp (by omega)) k_X3_put_X2_sizeOf (by decide) hC.pp.mp hC.pp.fp rfl rfl rfl hl rfl (Nat.le_of_ble_eq_true rfl) (by decide) rfl rfl dX3_put_88 (fun v L1 f1 H locs w hp => ?_)
            obtain ⟨rfl, rfl, hp⟩ := hp
            rcases hp with ⟨rfl, hq88⟩ | ⟨rfl, hq88⟩
            · show W p l e _ s m _ below meth c _ _ _ _ _ (F0 m 91 ls [.int (iI ((gZ σ) (pw (gZ σ) (gK σ) (pp1 (cu (gR σ) (gN σ) nu)))))])
              have hzq := hz4 (pw (gZ σ) (gK σ) (pp1 (cu (gR σ) (gN σ) nu))) (by omega) (by omega)
              refine x_iconst X dX3_put_91 ?_
              refine x_icmp_lt (tgt := 108) X (by omega) (by decide) dX3_put_92 (fun hb92 => ?_) (fun hb92 => ?_)
              · have hsK : spK (gZ σ) (gK σ) (cu (gR σ) (gN σ) nu) = gK σ := if_neg (by omega)
                have hsZ : spZ (gZ σ) (gK σ) (cu (gR σ) (gN σ) nu) = gZ σ := if_neg (by omega)
                refine x_al_n X hl 1 rfl rfl dX3_put_108 ?_
                refine x_get X w hC.mx hC.fx fq_X3_put_19 rfl dX3_put_109 ?_
                refine x_al_n X hl 1 rfl rfl dX3_put_112 ?_
                refine x_il X hl 0 rfl dX3_put_113 ?_
                refine x_callV (As := [.int (iI (cu (gR σ) (gN σ) nu))]) (rest := [.ref pr]) (c1 := 1) (s1 := 6) X w hA (c_X3_pageToPutOn l D cs L f0 x br ba pr sz lr (gK σ) (gZ σ) (gT σ) (gP σ) (gB σ) (gS σ) (cu (gR σ) (gN σ) nu) hC.mx hC.fx hC.pp (by omega) hz4) k_X3_put_X3_pageToPutOn (by decide) hC.mx hC.fx rfl rfl rfl hl rfl (Nat.le_of_ble_eq_true rfl) (by decide) rfl rfl dX3_put_115 (fun v L1 f1 H locs w hp => ?_)
                obtain ⟨rfl, rfl, hp⟩ := hp
                subst hp
                show W p l e _ s m _ below meth c _ _ _ _ _ (F0 m 118 ls [.int (iI (pw (gZ σ) (gK σ) (pp1 (cu (gR σ) (gN σ) nu)))), .ref pr])
                refine x_callV (As := [.int (iI (pw (gZ σ) (gK σ) (pp1 (cu (gR σ) (gN σ) nu))))]) (rest := []) (c1 := 1) (s1 := 6) X w hA (c_X2_addTo l D cs L f0 pr sz (gK σ) (gZ σ) (pw (gZ σ) (gK σ) (pp1 (cu (gR σ) (gN σ) nu))) hC.pp (by omega)) k_X3_put_X2_addTo (by decide) hC.pp.mp hC.pp.fp rfl rfl rfl hl rfl (Nat.le_of_ble_eq_true rfl) (by decide) rfl rfl dX3_put_118 (fun v L1 f1 H locs w hp => ?_)
                obtain ⟨rfl, rfl, hfr, hPP⟩ := hp
                have hC := hC.p hPP hfr
                have hF := hF.p hfr
                show W p l e _ s m _ below meth c _ _ _ _ _ (F0 m 121 ls [])
                refine x_al_n X hl 1 rfl rfl dX3_put_121 ?_
                refine x_get X w hC.mx hC.fx fq_X3_put_10 rfl dX3_put_122 ?_
                refine x_il X hl 0 rfl dX3_put_125 ?_
                refine x_newO (C := RX0) (T := TX0) (N := 5) (ci := 0) (c1 := 2) (s1 := 11) X w hA iw_X3_put_X0 tyX0_ok ⟨by decide +kernel, by decide +kernel, by decide +kernel⟩ rfl df_X0 (by decide) rfl rfl dX3_put_127 (fun a127 H locs hn127 w => ?_)
                have hC0 := hC
                obtain ⟨f130, w, hC, hF, hfa, hfu⟩ : ∃ f9, XW D A s.heap (L ++ [a127]) f9 H locs ∧ CX cs (L ++ [a127]) f9 x br ba pr sz lr (gN σ) (gR σ) (adK (gK σ)) (if (gK σ) = 0 then uI (gZ σ) 0 1 else uI (gZ σ) (pw (gZ σ) (gK σ) (pp1 (cu (gR σ) (gN σ) nu))) ((gZ σ) (pw (gZ σ) (gK σ) (pp1 (cu (gR σ) (gN σ) nu))) + 1)) (gT σ) (gP σ) (gB σ) (gS σ) (gW σ) ∧ FC L f0 f9 x br ba pr sz lr ∧ f9 a127 = .inr (0, [.int (iI 0), .int (iI 0), .int (iI 0), .int (iI 0), .int (iI 0)]) ∧ (∀ b, b ≠ a127 → f9 b = f1 b) := ⟨_, w, hC.new hn127, hF.new hn127, va_up_self _ _ _, fun b hb => va_up_ne _ _ hb⟩
                have hma : a127 ∈ L ++ [a127] := List.mem_append_right _ List.mem_cons_self
                refine x_dup X rfl dX3_put_130 ?_
                refine x_il_n X hl 2 rfl rfl dX3_put_131 ?_
                refine x_il_n X hl 3 rfl rfl dX3_put_132 ?_
                refine x_il_n X hl 4 rfl rfl dX3_put_133 ?_
                refine x_al_n X hl 1 rfl rfl dX3_put_134 ?_
                refine x_get X w hC.mx hC.fx fq_X3_put_77 rfl dX3_put_135 ?_
                refine x_callI (As := [.int (iI nu), .int (iI su), .int (iI sy), .int (iI (gT σ))]) (rest := [.ref a127, .int (iI (cu (gR σ) (gN σ) nu)), .ref br]) (c1 := 2) (s1 := 11) X w hA (c_X0_init l D cs (L ++ [a127]) f130 a127 nu su sy (gT σ) hma hfa) k_X3_put_X0_init (by decide) rfl hl rfl (Nat.le_of_ble_eq_true rfl) (by decide) rfl rfl dX3_put_138 (fun v L1 f1 H locs w hp => ?_)
                obtain ⟨rfl, rfl, hfa, hfr⟩ := hp
                have hC := hC0.new2 hn127 (fun b hb => (hfr b hb hb).trans (hfu b hb))
                have hF := hF.new3 hn127 (fun b hb => hfr b hb hb)
                show W p l e _ s m _ below meth c _ _ _ _ _ (F0 m 141 ls [.ref a127, .int (iI (cu (gR σ) (gN σ) nu)), .ref br])
                obtain ⟨r141, hRB, hO⟩ := hC.rb
                refine x_callV (As := [.int (iI (cu (gR σ) (gN σ) nu)), .ref a127]) (rest := []) (c1 := 2) (s1 := 11) X w hA (c_X1_insert l D cs (L ++ [a127]) f1 br ba (gN σ) r141 (gR σ) (cu (gR σ) (gN σ) nu) a127 (nR nu su sy (gT σ)) hRB hO (by omega) hma hfa) k_X3_put_X1_insert (by decide) hC.mb hC.fb rfl rfl rfl hl rfl (Nat.le_of_ble_eq_true rfl) (by decide) rfl rfl dX3_put_141 (fun v L1 f1 H locs w hp => ?_)
                obtain ⟨rfl, rfl, hfr, r1, hRB, hO⟩ := hp
                have hC := hC.b hRB hO hfr
                have hF := hF.b hfr
                show W p l e _ s m _ below meth c _ _ _ _ _ (F0 m 144 ls [])
                refine x_al_n X hl 1 rfl rfl dX3_put_144 ?_
                refine x_get X w hC.mx hC.fx fq_X3_put_19 rfl dX3_put_145 ?_
                refine x_callV (As := []) (rest := []) (c1 := 2) (s1 := 11) X w hA (c_X2_count l D cs (L ++ [a127]) f1 pr sz (adK (gK σ)) (if (gK σ) = 0 then uI (gZ σ) 0 1 else uI (gZ σ) (pw (gZ σ) (gK σ) (pp1 (cu (gR σ) (gN σ) nu))) ((gZ σ) (pw (gZ σ) (gK σ) (pp1 (cu (gR σ) (gN σ) nu))) + 1))  hC.pp) k_X3_put_X2_count (by decide) hC.pp.mp hC.pp.fp rfl rfl rfl hl rfl (Nat.le_of_ble_eq_true rfl) (by decide) rfl rfl dX3_put_148 (fun v L1 f1 H locs w hp => ?_)
                obtain ⟨rfl, rfl, hp⟩ := hp
                subst hp
                show W p l e _ s m _ below meth c _ _ _ _ _ (F0 m 151 ls [.int (iI (adK (gK σ)))])
                refine vx_ret ?_
                refine x_iret X w hr hlk ⟨by decide, by decide⟩ dX3_put_151 ?_
                have ho : oPut nu su sy σ = (0, gK (oIns nu su sy σ), oIns nu su sy σ) := by unfold oPut; rw [if_pos (by omega), if_neg (show ¬ (qF nu σ ≠ -1 ∨ 80 ≤ gN σ) from fun h9 => h9.elim (fun h8 => h8 hq40) (fun h8 => by omega))]
                rw [ho]
                refine ⟨rfl, ?_, ?_, fun _ h => List.mem_append_left _ h, hF⟩
                · show _ = some (Value.int (iI (adK (spK (gZ σ) (gK σ) (cu (gR σ) (gN σ) nu)))))
                  rw [hsK]
                · show CX cs _ _ x br ba pr sz lr _ _ (adK (spK (gZ σ) (gK σ) (cu (gR σ) (gN σ) nu))) (adZ (spZ (gZ σ) (gK σ) (cu (gR σ) (gN σ) nu)) (spK (gZ σ) (gK σ) (cu (gR σ) (gN σ) nu)) (cu (gR σ) (gN σ) nu)) _ _ _ _ _
                  rw [hsK, hsZ]; exact hC
              · refine x_al_n X hl 1 rfl rfl dX3_put_95 ?_
                refine x_get X w hC.mx hC.fx fq_X3_put_19 rfl dX3_put_96 ?_
                refine x_al_n X hl 1 rfl rfl dX3_put_99 ?_
                refine x_il X hl 0 rfl dX3_put_100 ?_
                refine x_callV (As := [.int (iI (cu (gR σ) (gN σ) nu))]) (rest := [.ref pr]) (c1 := 1) (s1 := 6) X w hA (c_X3_pageToPutOn l D cs L f0 x br ba pr sz lr (gK σ) (gZ σ) (gT σ) (gP σ) (gB σ) (gS σ) (cu (gR σ) (gN σ) nu) hC.mx hC.fx hC.pp (by omega) hz4) k_X3_put_X3_pageToPutOn (by decide) hC.mx hC.fx rfl rfl rfl hl rfl (Nat.le_of_ble_eq_true rfl) (by decide) rfl rfl dX3_put_102 (fun v L1 f1 H locs w hp => ?_)
                obtain ⟨rfl, rfl, hp⟩ := hp
                subst hp
                show W p l e _ s m _ below meth c _ _ _ _ _ (F0 m 105 ls [.int (iI (pw (gZ σ) (gK σ) (pp1 (cu (gR σ) (gN σ) nu)))), .ref pr])
                refine x_callV (As := [.int (iI (pw (gZ σ) (gK σ) (pp1 (cu (gR σ) (gN σ) nu))))]) (rest := []) (c1 := 1) (s1 := 6) X w hA (c_X2_split l D cs L f0 pr sz (gK σ) (gZ σ) (pw (gZ σ) (gK σ) (pp1 (cu (gR σ) (gN σ) nu))) hC.pp (by omega)) k_X3_put_X2_split (by decide) hC.pp.mp hC.pp.fp rfl rfl rfl hl rfl (Nat.le_of_ble_eq_true rfl) (by decide) rfl rfl dX3_put_105 (fun v L1 f1 H locs w hp => ?_)
                obtain ⟨rfl, rfl, hfr, hPP⟩ := hp
                have hC := hC.p hPP hfr
                have hF := hF.p hfr
                show W p l e _ s m _ below meth c _ _ _ _ _ (F0 m 108 ls [])
                have hsK : spK (gZ σ) (gK σ) (cu (gR σ) (gN σ) nu) = (gK σ) + 1 := if_pos (by omega)
                have hsZ : spZ (gZ σ) (gK σ) (cu (gR σ) (gN σ) nu) = uI (ins (gZ σ) ((pw (gZ σ) (gK σ) (pp1 (cu (gR σ) (gN σ) nu))) + 1) 2) (pw (gZ σ) (gK σ) (pp1 (cu (gR σ) (gN σ) nu))) ((gZ σ) (pw (gZ σ) (gK σ) (pp1 (cu (gR σ) (gN σ) nu))) - 2) := if_pos (by omega)
                have hsp := sp_ok hI.z1 (q := pw (gZ σ) (gK σ) (pp1 (cu (gR σ) (gN σ) nu))) (by omega) (by omega)
                have hz4 : ∀ j, 0 ≤ j → j < (gK σ) + 1 → 0 ≤ (uI (ins (gZ σ) ((pw (gZ σ) (gK σ) (pp1 (cu (gR σ) (gN σ) nu))) + 1) 2) (pw (gZ σ) (gK σ) (pp1 (cu (gR σ) (gN σ) nu))) ((gZ σ) (pw (gZ σ) (gK σ) (pp1 (cu (gR σ) (gN σ) nu))) - 2)) j ∧ (uI (ins (gZ σ) ((pw (gZ σ) (gK σ) (pp1 (cu (gR σ) (gN σ) nu))) + 1) 2) (pw (gZ σ) (gK σ) (pp1 (cu (gR σ) (gN σ) nu))) ((gZ σ) (pw (gZ σ) (gK σ) (pp1 (cu (gR σ) (gN σ) nu))) - 2)) j ≤ 4 := fun j a b => by have h9 := hsp.1 j a b; omega
                have hpb := pw_b (z := uI (ins (gZ σ) ((pw (gZ σ) (gK σ) (pp1 (cu (gR σ) (gN σ) nu))) + 1) 2) (pw (gZ σ) (gK σ) (pp1 (cu (gR σ) (gN σ) nu))) ((gZ σ) (pw (gZ σ) (gK σ) (pp1 (cu (gR σ) (gN σ) nu))) - 2)) (k := (gK σ) + 1) (p := pp1 (cu (gR σ) (gN σ) nu)) (by omega)
                have hpr := pp1_r (p := cu (gR σ) (gN σ) nu) (n := gN σ) ⟨hcu1, hcu2⟩ (by omega)
                have hq1 := pw_is (z := uI (ins (gZ σ) ((pw (gZ σ) (gK σ) (pp1 (cu (gR σ) (gN σ) nu))) + 1) 2) (pw (gZ σ) (gK σ) (pp1 (cu (gR σ) (gN σ) nu))) ((gZ σ) (pw (gZ σ) (gK σ) (pp1 (cu (gR σ) (gN σ) nu))) - 2)) (k := (gK σ) + 1) (p := pp1 (cu (gR σ) (gN σ) nu)) (fun j a b => (hz4 j a b).1) (by omega) (by rw [hsp.2.1, hI.sm]; exact hpr)
                have hq2 := hq1.1
                have hq3 := hq1.2.1
                refine x_al_n X hl 1 rfl rfl dX3_put_108 ?_
                refine x_get X w hC.mx hC.fx fq_X3_put_19 rfl dX3_put_109 ?_
                refine x_al_n X hl 1 rfl rfl dX3_put_112 ?_
                refine x_il X hl 0 rfl dX3_put_113 ?_
                refine x_callV (As := [.int (iI (cu (gR σ) (gN σ) nu))]) (rest := [.ref pr]) (c1 := 1) (s1 := 6) X w hA (c_X3_pageToPutOn l D cs L f1 x br ba pr sz lr ((gK σ) + 1) (uI (ins (gZ σ) ((pw (gZ σ) (gK σ) (pp1 (cu (gR σ) (gN σ) nu))) + 1) 2) (pw (gZ σ) (gK σ) (pp1 (cu (gR σ) (gN σ) nu))) ((gZ σ) (pw (gZ σ) (gK σ) (pp1 (cu (gR σ) (gN σ) nu))) - 2)) (gT σ) (gP σ) (gB σ) (gS σ) (cu (gR σ) (gN σ) nu) hC.mx hC.fx hC.pp (by omega) hz4) k_X3_put_X3_pageToPutOn (by decide) hC.mx hC.fx rfl rfl rfl hl rfl (Nat.le_of_ble_eq_true rfl) (by decide) rfl rfl dX3_put_115 (fun v L1 f1 H locs w hp => ?_)
                obtain ⟨rfl, rfl, hp⟩ := hp
                subst hp
                show W p l e _ s m _ below meth c _ _ _ _ _ (F0 m 118 ls [.int (iI (pw (uI (ins (gZ σ) ((pw (gZ σ) (gK σ) (pp1 (cu (gR σ) (gN σ) nu))) + 1) 2) (pw (gZ σ) (gK σ) (pp1 (cu (gR σ) (gN σ) nu))) ((gZ σ) (pw (gZ σ) (gK σ) (pp1 (cu (gR σ) (gN σ) nu))) - 2)) ((gK σ) + 1) (pp1 (cu (gR σ) (gN σ) nu)))), .ref pr])
                refine x_callV (As := [.int (iI (pw (uI (ins (gZ σ) ((pw (gZ σ) (gK σ) (pp1 (cu (gR σ) (gN σ) nu))) + 1) 2) (pw (gZ σ) (gK σ) (pp1 (cu (gR σ) (gN σ) nu))) ((gZ σ) (pw (gZ σ) (gK σ) (pp1 (cu (gR σ) (gN σ) nu))) - 2)) ((gK σ) + 1) (pp1 (cu (gR σ) (gN σ) nu))))]) (rest := []) (c1 := 1) (s1 := 6) X w hA (c_X2_addTo l D cs L f1 pr sz ((gK σ) + 1) (uI (ins (gZ σ) ((pw (gZ σ) (gK σ) (pp1 (cu (gR σ) (gN σ) nu))) + 1) 2) (pw (gZ σ) (gK σ) (pp1 (cu (gR σ) (gN σ) nu))) ((gZ σ) (pw (gZ σ) (gK σ) (pp1 (cu (gR σ) (gN σ) nu))) - 2)) (pw (uI (ins (gZ σ) ((pw (gZ σ) (gK σ) (pp1 (cu (gR σ) (gN σ) nu))) + 1) 2) (pw (gZ σ) (gK σ) (pp1 (cu (gR σ) (gN σ) nu))) ((gZ σ) (pw (gZ σ) (gK σ) (pp1 (cu (gR σ) (gN σ) nu))) - 2)) ((gK σ) + 1) (pp1 (cu (gR σ) (gN σ) nu))) hC.pp (by omega)) k_X3_put_X2_addTo (by decide) hC.pp.mp hC.pp.fp rfl rfl rfl hl rfl (Nat.le_of_ble_eq_true rfl) (by decide) rfl rfl dX3_put_118 (fun v L1 f1 H locs w hp => ?_)
                obtain ⟨rfl, rfl, hfr, hPP⟩ := hp
                have hC := hC.p hPP hfr
                have hF := hF.p hfr
                show W p l e _ s m _ below meth c _ _ _ _ _ (F0 m 121 ls [])
                refine x_al_n X hl 1 rfl rfl dX3_put_121 ?_
                refine x_get X w hC.mx hC.fx fq_X3_put_10 rfl dX3_put_122 ?_
                refine x_il X hl 0 rfl dX3_put_125 ?_
                refine x_newO (C := RX0) (T := TX0) (N := 5) (ci := 0) (c1 := 2) (s1 := 11) X w hA iw_X3_put_X0 tyX0_ok ⟨by decide +kernel, by decide +kernel, by decide +kernel⟩ rfl df_X0 (by decide) rfl rfl dX3_put_127 (fun a127 H locs hn127 w => ?_)
                have hC0 := hC
                obtain ⟨f130, w, hC, hF, hfa, hfu⟩ : ∃ f9, XW D A s.heap (L ++ [a127]) f9 H locs ∧ CX cs (L ++ [a127]) f9 x br ba pr sz lr (gN σ) (gR σ) (adK ((gK σ) + 1)) (if ((gK σ) + 1) = 0 then uI (uI (ins (gZ σ) ((pw (gZ σ) (gK σ) (pp1 (cu (gR σ) (gN σ) nu))) + 1) 2) (pw (gZ σ) (gK σ) (pp1 (cu (gR σ) (gN σ) nu))) ((gZ σ) (pw (gZ σ) (gK σ) (pp1 (cu (gR σ) (gN σ) nu))) - 2)) 0 1 else uI (uI (ins (gZ σ) ((pw (gZ σ) (gK σ) (pp1 (cu (gR σ) (gN σ) nu))) + 1) 2) (pw (gZ σ) (gK σ) (pp1 (cu (gR σ) (gN σ) nu))) ((gZ σ) (pw (gZ σ) (gK σ) (pp1 (cu (gR σ) (gN σ) nu))) - 2)) (pw (uI (ins (gZ σ) ((pw (gZ σ) (gK σ) (pp1 (cu (gR σ) (gN σ) nu))) + 1) 2) (pw (gZ σ) (gK σ) (pp1 (cu (gR σ) (gN σ) nu))) ((gZ σ) (pw (gZ σ) (gK σ) (pp1 (cu (gR σ) (gN σ) nu))) - 2)) ((gK σ) + 1) (pp1 (cu (gR σ) (gN σ) nu))) ((uI (ins (gZ σ) ((pw (gZ σ) (gK σ) (pp1 (cu (gR σ) (gN σ) nu))) + 1) 2) (pw (gZ σ) (gK σ) (pp1 (cu (gR σ) (gN σ) nu))) ((gZ σ) (pw (gZ σ) (gK σ) (pp1 (cu (gR σ) (gN σ) nu))) - 2)) (pw (uI (ins (gZ σ) ((pw (gZ σ) (gK σ) (pp1 (cu (gR σ) (gN σ) nu))) + 1) 2) (pw (gZ σ) (gK σ) (pp1 (cu (gR σ) (gN σ) nu))) ((gZ σ) (pw (gZ σ) (gK σ) (pp1 (cu (gR σ) (gN σ) nu))) - 2)) ((gK σ) + 1) (pp1 (cu (gR σ) (gN σ) nu))) + 1)) (gT σ) (gP σ) (gB σ) (gS σ) (gW σ) ∧ FC L f0 f9 x br ba pr sz lr ∧ f9 a127 = .inr (0, [.int (iI 0), .int (iI 0), .int (iI 0), .int (iI 0), .int (iI 0)]) ∧ (∀ b, b ≠ a127 → f9 b = f1 b) := ⟨_, w, hC.new hn127, hF.new hn127, va_up_self _ _ _, fun b hb => va_up_ne _ _ hb⟩
                have hma : a127 ∈ L ++ [a127] := List.mem_append_right _ List.mem_cons_self
                refine x_dup X rfl dX3_put_130 ?_
                refine x_il_n X hl 2 rfl rfl dX3_put_131 ?_
                refine x_il_n X hl 3 rfl rfl dX3_put_132 ?_
                refine x_il_n X hl 4 rfl rfl dX3_put_133 ?_
                refine x_al_n X hl 1 rfl rfl dX3_put_134 ?_
                refine x_get X w hC.mx hC.fx fq_X3_put_77 rfl dX3_put_135 ?_
                refine x_callI (As := [.int (iI nu), .int (iI su), .int (iI sy), .int (iI (gT σ))]) (rest := [.ref a127, .int (iI (cu (gR σ) (gN σ) nu)), .ref br]) (c1 := 2) (s1 := 11) X w hA (c_X0_init l D cs (L ++ [a127]) f130 a127 nu su sy (gT σ) hma hfa) k_X3_put_X0_init (by decide) rfl hl rfl (Nat.le_of_ble_eq_true rfl) (by decide) rfl rfl dX3_put_138 (fun v L1 f1 H locs w hp => ?_)
                obtain ⟨rfl, rfl, hfa, hfr⟩ := hp
                have hC := hC0.new2 hn127 (fun b hb => (hfr b hb hb).trans (hfu b hb))
                have hF := hF.new3 hn127 (fun b hb => hfr b hb hb)
                show W p l e _ s m _ below meth c _ _ _ _ _ (F0 m 141 ls [.ref a127, .int (iI (cu (gR σ) (gN σ) nu)), .ref br])
                obtain ⟨r141, hRB, hO⟩ := hC.rb
                refine x_callV (As := [.int (iI (cu (gR σ) (gN σ) nu)), .ref a127]) (rest := []) (c1 := 2) (s1 := 11) X w hA (c_X1_insert l D cs (L ++ [a127]) f1 br ba (gN σ) r141 (gR σ) (cu (gR σ) (gN σ) nu) a127 (nR nu su sy (gT σ)) hRB hO (by omega) hma hfa) k_X3_put_X1_insert (by decide) hC.mb hC.fb rfl rfl rfl hl rfl (Nat.le_of_ble_eq_true rfl) (by decide) rfl rfl dX3_put_141 (fun v L1 f1 H locs w hp => ?_)
                obtain ⟨rfl, rfl, hfr, r1, hRB, hO⟩ := hp
                have hC := hC.b hRB hO hfr
                have hF := hF.b hfr
                show W p l e _ s m _ below meth c _ _ _ _ _ (F0 m 144 ls [])
                refine x_al_n X hl 1 rfl rfl dX3_put_144 ?_
                refine x_get X w hC.mx hC.fx fq_X3_put_19 rfl dX3_put_145 ?_
                refine x_callV (As := []) (rest := []) (c1 := 2) (s1 := 11) X w hA (c_X2_count l D cs (L ++ [a127]) f1 pr sz (adK ((gK σ) + 1)) (if ((gK σ) + 1) = 0 then uI (uI (ins (gZ σ) ((pw (gZ σ) (gK σ) (pp1 (cu (gR σ) (gN σ) nu))) + 1) 2) (pw (gZ σ) (gK σ) (pp1 (cu (gR σ) (gN σ) nu))) ((gZ σ) (pw (gZ σ) (gK σ) (pp1 (cu (gR σ) (gN σ) nu))) - 2)) 0 1 else uI (uI (ins (gZ σ) ((pw (gZ σ) (gK σ) (pp1 (cu (gR σ) (gN σ) nu))) + 1) 2) (pw (gZ σ) (gK σ) (pp1 (cu (gR σ) (gN σ) nu))) ((gZ σ) (pw (gZ σ) (gK σ) (pp1 (cu (gR σ) (gN σ) nu))) - 2)) (pw (uI (ins (gZ σ) ((pw (gZ σ) (gK σ) (pp1 (cu (gR σ) (gN σ) nu))) + 1) 2) (pw (gZ σ) (gK σ) (pp1 (cu (gR σ) (gN σ) nu))) ((gZ σ) (pw (gZ σ) (gK σ) (pp1 (cu (gR σ) (gN σ) nu))) - 2)) ((gK σ) + 1) (pp1 (cu (gR σ) (gN σ) nu))) ((uI (ins (gZ σ) ((pw (gZ σ) (gK σ) (pp1 (cu (gR σ) (gN σ) nu))) + 1) 2) (pw (gZ σ) (gK σ) (pp1 (cu (gR σ) (gN σ) nu))) ((gZ σ) (pw (gZ σ) (gK σ) (pp1 (cu (gR σ) (gN σ) nu))) - 2)) (pw (uI (ins (gZ σ) ((pw (gZ σ) (gK σ) (pp1 (cu (gR σ) (gN σ) nu))) + 1) 2) (pw (gZ σ) (gK σ) (pp1 (cu (gR σ) (gN σ) nu))) ((gZ σ) (pw (gZ σ) (gK σ) (pp1 (cu (gR σ) (gN σ) nu))) - 2)) ((gK σ) + 1) (pp1 (cu (gR σ) (gN σ) nu))) + 1))  hC.pp) k_X3_put_X2_count (by decide) hC.pp.mp hC.pp.fp rfl rfl rfl hl rfl (Nat.le_of_ble_eq_true rfl) (by decide) rfl rfl dX3_put_148 (fun v L1 f1 H locs w hp => ?_)
                obtain ⟨rfl, rfl, hp⟩ := hp
                subst hp
                show W p l e _ s m _ below meth c _ _ _ _ _ (F0 m 151 ls [.int (iI (adK ((gK σ) + 1)))])
                refine vx_ret ?_
                refine x_iret X w hr hlk ⟨by decide, by decide⟩ dX3_put_151 ?_
                have ho : oPut nu su sy σ = (0, gK (oIns nu su sy σ), oIns nu su sy σ) := by unfold oPut; rw [if_pos (by omega), if_neg (show ¬ (qF nu σ ≠ -1 ∨ 80 ≤ gN σ) from fun h9 => h9.elim (fun h8 => h8 hq40) (fun h8 => by omega))]
                rw [ho]
                refine ⟨rfl, ?_, ?_, fun _ h => List.mem_append_left _ h, hF⟩
                · show _ = some (Value.int (iI (adK (spK (gZ σ) (gK σ) (cu (gR σ) (gN σ) nu)))))
                  rw [hsK]
                · show CX cs _ _ x br ba pr sz lr _ _ (adK (spK (gZ σ) (gK σ) (cu (gR σ) (gN σ) nu))) (adZ (spZ (gZ σ) (gK σ) (cu (gR σ) (gN σ) nu)) (spK (gZ σ) (gK σ) (cu (gR σ) (gN σ) nu)) (cu (gR σ) (gN σ) nu)) _ _ _ _ _
                  rw [hsK, hsZ]; exact hC
            · show W p l e _ s m _ below meth c _ _ _ _ _ (F0 m 91 ls [.int (iI 0)])
              refine x_iconst X dX3_put_91 ?_
              refine x_icmpT_lt (tgt := 108) X (by decide) (by decide) (by decide) dX3_put_92 ?_
              have hsK : spK (gZ σ) (gK σ) (cu (gR σ) (gN σ) nu) = gK σ := if_neg (by omega)
              have hsZ : spZ (gZ σ) (gK σ) (cu (gR σ) (gN σ) nu) = gZ σ := if_neg (by omega)
              refine x_al_n X hl 1 rfl rfl dX3_put_108 ?_
              refine x_get X w hC.mx hC.fx fq_X3_put_19 rfl dX3_put_109 ?_
              refine x_al_n X hl 1 rfl rfl dX3_put_112 ?_
              refine x_il X hl 0 rfl dX3_put_113 ?_
              refine x_callV (As := [.int (iI (cu (gR σ) (gN σ) nu))]) (rest := [.ref pr]) (c1 := 1) (s1 := 6) X w hA (c_X3_pageToPutOn l D cs L f0 x br ba pr sz lr (gK σ) (gZ σ) (gT σ) (gP σ) (gB σ) (gS σ) (cu (gR σ) (gN σ) nu) hC.mx hC.fx hC.pp (by omega) hz4) k_X3_put_X3_pageToPutOn (by decide) hC.mx hC.fx rfl rfl rfl hl rfl (Nat.le_of_ble_eq_true rfl) (by decide) rfl rfl dX3_put_115 (fun v L1 f1 H locs w hp => ?_)
              obtain ⟨rfl, rfl, hp⟩ := hp
              subst hp
              show W p l e _ s m _ below meth c _ _ _ _ _ (F0 m 118 ls [.int (iI (pw (gZ σ) (gK σ) (pp1 (cu (gR σ) (gN σ) nu)))), .ref pr])
              refine x_callV (As := [.int (iI (pw (gZ σ) (gK σ) (pp1 (cu (gR σ) (gN σ) nu))))]) (rest := []) (c1 := 1) (s1 := 6) X w hA (c_X2_addTo l D cs L f0 pr sz (gK σ) (gZ σ) (pw (gZ σ) (gK σ) (pp1 (cu (gR σ) (gN σ) nu))) hC.pp (by omega)) k_X3_put_X2_addTo (by decide) hC.pp.mp hC.pp.fp rfl rfl rfl hl rfl (Nat.le_of_ble_eq_true rfl) (by decide) rfl rfl dX3_put_118 (fun v L1 f1 H locs w hp => ?_)
              obtain ⟨rfl, rfl, hfr, hPP⟩ := hp
              have hC := hC.p hPP hfr
              have hF := hF.p hfr
              show W p l e _ s m _ below meth c _ _ _ _ _ (F0 m 121 ls [])
              refine x_al_n X hl 1 rfl rfl dX3_put_121 ?_
              refine x_get X w hC.mx hC.fx fq_X3_put_10 rfl dX3_put_122 ?_
              refine x_il X hl 0 rfl dX3_put_125 ?_
              refine x_newO (C := RX0) (T := TX0) (N := 5) (ci := 0) (c1 := 2) (s1 := 11) X w hA iw_X3_put_X0 tyX0_ok ⟨by decide +kernel, by decide +kernel, by decide +kernel⟩ rfl df_X0 (by decide) rfl rfl dX3_put_127 (fun a127 H locs hn127 w => ?_)
              have hC0 := hC
              obtain ⟨f130, w, hC, hF, hfa, hfu⟩ : ∃ f9, XW D A s.heap (L ++ [a127]) f9 H locs ∧ CX cs (L ++ [a127]) f9 x br ba pr sz lr (gN σ) (gR σ) (adK (gK σ)) (if (gK σ) = 0 then uI (gZ σ) 0 1 else uI (gZ σ) (pw (gZ σ) (gK σ) (pp1 (cu (gR σ) (gN σ) nu))) ((gZ σ) (pw (gZ σ) (gK σ) (pp1 (cu (gR σ) (gN σ) nu))) + 1)) (gT σ) (gP σ) (gB σ) (gS σ) (gW σ) ∧ FC L f0 f9 x br ba pr sz lr ∧ f9 a127 = .inr (0, [.int (iI 0), .int (iI 0), .int (iI 0), .int (iI 0), .int (iI 0)]) ∧ (∀ b, b ≠ a127 → f9 b = f1 b) := ⟨_, w, hC.new hn127, hF.new hn127, va_up_self _ _ _, fun b hb => va_up_ne _ _ hb⟩
              have hma : a127 ∈ L ++ [a127] := List.mem_append_right _ List.mem_cons_self
              refine x_dup X rfl dX3_put_130 ?_
              refine x_il_n X hl 2 rfl rfl dX3_put_131 ?_
              refine x_il_n X hl 3 rfl rfl dX3_put_132 ?_
              refine x_il_n X hl 4 rfl rfl dX3_put_133 ?_
              refine x_al_n X hl 1 rfl rfl dX3_put_134 ?_
              refine x_get X w hC.mx hC.fx fq_X3_put_77 rfl dX3_put_135 ?_
              refine x_callI (As := [.int (iI nu), .int (iI su), .int (iI sy), .int (iI (gT σ))]) (rest := [.ref a127, .int (iI (cu (gR σ) (gN σ) nu)), .ref br]) (c1 := 2) (s1 := 11) X w hA (c_X0_init l D cs (L ++ [a127]) f130 a127 nu su sy (gT σ) hma hfa) k_X3_put_X0_init (by decide) rfl hl rfl (Nat.le_of_ble_eq_true rfl) (by decide) rfl rfl dX3_put_138 (fun v L1 f1 H locs w hp => ?_)
              obtain ⟨rfl, rfl, hfa, hfr⟩ := hp
              have hC := hC0.new2 hn127 (fun b hb => (hfr b hb hb).trans (hfu b hb))
              have hF := hF.new3 hn127 (fun b hb => hfr b hb hb)
              show W p l e _ s m _ below meth c _ _ _ _ _ (F0 m 141 ls [.ref a127, .int (iI (cu (gR σ) (gN σ) nu)), .ref br])
              obtain ⟨r141, hRB, hO⟩ := hC.rb
              refine x_callV (As := [.int (iI (cu (gR σ) (gN σ) nu)), .ref a127]) (rest := []) (c1 := 2) (s1 := 11) X w hA (c_X1_insert l D cs (L ++ [a127]) f1 br ba (gN σ) r141 (gR σ) (cu (gR σ) (gN σ) nu) a127 (nR nu su sy (gT σ)) hRB hO (by omega) hma hfa) k_X3_put_X1_insert (by decide) hC.mb hC.fb rfl rfl rfl hl rfl (Nat.le_of_ble_eq_true rfl) (by decide) rfl rfl dX3_put_141 (fun v L1 f1 H locs w hp => ?_)
              obtain ⟨rfl, rfl, hfr, r1, hRB, hO⟩ := hp
              have hC := hC.b hRB hO hfr
              have hF := hF.b hfr
              show W p l e _ s m _ below meth c _ _ _ _ _ (F0 m 144 ls [])
              refine x_al_n X hl 1 rfl rfl dX3_put_144 ?_
              refine x_get X w hC.mx hC.fx fq_X3_put_19 rfl dX3_put_145 ?_
              refine x_callV (As := []) (rest := []) (c1 := 2) (s1 := 11) X w hA (c_X2_count l D cs (L ++ [a127]) f1 pr sz (adK (gK σ)) (if (gK σ) = 0 then uI (gZ σ) 0 1 else uI (gZ σ) (pw (gZ σ) (gK σ) (pp1 (cu (gR σ) (gN σ) nu))) ((gZ σ) (pw (gZ σ) (gK σ) (pp1 (cu (gR σ) (gN σ) nu))) + 1))  hC.pp) k_X3_put_X2_count (by decide) hC.pp.mp hC.pp.fp rfl rfl rfl hl rfl (Nat.le_of_ble_eq_true rfl) (by decide) rfl rfl dX3_put_148 (fun v L1 f1 H locs w hp => ?_)
              obtain ⟨rfl, rfl, hp⟩ := hp
              subst hp
              show W p l e _ s m _ below meth c _ _ _ _ _ (F0 m 151 ls [.int (iI (adK (gK σ)))])
              refine vx_ret ?_
              refine x_iret X w hr hlk ⟨by decide, by decide⟩ dX3_put_151 ?_
              have ho : oPut nu su sy σ = (0, gK (oIns nu su sy σ), oIns nu su sy σ) := by unfold oPut; rw [if_pos (by omega), if_neg (show ¬ (qF nu σ ≠ -1 ∨ 80 ≤ gN σ) from fun h9 => h9.elim (fun h8 => h8 hq40) (fun h8 => by omega))]
              rw [ho]
              refine ⟨rfl, ?_, ?_, fun _ h => List.mem_append_left _ h, hF⟩
              · show _ = some (Value.int (iI (adK (spK (gZ σ) (gK σ) (cu (gR σ) (gN σ) nu)))))
                rw [hsK]
              · show CX cs _ _ x br ba pr sz lr _ _ (adK (spK (gZ σ) (gK σ) (cu (gR σ) (gN σ) nu))) (adZ (spZ (gZ σ) (gK σ) (cu (gR σ) (gN σ) nu)) (spK (gZ σ) (gK σ) (cu (gR σ) (gN σ) nu)) (cu (gR σ) (gN σ) nu)) _ _ _ _ _
                rw [hsK, hsZ]; exact hC
          · refine x_throw X w hl9 hV hZ hlk hout hl xt_X3_put_56 dX3_put_58 dX3_put_61 dX3_put_62 dX3_put_64 dX3_put_67 ⟨by decide, (Nat.le_of_ble_eq_true rfl), by decide, by decide⟩ ⟨by decide, by decide⟩ ?_
            exact Or.inr ⟨by unfold oPut; rw [if_pos (by omega), if_pos (show qF nu σ ≠ -1 ∨ 80 ≤ gN σ from Or.inr (by omega))], rfl⟩
      · show W p l e _ s m _ below meth c _ _ _ _ _ (F0 m 22 ls [.int (iI 0)])
        refine x_ifF_ne (tgt := 35) X (by decide) (by decide) (by decide) dX3_put_22 ?_
        refine x_throw X w hl9 hV hZ hlk hout hl xt_X3_put_41 dX3_put_25 dX3_put_28 dX3_put_29 dX3_put_31 dX3_put_34 ⟨by decide, (Nat.le_of_ble_eq_true rfl), by decide, by decide⟩ ⟨by decide, by decide⟩ ?_
        exact Or.inl ⟨by unfold oPut; rw [if_neg (by omega)], rfl⟩
    · show W p l e _ s m _ below meth c _ _ _ _ _ (F0 m 12 ls [.int (iI 0)])
      refine x_ifT_eq (tgt := 25) X (by decide) (by decide) (by decide) dX3_put_12 ?_
      refine x_throw X w hl9 hV hZ hlk hout hl xt_X3_put_41 dX3_put_25 dX3_put_28 dX3_put_29 dX3_put_31 dX3_put_34 ⟨by decide, (Nat.le_of_ble_eq_true rfl), by decide, by decide⟩ ⟨by decide, by decide⟩ ?_
      exact Or.inl ⟨by unfold oPut; rw [if_neg (by omega)], rfl⟩
