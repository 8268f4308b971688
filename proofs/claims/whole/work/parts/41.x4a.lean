/-! the reference's methods -/
theorem gN_p {n : Int} : n + 1 - 1 = n := by omega
theorem cp_g {g g1 : Nat → Int → Int} {fr to : Int} (h : g1 = uG (uG (uG (uG (uG g 0 to (g 0 fr)) 1 to (g 1 fr)) 2 to (g 2 fr)) 3 to (g 3 fr)) 4 to (g 4 fr)) : ∀ c, c < 5 → g1 c = uI (g c) to (g c fr) := by
  intro c hc
  rw [h]
  rcases (show c = 0 ∨ c = 1 ∨ c = 2 ∨ c = 3 ∨ c = 4 by omega) with rfl | rfl | rfl | rfl | rfl <;> rfl
theorem nw_g {g g1 : Nat → Int → Int} {R : Rc} {at9 n nu su sy td : Int} (hn : 0 ≤ n) (hp : 0 ≤ at9 ∧ at9 ≤ n) {g0 : Nat → Int → Int} (hg : ∀ j, 0 ≤ j → j < n → ∀ c, c < 5 → g0 c j = R j c) (h : ∀ c, c < 5 → (∀ j, j ≤ at9 → g c j = g0 c j) ∧ (∀ j, at9 < j → j ≤ n → g c j = g0 c (j - 1)))
    (h1 : g1 = uG (uG (uG (uG (uG g 0 at9 nu) 1 at9 su) 2 at9 sy) 3 at9 td) 4 at9 (-1)) : ∀ j, 0 ≤ j → j < n + 1 → ∀ c, c < 5 → g1 c j = ins R at9 (nR nu su sy td) j c := by
  intro j a b c hc
  have e : g1 c j = uI (g c) at9 (nR nu su sy td c) j := by
    rw [h1]
    rcases (show c = 0 ∨ c = 1 ∨ c = 2 ∨ c = 3 ∨ c = 4 by omega) with rfl | rfl | rfl | rfl | rfl <;> rfl
  rw [e]
  show _ = (if j < at9 then R j else if j = at9 then nR nu su sy td else R (j - 1)) c
  by_cases q : j = at9
  · rw [q, uI_s, if_neg (by omega), if_pos rfl]
  · rw [uI_n _ _ q]
    by_cases q2 : j < at9
    · rw [if_pos q2, (h c hc).1 j (by omega)]; exact hg j a (by omega) c hc
    · rw [if_neg q2, if_neg q, (h c hc).2 j (by omega) (by omega)]; exact hg (j - 1) (by omega) (by omega) c hc
theorem ff_g {g : Nat → Int → Int} {R : Rc} {n i v : Int} (hg : ∀ j, 0 ≤ j → j < n → ∀ c, c < 5 → g c j = R j c) : ∀ j, 0 ≤ j → j < n → ∀ c, c < 5 → uG g 4 i v c j = uI R i (uN (R i) 4 v) j c := by
  intro j a b c hc
  by_cases q : j = i
  · subst q
    rw [uI_s]
    by_cases q2 : c = 4
    · subst q2; rw [uG_s, uI_s]; rfl
    · rw [uG_n _ _ _ q2]; show _ = (if c = 4 then v else R j c); rw [if_neg q2]; exact hg j a b c hc
  · rw [uI_n _ _ q]
    by_cases q2 : c = 4
    · subst q2; rw [uG_s, uI_n _ _ q]; exact hg j a b 4 hc
    · rw [uG_n _ _ _ q2]; exact hg j a b c hc
theorem sp_2 {zz z1 z2 z3 z : Int → Int} {k pg : Int} (hp : 0 ≤ pg ∧ pg < k) (hz : ∀ j, 0 ≤ j → j < k → zz j = z j) (h1 : ∀ j, j ≤ pg + 1 → z1 j = zz j) (h2 : ∀ j, pg + 1 < j → j ≤ k → z1 j = zz (j - 1)) (e2 : z2 = uI z1 pg 2) (e3 : z3 = uI z2 (pg + 1) 2) {j : Int} (h8 : 0 ≤ j) (h9 : j < k + 1) : z3 j = uI (ins z (pg + 1) 2) pg 2 j := by
  rw [e3, e2]
  by_cases h3 : j = pg
  · subst h3; rw [uI_n _ _ (by omega), uI_s, uI_s]
  · rw [uI_n (ins z (pg + 1) 2) _ h3]
    show _ = (if j < pg + 1 then z j else if j = pg + 1 then 2 else z (j - 1))
    by_cases h4 : j = pg + 1
    · rw [h4, uI_s, if_neg (by omega), if_pos rfl]
    · rw [uI_n _ _ h4, uI_n _ _ h3]
      by_cases h6 : j < pg + 1
      · rw [if_pos h6, h1 j (by omega), hz j h8 (by omega)]
      · rw [if_neg h6, if_neg h4, h2 j (by omega) (by omega), hz (j - 1) (by omega) (by omega)]
theorem mv_1 {z zz : Int → Int} {k a b : Int} (h : z a - 1 ≠ 0) (hn : a ≠ b) (hz : ∀ j, 0 ≤ j → j < k → zz j = uI (uI z b (z b + 1)) a (z a - 1) j) : mvK z k a = k ∧ ∀ j, 0 ≤ j → j < mvK z k a → zz j = mvZ z a b j := by
  have eK : mvK z k a = k := if_neg h
  refine ⟨eK, fun j h1 h2 => ?_⟩
  rw [eK] at h2
  rw [hz j h1 h2, show mvZ z a b = mvz z a b from if_neg h]
  unfold mvz
  by_cases q : j = a
  · subst q; rw [uI_s, uI_n _ _ hn, uI_s]
  · rw [uI_n _ _ q]
    by_cases q2 : j = b
    · subst q2; rw [uI_s, uI_s]
    · rw [uI_n _ _ q2, uI_n _ _ q2, uI_n _ _ q]
theorem mv_0 {z zz : Int → Int} {k a b : Int} (h : z a - 1 = 0) (hn : a ≠ b) (hz : ∀ j, 0 ≤ j → j < k - 1 → zz j = del (uI z b (z b + 1)) a j) : mvK z k a = k - 1 ∧ ∀ j, 0 ≤ j → j < mvK z k a → zz j = mvZ z a b j := by
  have eK : mvK z k a = k - 1 := if_pos h
  refine ⟨eK, fun j h1 h2 => ?_⟩
  rw [eK] at h2
  rw [hz j h1 h2, show mvZ z a b = del (mvz z a b) a from if_pos h]
  have key : ∀ i, i ≠ a → uI z b (z b + 1) i = mvz z a b i := by
    intro i hi
    unfold mvz
    by_cases q : i = b
    · subst q; rw [uI_s, uI_s]
    · rw [uI_n _ _ q, uI_n _ _ q, uI_n _ _ hi]
  show (if j < a then uI z b (z b + 1) j else uI z b (z b + 1) (j + 1)) = (if j < a then mvz z a b j else mvz z a b (j + 1))
  by_cases q : j < a
  · rw [if_pos q, if_pos q]; exact key j (by omega)
  · rw [if_neg q, if_neg q]; exact key (j + 1) (by omega)

set_option maxHeartbeats 4000000 in
set_option maxRecDepth 100000 in
theorem c_X4_in (l : Launch) (D : va_G) (cs : ClassId × ClassId × ClassId) (L : List Nat) (f0 : Nat → va_E) (v lo hi : Int) (hrg : (-2147483648 ≤ v ∧ v < 2147483648) ∧ (-2147483648 ≤ lo ∧ lo < 2147483648) ∧ (-2147483648 ≤ hi ∧ hi < 2147483648)) : C0 l yX4_in wsX4_in ({ frames := 1, cells := 0, slots := 0, locals := 12 } : Room) D cs [.int (iI v), .int (iI lo), .int (iI hi)] L f0 (fun u L1 f1 => L = L1 ∧ f0 = f1 ∧ ((u = some (.int (iI 1)) ∧ lo ≤ v ∧ v ≤ hi) ∨ (u = some (.int (iI 0)) ∧ ¬ (lo ≤ v ∧ v ≤ hi)))) := by
  refine C0.of (cc := cX4_in) (maxL := 3) (ret := (some .boolean)) (by decide) rfl (Nat.le_of_ble_eq_true rfl) ?_
  intro p e s m below meth c X hr hlk hin A hA w ls hl
  have hl : lv_has ls 3 [(0, .int (iI v)), (1, .int (iI lo)), (2, .int (iI hi))] := hl
  refine x_il_n X hl 0 rfl rfl dX4_in_0 ?_
  refine x_il_n X hl 1 rfl rfl dX4_in_1 ?_
  refine x_icmp_lt (tgt := 14) X (by omega) (by decide) dX4_in_2 (fun hb2 => ?_) (fun hb2 => ?_)
  · refine x_iconst X dX4_in_14 ?_
    refine x_zret X w hr hlk ⟨by decide, by decide⟩ (by omega) dX4_in_15 ?_
    exact ⟨rfl, rfl, Or.inr ⟨rfl, by omega⟩⟩
  · refine x_il_n X hl 0 rfl rfl dX4_in_5 ?_
    refine x_il_n X hl 2 rfl rfl dX4_in_6 ?_
    refine x_icmp_gt (tgt := 14) X (by omega) (by decide) dX4_in_7 (fun hb7 => ?_) (fun hb7 => ?_)
    · refine x_iconst X dX4_in_14 ?_
      refine x_zret X w hr hlk ⟨by decide, by decide⟩ (by omega) dX4_in_15 ?_
      exact ⟨rfl, rfl, Or.inr ⟨rfl, by omega⟩⟩
    · refine x_iconst X dX4_in_10 ?_
      refine x_goto (tgt := 15) X (by decide) dX4_in_11 ?_
      refine x_zret X w hr hlk ⟨by decide, by decide⟩ (by omega) dX4_in_15 ?_
      exact ⟨rfl, rfl, Or.inl ⟨rfl, by omega⟩⟩

theorem k_X4_isCase_X4_in : XS wsX4_isCase RX4 38 yX4_in cX4_in 3 (some .boolean) wsX4_in 3 := ⟨gX4_isCase_X4_in, ⟨_, rfl⟩, by decide, by decide, by decide +kernel⟩
set_option maxHeartbeats 4000000 in
set_option maxRecDepth 100000 in
theorem c_X4_isCase (l : Launch) (D : va_G) (cs : ClassId × ClassId × ClassId) (L : List Nat) (f0 : Nat → va_E) (nu : Int) (hrg : (-2147483648 ≤ nu ∧ nu < 2147483648)) : C0 l yX4_isCase wsX4_isCase ({ frames := 2, cells := 0, slots := 0, locals := 34 } : Room) D cs [.int (iI nu)] L f0 (fun u L1 f1 => L = L1 ∧ f0 = f1 ∧ ((u = some (.int (iI 1)) ∧ 0 ≤ nu ∧ nu ≤ 999) ∨ (u = some (.int (iI 0)) ∧ ¬ (0 ≤ nu ∧ nu ≤ 999)))) := by
  refine C0.of (cc := cX4_isCase) (maxL := 1) (ret := (some .boolean)) (by decide) rfl (Nat.le_of_ble_eq_true rfl) ?_
  intro p e s m below meth c X hr hlk hin A hA w ls hl
  have hl : lv_has ls 1 [(0, .int (iI nu))] := hl
  refine x_il_n X hl 0 rfl rfl dX4_isCase_0 ?_
  refine x_iconst X dX4_isCase_1 ?_
  refine x_sipush X (by decide) dX4_isCase_2 ?_
  refine x_callS (As := [.int (iI nu), .int (iI 0), .int (iI 999)]) (rest := []) (c1 := 0) (s1 := 0) X w hA (c_X4_in l D cs L f0 nu 0 999 (by omega)) k_X4_isCase_X4_in (by decide) rfl hl rfl (Nat.le_of_ble_eq_true rfl) (by decide) rfl rfl dX4_isCase_5 (fun v L1 f1 H locs w hp => ?_)
  obtain ⟨rfl, rfl, hp⟩ := hp
  rcases hp with ⟨rfl, hq5⟩ | ⟨rfl, hq5⟩
  · show W p l e _ s m _ below meth c _ _ _ _ _ (F0 m 8 ls [.int (iI 1)])
    refine x_zret X w hr hlk ⟨by decide, by decide⟩ (by omega) dX4_isCase_8 ?_
    exact ⟨rfl, rfl, Or.inl ⟨rfl, by omega⟩⟩
  · show W p l e _ s m _ below meth c _ _ _ _ _ (F0 m 8 ls [.int (iI 0)])
    refine x_zret X w hr hlk ⟨by decide, by decide⟩ (by omega) dX4_isCase_8 ?_
    exact ⟨rfl, rfl, Or.inr ⟨rfl, by omega⟩⟩

theorem iw_X4_thrown_X4 : ∀ w ∈ wsX40, w ∈ wsX4_thrown := by decide +kernel
theorem fq_X4_thrown_35 : XF wsX4_thrown RX4 35 4 0 := ⟨RX4, TX4, 14, iw_X4_thrown_X4, rfl, by decide, by decide +kernel⟩
set_option maxHeartbeats 4000000 in
set_option maxRecDepth 100000 in
theorem c_X4_thrown (l : Launch) (D : va_G) (cs : ClassId × ClassId × ClassId) (L : List Nat) (f0 : Nat → va_E) (mo : Nat) (B : Nat → Nat) (t n k td kp pb sw : Int) (g : Nat → Int → Int) (zz ww : Int → Int) (hM : ML cs L f0 mo B t n k td kp pb sw g zz ww) : C0 l yX4_thrown wsX4_thrown ({ frames := 1, cells := 0, slots := 0, locals := 12 } : Room) D cs [.ref mo] L f0 (fun v L1 f1 => L = L1 ∧ f0 = f1 ∧ v = some (.int (iI t))) := by
  refine C0.of (cc := cX4_thrown) (maxL := 1) (ret := (some .int)) (by decide) rfl (Nat.le_of_ble_eq_true rfl) ?_
  intro p e s m below meth c X hr hlk hin A hA w ls hl
  have hl : lv_has ls 1 [(0, .ref mo)] := hl
  have hF : FM f0 f0 mo B := FM.rf _ _ _
  refine x_al_n X hl 0 rfl rfl dX4_thrown_0 ?_
  refine x_get X w hM.mm hM.fm fq_X4_thrown_35 rfl dX4_thrown_1 ?_
  refine x_iret X w hr hlk ⟨by decide, by decide⟩ dX4_thrown_4 ?_
  exact ⟨rfl, rfl, rfl⟩

theorem iw_X4_goesWell_X4 : ∀ w ∈ wsX40, w ∈ wsX4_goesWell := by decide +kernel
theorem fp_X4_goesWell_35 : XGn wsX4_goesWell RX4 35 4 0 (tyX4 0) := ⟨RX4, TX4, 14, tyX4, iw_X4_goesWell_X4, rfl, by decide, by decide +kernel, tyX4_ok, nmX4, rfl, by decide +kernel⟩
set_option maxHeartbeats 4000000 in
set_option maxRecDepth 100000 in
theorem c_X4_goesWell (l : Launch) (D : va_G) (cs : ClassId × ClassId × ClassId) (L : List Nat) (f0 : Nat → va_E) (mo : Nat) (B : Nat → Nat) (t n k td kp pb sw : Int) (g : Nat → Int → Int) (zz ww : Int → Int) (pl : Int) (hM : ML cs L f0 mo B t n k td kp pb sw g zz ww) (hpl : 0 ≤ pl ∧ pl ≤ 2) : C0 l yX4_goesWell wsX4_goesWell ({ frames := 1, cells := 0, slots := 0, locals := 12 } : Room) D cs [.ref mo, .int (iI pl)] L f0 (fun v L1 f1 => L = L1 ∧ FM f0 f1 mo B ∧ ML cs L1 f1 mo B pl n k td kp pb sw g zz ww ∧ ((v = some (.int (iI 1)) ∧ pl = 0) ∨ (v = some (.int (iI 0)) ∧ pl ≠ 0))) := by
  refine C0.of (cc := cX4_goesWell) (maxL := 2) (ret := (some .boolean)) (by decide) rfl (Nat.le_of_ble_eq_true rfl) ?_
  intro p e s m below meth c X hr hlk hin A hA w ls hl
  have hl : lv_has ls 2 [(0, .ref mo), (1, .int (iI pl))] := hl
  have hF : FM f0 f0 mo B := FM.rf _ _ _
  refine x_al_n X hl 0 rfl rfl dX4_goesWell_0 ?_
  refine x_il_n X hl 1 rfl rfl dX4_goesWell_1 ?_
  refine x_put X w hM.mm hM.fm fp_X4_goesWell_35 rfl rfl (Nat.le_of_ble_eq_true rfl) rfl dX4_goesWell_2 (fun H locs w => ?_)
  obtain ⟨f5, w, hM, hF⟩ : ∃ f9, XW D A s.heap L f9 H locs ∧ ML cs L f9 mo B pl n k td kp pb sw g zz ww ∧ FM f0 f9 mo B := ⟨_, w, hM.fld _ _ _ _ _ _ _, hF.m⟩
  refine x_il_n X hl 1 rfl rfl dX4_goesWell_5 ?_
  refine x_if_ne (tgt := 13) X (by omega) (by decide) dX4_goesWell_6 (fun hb6 => ?_) (fun hb6 => ?_)
  · refine x_iconst X dX4_goesWell_13 ?_
    refine x_zret X w hr hlk ⟨by decide, by decide⟩ (by omega) dX4_goesWell_14 ?_
    exact ⟨rfl, hF, hM, Or.inr ⟨rfl, by omega⟩⟩
  · refine x_iconst X dX4_goesWell_9 ?_
    refine x_goto (tgt := 14) X (by decide) dX4_goesWell_10 ?_
    refine x_zret X w hr hlk ⟨by decide, by decide⟩ (by omega) dX4_goesWell_14 ?_
    exact ⟨rfl, hF, hM, Or.inl ⟨rfl, by omega⟩⟩

theorem iw_X4_find_X4 : ∀ w ∈ wsX40, w ∈ wsX4_find := by decide +kernel
theorem fq_X4_find_42 : XF wsX4_find RX4 42 4 1 := ⟨RX4, TX4, 14, iw_X4_find_X4, rfl, by decide, by decide +kernel⟩
theorem fq_X4_find_7 : XF wsX4_find RX4 7 4 2 := ⟨RX4, TX4, 14, iw_X4_find_X4, rfl, by decide, by decide +kernel⟩
set_option maxHeartbeats 4000000 in
set_option maxRecDepth 100000 in
theorem c_X4_find (l : Launch) (D : va_G) (cs : ClassId × ClassId × ClassId) (L : List Nat) (f0 : Nat → va_E) (mo : Nat) (B : Nat → Nat) (t n k td kp pb sw : Int) (g : Nat → Int → Int) (zz ww : Int → Int) (R : Rc) (nu : Int) (hM : ML cs L f0 mo B t n k td kp pb sw g zz ww) (hg : ∀ j, 0 ≤ j → j < n → ∀ c, c < 5 → g c j = R j c) (hn : (0 ≤ n ∧ n ≤ 80) ∧ 0 ≤ nu ∧ nu ≤ 999) (hR0 : ∀ j, 0 ≤ j → j < n → 0 ≤ R j 0 ∧ R j 0 ≤ 999) (hso : so R n) : C0 l yX4_find wsX4_find ({ frames := 1, cells := 0, slots := 0, locals := 12 } : Room) D cs [.ref mo, .int (iI nu)] L f0 (fun v L1 f1 => L = L1 ∧ f0 = f1 ∧ v = some (.int (iI (fd R n nu)))) := by
  refine C0.of (cc := cX4_find) (maxL := 3) (ret := (some .int)) (by decide) rfl (Nat.le_of_ble_eq_true rfl) ?_
  intro p e s m below meth c X hr hlk hin A hA w ls hl
  have hl : lv_has ls 3 [(0, .ref mo), (1, .int (iI nu))] := hl
  have hF : FM f0 f0 mo B := FM.rf _ _ _
  refine x_iconst X dX4_find_0 ?_
  refine x_is_n (lv' := [(2, .int (iI 0)), (0, .ref mo), (1, .int (iI nu))]) X hl rfl (by decide) rfl dX4_find_1 (fun ls hl => ?_)
  have loop2 : ∀ (N9 : Nat) (i : Int) (H : Heap) (locs : List Loc) (ls : Array Slot), (n - i).toNat < N9 → (0 ≤ i ∧ i ≤ n) → (∀ j, 0 ≤ j → j < i → R j 0 ≠ nu) → XW D A s.heap L f0 H locs → lv_has ls 3 [(0, .ref mo), (1, .int (iI nu)), (2, .int (iI i))] → W p l e ({ frames := 1, cells := 0, slots := 0, locals := 12 } : Room) s m ([.ref mo, .int (iI nu)] : List Value).toArray below meth c H locs 0 0 (MQ below (CQ D cs A (fun v L1 f1 => L = L1 ∧ f0 = f1 ∧ v = some (.int (iI (fd R n nu))))) ([.ref mo, .int (iI nu)] : List Value).toArray s 0 0 A) (F0 m 2 ls []) := by
    intro N9
    induction N9 with
    | zero => intro i H locs ls h9; exact absurd h9 (Nat.not_lt_zero _)
    | succ N9 ih2 =>
      intro i H locs ls h9 hi hj w hl
      refine x_il_n X hl 2 rfl rfl dX4_find_2 ?_
      refine x_al_n X hl 0 rfl rfl dX4_find_3 ?_
      refine x_get X w hM.mm hM.fm fq_X4_find_42 rfl dX4_find_4 ?_
      refine x_icmp_ge (tgt := 28) X (by omega) (by decide) dX4_find_7 (fun hb7 => ?_) (fun hb7 => ?_)
      · refine x_iconst X dX4_find_28 ?_
        refine x_iret X w hr hlk ⟨by decide, by decide⟩ dX4_find_29 ?_
        have he9 : fd R n nu = -1 := fd_no (fun j h1 h2 => hj j h1 (by omega))
        exact ⟨rfl, rfl, by rw [he9]⟩
      · refine x_al_n X hl 0 rfl rfl dX4_find_10 ?_
        refine x_get X w hM.mm hM.fm fq_X4_find_7 rfl dX4_find_11 ?_
        refine x_il_n X hl 2 rfl rfl dX4_find_14 ?_
        refine x_ialdv (v := R i 0) X w hM.m2 hM.f2 (by omega) (hg i (by omega) (by omega) 0 (by decide)) dX4_find_15 ?_
        refine x_il_n X hl 1 rfl rfl dX4_find_16 ?_
        have hq0 := hR0 i (by omega) (by omega)
        refine x_icmp_ne (tgt := 22) X (by omega) (by decide) dX4_find_17 (fun hb17 => ?_) (fun hb17 => ?_)
        · refine x_iinc (lv' := [(2, .int (iI (i + 1))), (0, .ref mo), (1, .int (iI nu))]) X hl 2 rfl (by decide) rfl dX4_find_22 (fun ls hl => ?_)
          refine x_goto (tgt := 2) X (by decide) dX4_find_25 ?_
          refine ih2 (i + 1) _ _ _ (by omega) (by omega) ?_ w (lv_sub hl [1, 2, 0] rfl)
          · intro j h1 h2
            by_cases h3 : j = i
            · subst h3; exact hb17
            · exact hj j h1 (by omega)
        · refine x_il_n X hl 2 rfl rfl dX4_find_20 ?_
          refine x_iret X w hr hlk ⟨by decide, by decide⟩ dX4_find_21 ?_
          have he9 : fd R n nu = i := fd_eq hso ⟨by omega, by omega, hb17⟩
          exact ⟨rfl, rfl, by rw [he9]⟩
  refine loop2 _ 0 _ _ _ (Nat.lt_succ_self _) (by omega) (fun j h1 h2 => absurd h2 (by omega)) w (lv_sub hl [1, 2, 0] rfl)

theorem iw_X4_beginOf_X4 : ∀ w ∈ wsX40, w ∈ wsX4_beginOf := by decide +kernel
theorem fq_X4_beginOf_25 : XF wsX4_beginOf RX4 25 4 8 := ⟨RX4, TX4, 14, iw_X4_beginOf_X4, rfl, by decide, by decide +kernel⟩
set_option maxHeartbeats 4000000 in
set_option maxRecDepth 100000 in
theorem c_X4_beginOf (l : Launch) (D : va_G) (cs : ClassId × ClassId × ClassId) (L : List Nat) (f0 : Nat → va_E) (mo : Nat) (B : Nat → Nat) (t n k td kp pb sw : Int) (g : Nat → Int → Int) (zz ww : Int → Int) (z : Int → Int) (pg : Int) (hM : ML cs L f0 mo B t n k td kp pb sw g zz ww) (hz : ∀ j, 0 ≤ j → j < k → zz j = z j) (hpg : (0 ≤ k ∧ k ≤ 80) ∧ 0 ≤ pg ∧ pg ≤ k) : C0 l yX4_beginOf wsX4_beginOf ({ frames := 1, cells := 0, slots := 0, locals := 12 } : Room) D cs [.ref mo, .int (iI pg)] L f0 (fun v L1 f1 => L = L1 ∧ f0 = f1 ∧ v = some (.int (iI (sm z pg)))) := by
  refine C0.of (cc := cX4_beginOf) (maxL := 4) (ret := (some .int)) (by decide) rfl (Nat.le_of_ble_eq_true rfl) ?_
  intro p e s m below meth c X hr hlk hin A hA w ls hl
  have hl : lv_has ls 4 [(0, .ref mo), (1, .int (iI pg))] := hl
  have hF : FM f0 f0 mo B := FM.rf _ _ _
  refine x_iconst X dX4_beginOf_0 ?_
  refine x_is_n (lv' := [(2, .int (iI 0)), (0, .ref mo), (1, .int (iI pg))]) X hl rfl (by decide) rfl dX4_beginOf_1 (fun ls hl => ?_)
  refine x_iconst X dX4_beginOf_2 ?_
  refine x_is_n (lv' := [(3, .int (iI 0)), (2, .int (iI 0)), (0, .ref mo), (1, .int (iI pg))]) X hl rfl (by decide) rfl dX4_beginOf_3 (fun ls hl => ?_)
  have loop4 : ∀ (N9 : Nat) (i : Int) (H : Heap) (locs : List Loc) (ls : Array Slot), (pg - i).toNat < N9 → (0 ≤ i ∧ i ≤ pg) → XW D A s.heap L f0 H locs → lv_has ls 4 [(0, .ref mo), (1, .int (iI pg)), (2, .int (iI (sm z i))), (3, .int (iI i))] → W p l e ({ frames := 1, cells := 0, slots := 0, locals := 12 } : Room) s m ([.ref mo, .int (iI pg)] : List Value).toArray below meth c H locs 0 0 (MQ below (CQ D cs A (fun v L1 f1 => L = L1 ∧ f0 = f1 ∧ v = some (.int (iI (sm z pg))))) ([.ref mo, .int (iI pg)] : List Value).toArray s 0 0 A) (F0 m 4 ls []) := by
    intro N9
    induction N9 with
    | zero => intro i H locs ls h9; exact absurd h9 (Nat.not_lt_zero _)
    | succ N9 ih4 =>
      intro i H locs ls h9 hi w hl
      refine x_il_n X hl 3 rfl rfl dX4_beginOf_4 ?_
      refine x_il_n X hl 1 rfl rfl dX4_beginOf_5 ?_
      refine x_icmp_ge (tgt := 24) X (by omega) (by decide) dX4_beginOf_6 (fun hb6 => ?_) (fun hb6 => ?_)
      · refine x_il_n X hl 2 rfl rfl dX4_beginOf_24 ?_
        refine x_iret X w hr hlk ⟨by decide, by decide⟩ dX4_beginOf_25 ?_
        have he9 : i = pg := by omega
        subst he9
        exact ⟨rfl, rfl, rfl⟩
      · refine x_il_n X hl 2 rfl rfl dX4_beginOf_9 ?_
        refine x_al_n X hl 0 rfl rfl dX4_beginOf_10 ?_
        refine x_get X w hM.mm hM.fm fq_X4_beginOf_25 rfl dX4_beginOf_11 ?_
        refine x_il_n X hl 3 rfl rfl dX4_beginOf_14 ?_
        refine x_ialdv (v := z i) X w hM.m8 hM.f8 (by omega) (hz i (by omega) (by omega)) dX4_beginOf_15 ?_
        refine x_iadd X dX4_beginOf_16 ?_
        refine x_is_n (lv' := [(2, .int (iI ((sm z i) + (z i)))), (0, .ref mo), (1, .int (iI pg)), (3, .int (iI i))]) X hl rfl (by decide) rfl dX4_beginOf_17 (fun ls hl => ?_)
        rw [show (sm z i) + (z i) = sm z (i + 1) from (sm_s z (by omega)).symm] at hl
        refine x_iinc (lv' := [(3, .int (iI (i + 1))), (2, .int (iI (sm z (i + 1)))), (0, .ref mo), (1, .int (iI pg))]) X hl 3 rfl (by decide) rfl dX4_beginOf_18 (fun ls hl => ?_)
        refine x_goto (tgt := 4) X (by decide) dX4_beginOf_21 ?_
        refine ih4 (i + 1) _ _ _ (by omega) (by omega) w (lv_sub hl [2, 3, 1, 0] rfl)
  refine loop4 _ 0 _ _ _ (Nat.lt_succ_self _) (by omega) w (lv_sub hl [2, 3, 1, 0] rfl)

theorem iw_X4_pageAt_X4 : ∀ w ∈ wsX40, w ∈ wsX4_pageAt := by decide +kernel
theorem fq_X4_pageAt_25 : XF wsX4_pageAt RX4 25 4 8 := ⟨RX4, TX4, 14, iw_X4_pageAt_X4, rfl, by decide, by decide +kernel⟩
set_option maxHeartbeats 4000000 in
set_option maxRecDepth 100000 in
theorem c_X4_pageAt (l : Launch) (D : va_G) (cs : ClassId × ClassId × ClassId) (L : List Nat) (f0 : Nat → va_E) (mo : Nat) (B : Nat → Nat) (t n k td kp pb sw : Int) (g : Nat → Int → Int) (zz ww : Int → Int) (z : Int → Int) (pl : Int) (hM : ML cs L f0 mo B t n k td kp pb sw g zz ww) (hz : ∀ j, 0 ≤ j → j < k → zz j = z j) (hpl : (0 ≤ k ∧ k ≤ 80) ∧ 0 ≤ pl ∧ pl < sm z k) (hz4 : ∀ j, 0 ≤ j → j < k → 0 ≤ z j ∧ z j ≤ 4) : C0 l yX4_pageAt wsX4_pageAt ({ frames := 1, cells := 0, slots := 0, locals := 12 } : Room) D cs [.ref mo, .int (iI pl)] L f0 (fun v L1 f1 => L = L1 ∧ f0 = f1 ∧ v = some (.int (iI (pw z k pl)))) := by
  refine C0.of (cc := cX4_pageAt) (maxL := 4) (ret := (some .int)) (by decide) rfl (Nat.le_of_ble_eq_true rfl) ?_
  intro p e s m below meth c X hr hlk hin A hA w ls hl
  have hl : lv_has ls 4 [(0, .ref mo), (1, .int (iI pl))] := hl
  have hF : FM f0 f0 mo B := FM.rf _ _ _
  have hk0 : 0 < k := by
    by_cases h9 : k = 0
    · rw [h9, sm_0] at hpl; omega
    · omega
  have hsk := sm_b hz4 (p := k) (by omega)
  refine x_iconst X dX4_pageAt_0 ?_
  refine x_is_n (lv' := [(2, .int (iI 0)), (0, .ref mo), (1, .int (iI pl))]) X hl rfl (by decide) rfl dX4_pageAt_1 (fun ls hl => ?_)
  refine x_al_n X hl 1 rfl rfl dX4_pageAt_2 ?_
  refine x_get X w hM.mm hM.fm fq_X4_pageAt_25 rfl dX4_pageAt_3 ?_
  refine x_iconst X dX4_pageAt_6 ?_
  refine x_ialdv (v := z 0) X w hM.m8 hM.f8 (by omega) (hz 0 (by omega) (by omega)) dX4_pageAt_7 ?_
  refine x_is_n (lv' := [(3, .int (iI (z 0))), (2, .int (iI 0)), (0, .ref mo), (1, .int (iI pl))]) X hl rfl (by decide) rfl dX4_pageAt_8 (fun ls hl => ?_)
  have loop9 : ∀ (N9 : Nat) (i : Int) (H : Heap) (locs : List Loc) (ls : Array Slot), (k - i).toNat < N9 → (0 ≤ i ∧ i < k) → (∀ j, 0 ≤ j → j < i → sm z (j + 1) ≤ pl) → XW D A s.heap L f0 H locs → lv_has ls 4 [(0, .ref mo), (1, .int (iI pl)), (2, .int (iI i)), (3, .int (iI (sm z (i + 1))))] → W p l e ({ frames := 1, cells := 0, slots := 0, locals := 12 } : Room) s m ([.ref mo, .int (iI pl)] : List Value).toArray below meth c H locs 0 0 (MQ below (CQ D cs A (fun v L1 f1 => L = L1 ∧ f0 = f1 ∧ v = some (.int (iI (pw z k pl))))) ([.ref mo, .int (iI pl)] : List Value).toArray s 0 0 A) (F0 m 9 ls []) := by
    intro N9
    induction N9 with
    | zero => intro i H locs ls h9; exact absurd h9 (Nat.not_lt_zero _)
    | succ N9 ih9 =>
      intro i H locs ls h9 hi hj w hl
      refine x_il_n X hl 3 rfl rfl dX4_pageAt_9 ?_
      have hsb := sm_b hz4 (p := i + 1) (by omega)
      refine x_il_n X hl 1 rfl rfl dX4_pageAt_10 ?_
      refine x_icmp_gt (tgt := 29) X (by omega) (by decide) dX4_pageAt_11 (fun hb11 => ?_) (fun hb11 => ?_)
      · refine x_il_n X hl 2 rfl rfl dX4_pageAt_29 ?_
        refine x_iret X w hr hlk ⟨by decide, by decide⟩ dX4_pageAt_30 ?_
        have he9 : pw z k pl = i := pw_eq ⟨by omega, by omega, by omega, by omega, hj⟩
        exact ⟨rfl, rfl, by rw [he9]⟩
      · have hik : i + 1 < k := by
          by_cases h9 : i + 1 = k
          · rw [h9] at hb11; omega
          · omega
        refine x_iinc (lv' := [(2, .int (iI (i + 1))), (0, .ref mo), (1, .int (iI pl)), (3, .int (iI (sm z (i + 1))))]) X hl 2 rfl (by decide) rfl dX4_pageAt_14 (fun ls hl => ?_)
        refine x_il_n X hl 3 rfl rfl dX4_pageAt_17 ?_
        refine x_al_n X hl 1 rfl rfl dX4_pageAt_18 ?_
        refine x_get X w hM.mm hM.fm fq_X4_pageAt_25 rfl dX4_pageAt_19 ?_
        refine x_il_n X hl 0 rfl rfl dX4_pageAt_22 ?_
        refine x_ialdv (v := z (i + 1)) X w hM.m8 hM.f8 (by omega) (hz (i + 1) (by omega) (by omega)) dX4_pageAt_23 ?_
        refine x_iadd X dX4_pageAt_24 ?_
        refine x_is_n (lv' := [(3, .int (iI ((sm z (i + 1)) + (z (i + 1))))), (2, .int (iI (i + 1))), (0, .ref mo), (1, .int (iI pl))]) X hl rfl (by decide) rfl dX4_pageAt_25 (fun ls hl => ?_)
        refine x_goto (tgt := 9) X (by decide) dX4_pageAt_26 ?_
        rw [show (sm z (i + 1)) + (z (i + 1)) = sm z (i + 1 + 1) from (sm_s z (by omega)).symm] at hl
        refine ih9 (i + 1) _ _ _ (by omega) (by omega) ?_ w (lv_sub hl [2, 3, 1, 0] rfl)
        · intro j h1 h2
          by_cases h3 : j = i
          · subst h3; exact hb11
          · exact hj j h1 (by omega)
  rw [show z 0 = sm z (0 + 1) from by rw [sm_s z (by omega), sm_0]; omega] at hl
  refine loop9 _ 0 _ _ _ (Nat.lt_succ_self _) (by omega) (fun j h1 h2 => absurd h2 (by omega)) w (lv_sub hl [2, 3, 1, 0] rfl)

theorem iw_X4_dropPage_X4 : ∀ w ∈ wsX40, w ∈ wsX4_dropPage := by decide +kernel
theorem fq_X4_dropPage_45 : XF wsX4_dropPage RX4 45 4 7 := ⟨RX4, TX4, 14, iw_X4_dropPage_X4, rfl, by decide, by decide +kernel⟩
theorem fp_X4_dropPage_45 : XGn wsX4_dropPage RX4 45 4 7 (tyX4 7) := ⟨RX4, TX4, 14, tyX4, iw_X4_dropPage_X4, rfl, by decide, by decide +kernel, tyX4_ok, nmX4, rfl, by decide +kernel⟩
theorem fq_X4_dropPage_25 : XF wsX4_dropPage RX4 25 4 8 := ⟨RX4, TX4, 14, iw_X4_dropPage_X4, rfl, by decide, by decide +kernel⟩
set_option maxHeartbeats 4000000 in
set_option maxRecDepth 100000 in
theorem c_X4_dropPage (l : Launch) (D : va_G) (cs : ClassId × ClassId × ClassId) (L : List Nat) (f0 : Nat → va_E) (mo : Nat) (B : Nat → Nat) (t n k td kp pb sw : Int) (g : Nat → Int → Int) (zz ww : Int → Int) (z : Int → Int) (pg : Int) (hM : ML cs L f0 mo B t n k td kp pb sw g zz ww) (hz : ∀ j, 0 ≤ j → j < k → zz j = z j) (hpg : (0 ≤ k ∧ k ≤ 80) ∧ 0 ≤ pg ∧ pg < k) : C0 l yX4_dropPage wsX4_dropPage ({ frames := 1, cells := 0, slots := 0, locals := 12 } : Room) D cs [.ref mo, .int (iI pg)] L f0 (fun v L1 f1 => v = none ∧ L = L1 ∧ FM f0 f1 mo B ∧ ∃ z1, ML cs L1 f1 mo B t n (k - 1) td kp pb sw g z1 ww ∧ ∀ j, 0 ≤ j → j < k - 1 → z1 j = del z pg j) := by
  refine C0.of (cc := cX4_dropPage) (maxL := 3) (ret := none) (by decide) rfl (Nat.le_of_ble_eq_true rfl) ?_
  intro p e s m below meth c X hr hlk hin A hA w ls hl
  have hl : lv_has ls 3 [(0, .ref mo), (1, .int (iI pg))] := hl
  have hF : FM f0 f0 mo B := FM.rf _ _ _
  refine x_al_n X hl 0 rfl rfl dX4_dropPage_0 ?_
  refine x_dup X rfl dX4_dropPage_1 ?_
  refine x_get X w hM.mm hM.fm fq_X4_dropPage_45 rfl dX4_dropPage_2 ?_
  refine x_iconst X dX4_dropPage_5 ?_
  refine x_isub X dX4_dropPage_6 ?_
  refine x_put X w hM.mm hM.fm fp_X4_dropPage_45 rfl rfl (Nat.le_of_ble_eq_true rfl) rfl dX4_dropPage_7 (fun H locs w => ?_)
  obtain ⟨f10, w, hM, hF⟩ : ∃ f9, XW D A s.heap L f9 H locs ∧ ML cs L f9 mo B t n (k - 1) td kp pb sw g zz ww ∧ FM f0 f9 mo B := ⟨_, w, hM.fld _ _ _ _ _ _ _, hF.m⟩
  refine x_il_n X hl 1 rfl rfl dX4_dropPage_10 ?_
  refine x_is_n (lv' := [(2, .int (iI pg)), (0, .ref mo), (1, .int (iI pg))]) X hl rfl (by decide) rfl dX4_dropPage_11 (fun ls hl => ?_)
  have loop12 : ∀ (N9 : Nat) (i : Int) (f1 : Nat → va_E) (z1 : Int → Int) (H : Heap) (locs : List Loc) (ls : Array Slot), (k - i).toNat < N9 → (pg ≤ i ∧ (i ≤ k - 1)) → (ML cs L f1 mo B t n (k - 1) td kp pb sw g z1 ww) → (FM f0 f1 mo B) → (∀ j, i ≤ j → z1 j = zz j) → (∀ j, j < i → z1 j = del zz pg j) → XW D A s.heap L f1 H locs → lv_has ls 3 [(0, .ref mo), (1, .int (iI pg)), (2, .int (iI i))] → W p l e ({ frames := 1, cells := 0, slots := 0, locals := 12 } : Room) s m ([.ref mo, .int (iI pg)] : List Value).toArray below meth c H locs 0 0 (MQ below (CQ D cs A (fun v L1 f1 => v = none ∧ L = L1 ∧ FM f0 f1 mo B ∧ ∃ z1, ML cs L1 f1 mo B t n (k - 1) td kp pb sw g z1 ww ∧ ∀ j, 0 ≤ j → j < k - 1 → z1 j = del z pg j)) ([.ref mo, .int (iI pg)] : List Value).toArray s 0 0 A) (F0 m 12 ls []) := by
    intro N9
    induction N9 with
    | zero => intro i f1 z1 H locs ls h9; exact absurd h9 (Nat.not_lt_zero _)
    | succ N9 ih12 =>
      intro i f1 z1 H locs ls h9 hi hM hF h1 h2 w hl
      refine x_il_n X hl 2 rfl rfl dX4_dropPage_12 ?_
      refine x_al_n X hl 0 rfl rfl dX4_dropPage_13 ?_
      refine x_get X w hM.mm hM.fm fq_X4_dropPage_45 rfl dX4_dropPage_14 ?_
      refine x_icmp_ge (tgt := 40) X (by omega) (by decide) dX4_dropPage_17 (fun hb17 => ?_) (fun hb17 => ?_)
      · refine x_vret X w hr hlk ⟨by decide, by decide⟩ dX4_dropPage_40 ?_
        exact ⟨rfl, rfl, hF, _, hM, fun j h8 h9 => (h2 j (by omega)).trans (ag_d hz h8 h9)⟩
      · refine x_al_n X hl 0 rfl rfl dX4_dropPage_20 ?_
        refine x_get X w hM.mm hM.fm fq_X4_dropPage_25 rfl dX4_dropPage_21 ?_
        refine x_il_n X hl 2 rfl rfl dX4_dropPage_24 ?_
        refine x_al_n X hl 0 rfl rfl dX4_dropPage_25 ?_
        refine x_get X w hM.mm hM.fm fq_X4_dropPage_25 rfl dX4_dropPage_26 ?_
        refine x_il_n X hl 2 rfl rfl dX4_dropPage_29 ?_
        refine x_iconst X dX4_dropPage_30 ?_
        refine x_iadd X dX4_dropPage_31 ?_
        refine x_ialdv (v := z1 (i + 1)) X w hM.m8 hM.f8 (by omega) (rfl) dX4_dropPage_32 ?_
        refine x_iast X w hM.m8 hM.f8 (by omega) dX4_dropPage_33 (fun H locs w => ?_)
        obtain ⟨f34, zz34, w, hM, hF, hz34⟩ : ∃ f9 z9, XW D A s.heap L f9 H locs ∧ ML cs L f9 mo B t n (k - 1) td kp pb sw g z9 ww ∧ FM f0 f9 mo B ∧ z9 = uI z1 i (z1 (i + 1)) := ⟨_, _, w, hM.zw, hF.a 8, rfl⟩
        refine x_iinc (lv' := [(2, .int (iI (i + 1))), (0, .ref mo), (1, .int (iI pg))]) X hl 2 rfl (by decide) rfl dX4_dropPage_34 (fun ls hl => ?_)
        refine x_goto (tgt := 12) X (by decide) dX4_dropPage_37 ?_
        refine ih12 (i + 1) f34 zz34 _ _ _ (by omega) (by omega) hM hF ?_ ?_ w (lv_sub hl [1, 2, 0] rfl)
        · intro j h8
          subst hz34
          rw [uI_n _ _ (by omega)]; exact h1 j (by omega)
        · intro j h8
          subst hz34
          by_cases h7 : j = i
          · subst h7; rw [uI_s]; show _ = (if j < pg then zz j else zz (j + 1)); rw [if_neg (by omega)]; exact h1 _ (by omega)
          · rw [uI_n _ _ h7]; exact h2 j (by omega)
  refine loop12 _ pg f10 zz _ _ _ (Nat.lt_succ_self _) (by omega) hM hF (fun _ _ => rfl) (fun j h8 => (if_pos h8).symm) w (lv_sub hl [1, 2, 0] rfl)

theorem iw_X4_split_X4 : ∀ w ∈ wsX40, w ∈ wsX4_split := by decide +kernel
theorem fq_X4_split_45 : XF wsX4_split RX4 45 4 7 := ⟨RX4, TX4, 14, iw_X4_split_X4, rfl, by decide, by decide +kernel⟩
theorem fp_X4_split_45 : XGn wsX4_split RX4 45 4 7 (tyX4 7) := ⟨RX4, TX4, 14, tyX4, iw_X4_split_X4, rfl, by decide, by decide +kernel, tyX4_ok, nmX4, rfl, by decide +kernel⟩
theorem fq_X4_split_25 : XF wsX4_split RX4 25 4 8 := ⟨RX4, TX4, 14, iw_X4_split_X4, rfl, by decide, by decide +kernel⟩
set_option maxHeartbeats 4000000 in
set_option maxRecDepth 100000 in
theorem c_X4_split (l : Launch) (D : va_G) (cs : ClassId × ClassId × ClassId) (L : List Nat) (f0 : Nat → va_E) (mo : Nat) (B : Nat → Nat) (t n k td kp pb sw : Int) (g : Nat → Int → Int) (zz ww : Int → Int) (z : Int → Int) (pg : Int) (hM : ML cs L f0 mo B t n k td kp pb sw g zz ww) (hz : ∀ j, 0 ≤ j → j < k → zz j = z j) (hpg : (0 ≤ k ∧ k < 80) ∧ 0 ≤ pg ∧ pg < k) : C0 l yX4_split wsX4_split ({ frames := 1, cells := 0, slots := 0, locals := 12 } : Room) D cs [.ref mo, .int (iI pg)] L f0 (fun v L1 f1 => v = none ∧ L = L1 ∧ FM f0 f1 mo B ∧ ∃ z1, ML cs L1 f1 mo B t n (k + 1) td kp pb sw g z1 ww ∧ ∀ j, 0 ≤ j → j < k + 1 → z1 j = uI (ins z (pg + 1) 2) pg 2 j) := by
  refine C0.of (cc := cX4_split) (maxL := 3) (ret := none) (by decide) rfl (Nat.le_of_ble_eq_true rfl) ?_
  intro p e s m below meth c X hr hlk hin A hA w ls hl
  have hl : lv_has ls 3 [(0, .ref mo), (1, .int (iI pg))] := hl
  have hF : FM f0 f0 mo B := FM.rf _ _ _
  refine x_al_n X hl 0 rfl rfl dX4_split_0 ?_
  refine x_get X w hM.mm hM.fm fq_X4_split_45 rfl dX4_split_1 ?_
  refine x_is_n (lv' := [(2, .int (iI k)), (0, .ref mo), (1, .int (iI pg))]) X hl rfl (by decide) rfl dX4_split_4 (fun ls hl => ?_)
  have loop5 : ∀ (N9 : Nat) (i : Int) (f1 : Nat → va_E) (z1 : Int → Int) (H : Heap) (locs : List Loc) (ls : Array Slot), (i - pg).toNat < N9 → (pg + 1 ≤ i ∧ i ≤ k) → (ML cs L f1 mo B t n k td kp pb sw g z1 ww) → (FM f0 f1 mo B) → (∀ j, j ≤ i → z1 j = zz j) → (∀ j, i < j → j ≤ k → z1 j = zz (j - 1)) → XW D A s.heap L f1 H locs → lv_has ls 3 [(0, .ref mo), (1, .int (iI pg)), (2, .int (iI i))] → W p l e ({ frames := 1, cells := 0, slots := 0, locals := 12 } : Room) s m ([.ref mo, .int (iI pg)] : List Value).toArray below meth c H locs 0 0 (MQ below (CQ D cs A (fun v L1 f1 => v = none ∧ L = L1 ∧ FM f0 f1 mo B ∧ ∃ z1, ML cs L1 f1 mo B t n (k + 1) td kp pb sw g z1 ww ∧ ∀ j, 0 ≤ j → j < k + 1 → z1 j = uI (ins z (pg + 1) 2) pg 2 j)) ([.ref mo, .int (iI pg)] : List Value).toArray s 0 0 A) (F0 m 5 ls []) := by
    intro N9
    induction N9 with
    | zero => intro i f1 z1 H locs ls h9; exact absurd h9 (Nat.not_lt_zero _)
    | succ N9 ih5 =>
      intro i f1 z1 H locs ls h9 hi hM hF h1 h2 w hl
      refine x_il_n X hl 2 rfl rfl dX4_split_5 ?_
      refine x_il_n X hl 1 rfl rfl dX4_split_6 ?_
      refine x_iconst X dX4_split_7 ?_
      refine x_iadd X dX4_split_8 ?_
      refine x_icmp_le (tgt := 32) X (by omega) (by decide) dX4_split_9 (fun hb9 => ?_) (fun hb9 => ?_)
      · refine x_al_n X hl 0 rfl rfl dX4_split_32 ?_
        refine x_dup X rfl dX4_split_33 ?_
        refine x_get X w hM.mm hM.fm fq_X4_split_45 rfl dX4_split_34 ?_
        refine x_iconst X dX4_split_37 ?_
        refine x_iadd X dX4_split_38 ?_
        refine x_put X w hM.mm hM.fm fp_X4_split_45 rfl rfl (Nat.le_of_ble_eq_true rfl) rfl dX4_split_39 (fun H locs w => ?_)
        obtain ⟨f42, w, hM, hF⟩ : ∃ f9, XW D A s.heap L f9 H locs ∧ ML cs L f9 mo B t n (k + 1) td kp pb sw g z1 ww ∧ FM f0 f9 mo B := ⟨_, w, hM.fld _ _ _ _ _ _ _, hF.m⟩
        refine x_al_n X hl 0 rfl rfl dX4_split_42 ?_
        refine x_get X w hM.mm hM.fm fq_X4_split_25 rfl dX4_split_43 ?_
        refine x_il_n X hl 1 rfl rfl dX4_split_46 ?_
        refine x_iconst X dX4_split_47 ?_
        refine x_iast X w hM.m8 hM.f8 (by omega) dX4_split_48 (fun H locs w => ?_)
        obtain ⟨f49, zz49, w, hM, hF, hz49⟩ : ∃ f9 z9, XW D A s.heap L f9 H locs ∧ ML cs L f9 mo B t n (k + 1) td kp pb sw g z9 ww ∧ FM f0 f9 mo B ∧ z9 = uI z1 pg 2 := ⟨_, _, w, hM.zw, hF.a 8, rfl⟩
        refine x_al_n X hl 0 rfl rfl dX4_split_49 ?_
        refine x_get X w hM.mm hM.fm fq_X4_split_25 rfl dX4_split_50 ?_
        refine x_il_n X hl 1 rfl rfl dX4_split_53 ?_
        refine x_iconst X dX4_split_54 ?_
        refine x_iadd X dX4_split_55 ?_
        refine x_iconst X dX4_split_56 ?_
        refine x_iast X w hM.m8 hM.f8 (by omega) dX4_split_57 (fun H locs w => ?_)
        obtain ⟨f58, zz58, w, hM, hF, hz58⟩ : ∃ f9 z9, XW D A s.heap L f9 H locs ∧ ML cs L f9 mo B t n (k + 1) td kp pb sw g z9 ww ∧ FM f0 f9 mo B ∧ z9 = uI zz49 (pg + 1) 2 := ⟨_, _, w, hM.zw, hF.a 8, rfl⟩
        refine x_vret X w hr hlk ⟨by decide, by decide⟩ dX4_split_58 ?_
        have he9 : i = pg + 1 := by omega
        subst he9
        exact ⟨rfl, rfl, hF, _, hM, fun j h8 h9 => sp_2 (by omega) hz h1 h2 hz49 hz58 h8 h9⟩
      · refine x_al_n X hl 0 rfl rfl dX4_split_12 ?_
        refine x_get X w hM.mm hM.fm fq_X4_split_25 rfl dX4_split_13 ?_
        refine x_il_n X hl 2 rfl rfl dX4_split_16 ?_
        refine x_al_n X hl 0 rfl rfl dX4_split_17 ?_
        refine x_get X w hM.mm hM.fm fq_X4_split_25 rfl dX4_split_18 ?_
        refine x_il_n X hl 2 rfl rfl dX4_split_21 ?_
        refine x_iconst X dX4_split_22 ?_
        refine x_isub X dX4_split_23 ?_
        refine x_ialdv (v := z1 (i - 1)) X w hM.m8 hM.f8 (by omega) (rfl) dX4_split_24 ?_
        refine x_iast X w hM.m8 hM.f8 (by omega) dX4_split_25 (fun H locs w => ?_)
        obtain ⟨f26, zz26, w, hM, hF, hz26⟩ : ∃ f9 z9, XW D A s.heap L f9 H locs ∧ ML cs L f9 mo B t n k td kp pb sw g z9 ww ∧ FM f0 f9 mo B ∧ z9 = uI z1 i (z1 (i - 1)) := ⟨_, _, w, hM.zw, hF.a 8, rfl⟩
        refine x_iinc (lv' := [(2, .int (iI (i + (-1)))), (0, .ref mo), (1, .int (iI pg))]) X hl 2 rfl (by decide) rfl dX4_split_26 (fun ls hl => ?_)
        refine x_goto (tgt := 5) X (by decide) dX4_split_29 ?_
        refine ih5 (i + (-1)) f26 zz26 _ _ _ (by omega) (by omega) hM hF ?_ ?_ w (lv_sub hl [1, 2, 0] rfl)
        · intro j h8
          subst hz26
          rw [uI_n _ _ (by omega)]; exact h1 j (by omega)
        · intro j h8 h9
          subst hz26
          by_cases h7 : j = i
          · subst h7; rw [uI_s]; exact h1 _ (by omega)
          · rw [uI_n _ _ h7]; exact h2 j (by omega) h9
  refine loop5 _ k f0 zz _ _ _ (Nat.lt_succ_self _) (by omega) hM hF (fun _ _ => rfl) (fun j h8 h9 => absurd h9 (by omega)) w (lv_sub hl [1, 2, 0] rfl)

theorem iw_X4_copy_X4 : ∀ w ∈ wsX40, w ∈ wsX4_copy := by decide +kernel
theorem fq_X4_copy_7 : XF wsX4_copy RX4 7 4 2 := ⟨RX4, TX4, 14, iw_X4_copy_X4, rfl, by decide, by decide +kernel⟩
theorem fq_X4_copy_13 : XF wsX4_copy RX4 13 4 3 := ⟨RX4, TX4, 14, iw_X4_copy_X4, rfl, by decide, by decide +kernel⟩
theorem fq_X4_copy_16 : XF wsX4_copy RX4 16 4 4 := ⟨RX4, TX4, 14, iw_X4_copy_X4, rfl, by decide, by decide +kernel⟩
theorem fq_X4_copy_19 : XF wsX4_copy RX4 19 4 5 := ⟨RX4, TX4, 14, iw_X4_copy_X4, rfl, by decide, by decide +kernel⟩
theorem fq_X4_copy_22 : XF wsX4_copy RX4 22 4 6 := ⟨RX4, TX4, 14, iw_X4_copy_X4, rfl, by decide, by decide +kernel⟩
set_option maxHeartbeats 4000000 in
set_option maxRecDepth 100000 in
theorem c_X4_copy (l : Launch) (D : va_G) (cs : ClassId × ClassId × ClassId) (L : List Nat) (f0 : Nat → va_E) (mo : Nat) (B : Nat → Nat) (t n k td kp pb sw : Int) (g : Nat → Int → Int) (zz ww : Int → Int) (fr to : Int) (hM : ML cs L f0 mo B t n k td kp pb sw g zz ww) (hpl : (0 ≤ fr ∧ fr < 80) ∧ 0 ≤ to ∧ to < 80) : C0 l yX4_copy wsX4_copy ({ frames := 1, cells := 0, slots := 0, locals := 12 } : Room) D cs [.ref mo, .int (iI fr), .int (iI to)] L f0 (fun v L1 f1 => v = none ∧ L = L1 ∧ FM f0 f1 mo B ∧ ∃ g1, ML cs L1 f1 mo B t n k td kp pb sw g1 zz ww ∧ ∀ c, c < 5 → g1 c = uI (g c) to (g c fr)) := by
  refine C0.of (cc := cX4_copy) (maxL := 3) (ret := none) (by decide) rfl (Nat.le_of_ble_eq_true rfl) ?_
  intro p e s m below meth c X hr hlk hin A hA w ls hl
  have hl : lv_has ls 3 [(0, .ref mo), (1, .int (iI fr)), (2, .int (iI to))] := hl
  have hF : FM f0 f0 mo B := FM.rf _ _ _
  refine x_al_n X hl 0 rfl rfl dX4_copy_0 ?_
  refine x_get X w hM.mm hM.fm fq_X4_copy_7 rfl dX4_copy_1 ?_
  refine x_il_n X hl 2 rfl rfl dX4_copy_4 ?_
  refine x_al_n X hl 0 rfl rfl dX4_copy_5 ?_
  refine x_get X w hM.mm hM.fm fq_X4_copy_7 rfl dX4_copy_6 ?_
  refine x_il_n X hl 1 rfl rfl dX4_copy_9 ?_
  refine x_ialdv (v := g 0 fr) X w hM.m2 hM.f2 (by omega) (rfl) dX4_copy_10 ?_
  refine x_iast X w hM.m2 hM.f2 (by omega) dX4_copy_11 (fun H locs w => ?_)
  obtain ⟨f12, g12, w, hM, hF, hge12⟩ : ∃ f9 g9, XW D A s.heap L f9 H locs ∧ ML cs L f9 mo B t n k td kp pb sw g9 zz ww ∧ FM f0 f9 mo B ∧ g9 = uG g 0 to (g 0 fr) := ⟨_, _, w, ML.w2 hM, FM.a 2 hF, rfl⟩
  refine x_al_n X hl 0 rfl rfl dX4_copy_12 ?_
  refine x_get X w hM.mm hM.fm fq_X4_copy_13 rfl dX4_copy_13 ?_
  refine x_il_n X hl 2 rfl rfl dX4_copy_16 ?_
  refine x_al_n X hl 0 rfl rfl dX4_copy_17 ?_
  refine x_get X w hM.mm hM.fm fq_X4_copy_13 rfl dX4_copy_18 ?_
  refine x_il_n X hl 1 rfl rfl dX4_copy_21 ?_
  refine x_ialdv (v := g12 1 fr) X w hM.m3 hM.f3 (by omega) (rfl) dX4_copy_22 ?_
  refine x_iast X w hM.m3 hM.f3 (by omega) dX4_copy_23 (fun H locs w => ?_)
  obtain ⟨f24, g24, w, hM, hF, hge24⟩ : ∃ f9 g9, XW D A s.heap L f9 H locs ∧ ML cs L f9 mo B t n k td kp pb sw g9 zz ww ∧ FM f0 f9 mo B ∧ g9 = uG g12 1 to (g12 1 fr) := ⟨_, _, w, ML.w3 hM, FM.a 3 hF, rfl⟩
  refine x_al_n X hl 0 rfl rfl dX4_copy_24 ?_
  refine x_get X w hM.mm hM.fm fq_X4_copy_16 rfl dX4_copy_25 ?_
  refine x_il_n X hl 2 rfl rfl dX4_copy_28 ?_
  refine x_al_n X hl 0 rfl rfl dX4_copy_29 ?_
  refine x_get X w hM.mm hM.fm fq_X4_copy_16 rfl dX4_copy_30 ?_
  refine x_il_n X hl 1 rfl rfl dX4_copy_33 ?_
  refine x_ialdv (v := g24 2 fr) X w hM.m4 hM.f4 (by omega) (rfl) dX4_copy_34 ?_
  refine x_iast X w hM.m4 hM.f4 (by omega) dX4_copy_35 (fun H locs w => ?_)
  obtain ⟨f36, g36, w, hM, hF, hge36⟩ : ∃ f9 g9, XW D A s.heap L f9 H locs ∧ ML cs L f9 mo B t n k td kp pb sw g9 zz ww ∧ FM f0 f9 mo B ∧ g9 = uG g24 2 to (g24 2 fr) := ⟨_, _, w, ML.w4 hM, FM.a 4 hF, rfl⟩
  refine x_al_n X hl 0 rfl rfl dX4_copy_36 ?_
  refine x_get X w hM.mm hM.fm fq_X4_copy_19 rfl dX4_copy_37 ?_
  refine x_il_n X hl 2 rfl rfl dX4_copy_40 ?_
  refine x_al_n X hl 0 rfl rfl dX4_copy_41 ?_
  refine x_get X w hM.mm hM.fm fq_X4_copy_19 rfl dX4_copy_42 ?_
  refine x_il_n X hl 1 rfl rfl dX4_copy_45 ?_
  refine x_ialdv (v := g36 3 fr) X w hM.m5 hM.f5 (by omega) (rfl) dX4_copy_46 ?_
  refine x_iast X w hM.m5 hM.f5 (by omega) dX4_copy_47 (fun H locs w => ?_)
  obtain ⟨f48, g48, w, hM, hF, hge48⟩ : ∃ f9 g9, XW D A s.heap L f9 H locs ∧ ML cs L f9 mo B t n k td kp pb sw g9 zz ww ∧ FM f0 f9 mo B ∧ g9 = uG g36 3 to (g36 3 fr) := ⟨_, _, w, ML.w5 hM, FM.a 5 hF, rfl⟩
  refine x_al_n X hl 0 rfl rfl dX4_copy_48 ?_
  refine x_get X w hM.mm hM.fm fq_X4_copy_22 rfl dX4_copy_49 ?_
  refine x_il_n X hl 2 rfl rfl dX4_copy_52 ?_
  refine x_al_n X hl 0 rfl rfl dX4_copy_53 ?_
  refine x_get X w hM.mm hM.fm fq_X4_copy_22 rfl dX4_copy_54 ?_
  refine x_il_n X hl 1 rfl rfl dX4_copy_57 ?_
  refine x_ialdv (v := g48 4 fr) X w hM.m6 hM.f6 (by omega) (rfl) dX4_copy_58 ?_
  refine x_iast X w hM.m6 hM.f6 (by omega) dX4_copy_59 (fun H locs w => ?_)
  obtain ⟨f60, g60, w, hM, hF, hge60⟩ : ∃ f9 g9, XW D A s.heap L f9 H locs ∧ ML cs L f9 mo B t n k td kp pb sw g9 zz ww ∧ FM f0 f9 mo B ∧ g9 = uG g48 4 to (g48 4 fr) := ⟨_, _, w, ML.w6 hM, FM.a 6 hF, rfl⟩
  refine x_vret X w hr hlk ⟨by decide, by decide⟩ dX4_copy_60 ?_
  refine ⟨rfl, rfl, hF, _, hM, cp_g ?_⟩
  subst hge60
  subst hge48
  subst hge36
  subst hge24
  subst hge12
  rfl

theorem iw_X4_moveUp_X4 : ∀ w ∈ wsX40, w ∈ wsX4_moveUp := by decide +kernel
theorem fq_X4_moveUp_42 : XF wsX4_moveUp RX4 42 4 1 := ⟨RX4, TX4, 14, iw_X4_moveUp_X4, rfl, by decide, by decide +kernel⟩
theorem k_X4_moveUp_X4_copy : XV wsX4_moveUp RX4 52 RX4 yX4_copy cX4_copy 3 none wsX4_copy 2 := ⟨gX4_moveUp_X4_copy, ⟨_, rfl⟩, rfl, by decide, by decide, by decide +kernel⟩
set_option maxHeartbeats 4000000 in
set_option maxRecDepth 100000 in
theorem c_X4_moveUp (l : Launch) (D : va_G) (cs : ClassId × ClassId × ClassId) (L : List Nat) (f0 : Nat → va_E) (mo : Nat) (B : Nat → Nat) (t n k td kp pb sw : Int) (g : Nat → Int → Int) (zz ww : Int → Int) (pl : Int) (hM : ML cs L f0 mo B t n k td kp pb sw g zz ww) (hpl : (0 ≤ n ∧ n < 80) ∧ 0 ≤ pl ∧ pl ≤ n) : C0 l yX4_moveUp wsX4_moveUp ({ frames := 2, cells := 0, slots := 0, locals := 34 } : Room) D cs [.ref mo, .int (iI pl)] L f0 (fun v L1 f1 => v = none ∧ L = L1 ∧ FM f0 f1 mo B ∧ ∃ g1, ML cs L1 f1 mo B t n k td kp pb sw g1 zz ww ∧ ∀ c, c < 5 → (∀ j, j ≤ pl → g1 c j = g c j) ∧ (∀ j, pl < j → j ≤ n → g1 c j = g c (j - 1))) := by
  refine C0.of (cc := cX4_moveUp) (maxL := 3) (ret := none) (by decide) rfl (Nat.le_of_ble_eq_true rfl) ?_
  intro p e s m below meth c X hr hlk hin A hA w ls hl
  have hl : lv_has ls 3 [(0, .ref mo), (1, .int (iI pl))] := hl
  have hF : FM f0 f0 mo B := FM.rf _ _ _
  refine x_al_n X hl 0 rfl rfl dX4_moveUp_0 ?_
  refine x_get X w hM.mm hM.fm fq_X4_moveUp_42 rfl dX4_moveUp_1 ?_
  refine x_is_n (lv' := [(2, .int (iI n)), (0, .ref mo), (1, .int (iI pl))]) X hl rfl (by decide) rfl dX4_moveUp_4 (fun ls hl => ?_)
  have loop5 : ∀ (N9 : Nat) (i : Int) (f1 : Nat → va_E) (g1 : Nat → Int → Int) (H : Heap) (locs : List Loc) (ls : Array Slot), (i - pl + 1).toNat < N9 → (pl ≤ i ∧ i ≤ n) → (ML cs L f1 mo B t n k td kp pb sw g1 zz ww) → (FM f0 f1 mo B) → (∀ c, c < 5 → (∀ j, j ≤ i → g1 c j = g c j) ∧ (∀ j, i < j → j ≤ n → g1 c j = g c (j - 1))) → XW D A s.heap L f1 H locs → lv_has ls 3 [(0, .ref mo), (1, .int (iI pl)), (2, .int (iI i))] → W p l e ({ frames := 2, cells := 0, slots := 0, locals := 34 } : Room) s m ([.ref mo, .int (iI pl)] : List Value).toArray below meth c H locs 0 0 (MQ below (CQ D cs A (fun v L1 f1 => v = none ∧ L = L1 ∧ FM f0 f1 mo B ∧ ∃ g1, ML cs L1 f1 mo B t n k td kp pb sw g1 zz ww ∧ ∀ c, c < 5 → (∀ j, j ≤ pl → g1 c j = g c j) ∧ (∀ j, pl < j → j ≤ n → g1 c j = g c (j - 1)))) ([.ref mo, .int (iI pl)] : List Value).toArray s 0 0 A) (F0 m 5 ls []) := by
    intro N9
    induction N9 with
    | zero => intro i f1 g1 H locs ls h9; exact absurd h9 (Nat.not_lt_zero _)
    | succ N9 ih5 =>
      intro i f1 g1 H locs ls h9 hi hM hF h1 w hl
      refine x_il_n X hl 2 rfl rfl dX4_moveUp_5 ?_
      refine x_il_n X hl 1 rfl rfl dX4_moveUp_6 ?_
      refine x_icmp_le (tgt := 24) X (by omega) (by decide) dX4_moveUp_7 (fun hb7 => ?_) (fun hb7 => ?_)
      · refine x_vret X w hr hlk ⟨by decide, by decide⟩ dX4_moveUp_24 ?_
        have he9 : i = pl := by omega
        subst he9
        exact ⟨rfl, rfl, hF, _, hM, h1⟩
      · refine x_al_n X hl 0 rfl rfl dX4_moveUp_10 ?_
        refine x_il_n X hl 2 rfl rfl dX4_moveUp_11 ?_
        refine x_iconst X dX4_moveUp_12 ?_
        refine x_isub X dX4_moveUp_13 ?_
        refine x_il_n X hl 2 rfl rfl dX4_moveUp_14 ?_
        refine x_callV (As := [.int (iI (i - 1)), .int (iI i)]) (rest := []) (c1 := 0) (s1 := 0) X w hA (c_X4_copy l D cs L f1 mo B t n k td kp pb sw g1 zz ww (i - 1) i hM (by omega)) k_X4_moveUp_X4_copy (by decide) hM.mm hM.fm rfl rfl rfl hl rfl (Nat.le_of_ble_eq_true rfl) (by decide) rfl rfl dX4_moveUp_15 (fun v L1 f1 H locs w hp => ?_)
        obtain ⟨rfl, rfl, hfm, g15, hM, hge15⟩ := hp
        have hF := hF.tr hfm
        show W p l e _ s m _ below meth c _ _ _ _ _ (F0 m 18 ls [])
        refine x_iinc (lv' := [(2, .int (iI (i + (-1)))), (0, .ref mo), (1, .int (iI pl))]) X hl 2 rfl (by decide) rfl dX4_moveUp_18 (fun ls hl => ?_)
        refine x_goto (tgt := 5) X (by decide) dX4_moveUp_21 ?_
        refine ih5 (i + (-1)) f1 g15 _ _ _ (by omega) (by omega) hM hF ?_ w (lv_sub hl [1, 2, 0] rfl)
        · intro c hc
          rw [hge15 c hc]
          have h2 := h1 c hc
          refine ⟨fun j h8 => ?_, fun j h8 h9 => ?_⟩
          · rw [uI_n _ _ (by omega)]; exact h2.1 j (by omega)
          · by_cases h7 : j = i
            · subst h7; rw [uI_s]; exact h2.1 _ (by omega)
            · rw [uI_n _ _ h7]; exact h2.2 j (by omega) h9
  refine loop5 _ n f0 g _ _ _ (Nat.lt_succ_self _) (by omega) hM hF (fun c hc => ⟨fun _ _ => rfl, fun j h8 h9 => absurd h9 (by omega)⟩) w (lv_sub hl [1, 2, 0] rfl)

theorem iw_X4_settle_X4 : ∀ w ∈ wsX40, w ∈ wsX4_settle := by decide +kernel
theorem fq_X4_settle_45 : XF wsX4_settle RX4 45 4 7 := ⟨RX4, TX4, 14, iw_X4_settle_X4, rfl, by decide, by decide +kernel⟩
theorem fq_X4_settle_25 : XF wsX4_settle RX4 25 4 8 := ⟨RX4, TX4, 14, iw_X4_settle_X4, rfl, by decide, by decide +kernel⟩
theorem k_X4_settle_X4_dropPage : XV wsX4_settle RX4 79 RX4 yX4_dropPage cX4_dropPage 3 none wsX4_dropPage 1 := ⟨gX4_settle_X4_dropPage, ⟨_, rfl⟩, rfl, by decide, by decide, by decide +kernel⟩
set_option maxHeartbeats 4000000 in
set_option maxRecDepth 100000 in
theorem c_X4_settle (l : Launch) (D : va_G) (cs : ClassId × ClassId × ClassId) (L : List Nat) (f0 : Nat → va_E) (mo : Nat) (B : Nat → Nat) (t n k td kp pb sw : Int) (g : Nat → Int → Int) (zz ww : Int → Int) (z : Int → Int) (pg : Int) (hM : ML cs L f0 mo B t n k td kp pb sw g zz ww) (hz : ∀ j, 0 ≤ j → j < k → zz j = z j) (hpg : (1 < k ∧ k ≤ 80) ∧ (0 ≤ pg ∧ pg < k) ∧ z pg = 1) (hz4 : ∀ j, 0 ≤ j → j < k → 0 ≤ z j ∧ z j ≤ 4) : C0 l yX4_settle wsX4_settle ({ frames := 2, cells := 0, slots := 0, locals := 34 } : Room) D cs [.ref mo, .int (iI pg)] L f0 (fun v L1 f1 => v = none ∧ L = L1 ∧ FM f0 f1 mo B ∧ ∃ z1, ML cs L1 f1 mo B t n (mvK z k (bjA z k pg)) td kp pb sw g z1 ww ∧ ∀ j, 0 ≤ j → j < mvK z k (bjA z k pg) → z1 j = mvZ z (bjA z k pg) (bjB z k pg) j) := by
  refine C0.of (cc := cX4_settle) (maxL := 3) (ret := none) (by decide) rfl (Nat.le_of_ble_eq_true rfl) ?_
  intro p e s m below meth c X hr hlk hin A hA w ls hl
  have hl : lv_has ls 3 [(0, .ref mo), (1, .int (iI pg))] := hl
  have hF : FM f0 f0 mo B := FM.rf _ _ _
  have hq8 := hz4 (pg + 1)
  have hq9 := hz4 (pg - 1)
  refine x_il_n X hl 1 rfl rfl dX4_settle_0 ?_
  refine x_iconst X dX4_settle_1 ?_
  refine x_iadd X dX4_settle_2 ?_
  refine x_al_n X hl 0 rfl rfl dX4_settle_3 ?_
  refine x_get X w hM.mm hM.fm fq_X4_settle_45 rfl dX4_settle_4 ?_
  refine x_icmp_ge (tgt := 14) X (by omega) (by decide) dX4_settle_7 (fun hb7 => ?_) (fun hb7 => ?_)
  · refine x_iconst X dX4_settle_14 ?_
    refine x_is_n (lv' := [(2, .int (iI 0)), (0, .ref mo), (1, .int (iI pg))]) X hl rfl (by decide) rfl dX4_settle_15 (fun ls hl => ?_)
    refine x_il_n X hl 0 rfl rfl dX4_settle_16 ?_
    refine x_ifT_eq (tgt := 57) X (by decide) (by decide) (by decide) dX4_settle_17 ?_
    refine x_il_n X hl 2 rfl rfl dX4_settle_57 ?_
    refine x_if_le (tgt := 98) X (by omega) (by decide) dX4_settle_58 (fun hb58 => ?_) (fun hb58 => ?_)
    · refine x_al_n X hl 1 rfl rfl dX4_settle_98 ?_
      refine x_get X w hM.mm hM.fm fq_X4_settle_25 rfl dX4_settle_99 ?_
      refine x_il_n X hl 0 rfl rfl dX4_settle_102 ?_
      refine x_ifT_eq (tgt := 112) X (by decide) (by decide) (by decide) dX4_settle_103 ?_
      refine x_il_n X hl 2 rfl rfl dX4_settle_112 ?_
      refine x_iconst X dX4_settle_113 ?_
      refine x_isub X dX4_settle_114 ?_
      refine x_dup2 X rfl rfl dX4_settle_115 ?_
      refine x_ialdv (v := z (pg - 1)) X w hM.m8 hM.f8 (by omega) (hz (pg - 1) (by omega) (by omega)) dX4_settle_116 ?_
      refine x_iconst X dX4_settle_117 ?_
      refine x_iadd X dX4_settle_118 ?_
      refine x_iast X w hM.m8 hM.f8 (by omega) dX4_settle_119 (fun H locs w => ?_)
      obtain ⟨f120, zz120, w, hM, hF, hz120⟩ : ∃ f9 z9, XW D A s.heap L f9 H locs ∧ ML cs L f9 mo B t n k td kp pb sw g z9 ww ∧ FM f0 f9 mo B ∧ (∀ j, 0 ≤ j → j < k → z9 j = (uI z (pg - 1) ((z (pg - 1)) + 1)) j) := ⟨_, _, w, hM.zw, hF.a 8, ag_u hz⟩
      refine x_al_n X hl 1 rfl rfl dX4_settle_120 ?_
      refine x_il_n X hl 2 rfl rfl dX4_settle_121 ?_
      refine x_callV (As := [.int (iI pg)]) (rest := []) (c1 := 0) (s1 := 0) X w hA (c_X4_dropPage l D cs L f120 mo B t n k td kp pb sw g zz120 ww (uI z (pg - 1) ((z (pg - 1)) + 1)) pg hM hz120 (by omega)) k_X4_settle_X4_dropPage (by decide) hM.mm hM.fm rfl rfl rfl hl rfl (Nat.le_of_ble_eq_true rfl) (by decide) rfl rfl dX4_settle_122 (fun v L1 f1 H locs w hp => ?_)
      obtain ⟨rfl, rfl, hfm, zz122, hM, hz122⟩ := hp
      have hF := hF.tr hfm
      show W p l e _ s m _ below meth c _ _ _ _ _ (F0 m 125 ls [])
      refine x_vret X w hr hlk ⟨by decide, by decide⟩ dX4_settle_125 ?_
      have hc1 : ¬ (pg + 1 < k ∧ 3 ≤ z (pg + 1)) := by omega
      have hc2 : ¬ (0 < pg ∧ 3 ≤ z (pg - 1)) := by omega
      have hc3 : ¬ pg + 1 < k := by omega
      have hmv := mv_0 (z := z) (k := k) (a := pg) (b := pg - 1) (by omega) (by omega) hz122
      rw [(bjA_4 hc1 hc2 hc3).1, (bjA_4 hc1 hc2 hc3).2]
      refine ⟨rfl, rfl, hF, _, ?_, hmv.2⟩
      rw [hmv.1]; exact hM
    · refine x_al_n X hl 1 rfl rfl dX4_settle_61 ?_
      refine x_get X w hM.mm hM.fm fq_X4_settle_25 rfl dX4_settle_62 ?_
      refine x_il_n X hl 2 rfl rfl dX4_settle_65 ?_
      refine x_iconst X dX4_settle_66 ?_
      refine x_isub X dX4_settle_67 ?_
      refine x_ialdv (v := z (pg - 1)) X w hM.m8 hM.f8 (by omega) (hz (pg - 1) (by omega) (by omega)) dX4_settle_68 ?_
      refine x_iconst X dX4_settle_69 ?_
      refine x_icmp_le (tgt := 98) X (by omega) (by decide) dX4_settle_70 (fun hb70 => ?_) (fun hb70 => ?_)
      · refine x_al_n X hl 1 rfl rfl dX4_settle_98 ?_
        refine x_get X w hM.mm hM.fm fq_X4_settle_25 rfl dX4_settle_99 ?_
        refine x_il_n X hl 0 rfl rfl dX4_settle_102 ?_
        refine x_ifT_eq (tgt := 112) X (by decide) (by decide) (by decide) dX4_settle_103 ?_
        refine x_il_n X hl 2 rfl rfl dX4_settle_112 ?_
        refine x_iconst X dX4_settle_113 ?_
        refine x_isub X dX4_settle_114 ?_
        refine x_dup2 X rfl rfl dX4_settle_115 ?_
        refine x_ialdv (v := z (pg - 1)) X w hM.m8 hM.f8 (by omega) (hz (pg - 1) (by omega) (by omega)) dX4_settle_116 ?_
        refine x_iconst X dX4_settle_117 ?_
        refine x_iadd X dX4_settle_118 ?_
        refine x_iast X w hM.m8 hM.f8 (by omega) dX4_settle_119 (fun H locs w => ?_)
        obtain ⟨f120, zz120, w, hM, hF, hz120⟩ : ∃ f9 z9, XW D A s.heap L f9 H locs ∧ ML cs L f9 mo B t n k td kp pb sw g z9 ww ∧ FM f0 f9 mo B ∧ (∀ j, 0 ≤ j → j < k → z9 j = (uI z (pg - 1) ((z (pg - 1)) + 1)) j) := ⟨_, _, w, hM.zw, hF.a 8, ag_u hz⟩
        refine x_al_n X hl 1 rfl rfl dX4_settle_120 ?_
        refine x_il_n X hl 2 rfl rfl dX4_settle_121 ?_
        refine x_callV (As := [.int (iI pg)]) (rest := []) (c1 := 0) (s1 := 0) X w hA (c_X4_dropPage l D cs L f120 mo B t n k td kp pb sw g zz120 ww (uI z (pg - 1) ((z (pg - 1)) + 1)) pg hM hz120 (by omega)) k_X4_settle_X4_dropPage (by decide) hM.mm hM.fm rfl rfl rfl hl rfl (Nat.le_of_ble_eq_true rfl) (by decide) rfl rfl dX4_settle_122 (fun v L1 f1 H locs w hp => ?_)
        obtain ⟨rfl, rfl, hfm, zz122, hM, hz122⟩ := hp
        have hF := hF.tr hfm
        show W p l e _ s m _ below meth c _ _ _ _ _ (F0 m 125 ls [])
        refine x_vret X w hr hlk ⟨by decide, by decide⟩ dX4_settle_125 ?_
        have hc1 : ¬ (pg + 1 < k ∧ 3 ≤ z (pg + 1)) := by omega
        have hc2 : ¬ (0 < pg ∧ 3 ≤ z (pg - 1)) := by omega
        have hc3 : ¬ pg + 1 < k := by omega
        have hmv := mv_0 (z := z) (k := k) (a := pg) (b := pg - 1) (by omega) (by omega) hz122
        rw [(bjA_4 hc1 hc2 hc3).1, (bjA_4 hc1 hc2 hc3).2]
        refine ⟨rfl, rfl, hF, _, ?_, hmv.2⟩
        rw [hmv.1]; exact hM
      · refine x_al_n X hl 1 rfl rfl dX4_settle_73 ?_
        refine x_get X w hM.mm hM.fm fq_X4_settle_25 rfl dX4_settle_74 ?_
        refine x_il_n X hl 2 rfl rfl dX4_settle_77 ?_
        refine x_dup2 X rfl rfl dX4_settle_78 ?_
        refine x_ialdv (v := z pg) X w hM.m8 hM.f8 (by omega) (hz pg (by omega) (by omega)) dX4_settle_79 ?_
        refine x_iconst X dX4_settle_80 ?_
        refine x_iadd X dX4_settle_81 ?_
        refine x_iast X w hM.m8 hM.f8 (by omega) dX4_settle_82 (fun H locs w => ?_)
        obtain ⟨f83, zz83, w, hM, hF, hz83⟩ : ∃ f9 z9, XW D A s.heap L f9 H locs ∧ ML cs L f9 mo B t n k td kp pb sw g z9 ww ∧ FM f0 f9 mo B ∧ (∀ j, 0 ≤ j → j < k → z9 j = (uI z pg ((z pg) + 1)) j) := ⟨_, _, w, hM.zw, hF.a 8, ag_u hz⟩
        refine x_al_n X hl 1 rfl rfl dX4_settle_83 ?_
        refine x_get X w hM.mm hM.fm fq_X4_settle_25 rfl dX4_settle_84 ?_
        refine x_il_n X hl 2 rfl rfl dX4_settle_87 ?_
        refine x_iconst X dX4_settle_88 ?_
        refine x_isub X dX4_settle_89 ?_
        refine x_dup2 X rfl rfl dX4_settle_90 ?_
        refine x_ialdv (v := z (pg - 1)) X w hM.m8 hM.f8 (by omega) ((hz83 (pg - 1) (by omega) (by omega)).trans (uI_n _ _ (by omega))) dX4_settle_91 ?_
        refine x_iconst X dX4_settle_92 ?_
        refine x_isub X dX4_settle_93 ?_
        refine x_iast X w hM.m8 hM.f8 (by omega) dX4_settle_94 (fun H locs w => ?_)
        obtain ⟨f95, zz95, w, hM, hF, hz95⟩ : ∃ f9 z9, XW D A s.heap L f9 H locs ∧ ML cs L f9 mo B t n k td kp pb sw g z9 ww ∧ FM f0 f9 mo B ∧ (∀ j, 0 ≤ j → j < k → z9 j = (uI (uI z pg ((z pg) + 1)) (pg - 1) ((z (pg - 1)) - 1)) j) := ⟨_, _, w, hM.zw, hF.a 8, ag_u hz83⟩
        refine x_goto (tgt := 125) X (by decide) dX4_settle_95 ?_
        refine x_vret X w hr hlk ⟨by decide, by decide⟩ dX4_settle_125 ?_
        have hc1 : ¬ (pg + 1 < k ∧ 3 ≤ z (pg + 1)) := by omega
        have hc2 : 0 < pg ∧ 3 ≤ z (pg - 1) := by omega
        have hmv := mv_1 (z := z) (k := k) (a := pg - 1) (b := pg) (by omega) (by omega) hz95
        rw [(bjA_2 hc1 hc2).1, (bjA_2 hc1 hc2).2]
        refine ⟨rfl, rfl, hF, _, ?_, hmv.2⟩
        rw [hmv.1]; exact hM
  · refine x_iconst X dX4_settle_10 ?_
    refine x_goto (tgt := 15) X (by decide) dX4_settle_11 ?_
    refine x_is_n (lv' := [(2, .int (iI 1)), (0, .ref mo), (1, .int (iI pg))]) X hl rfl (by decide) rfl dX4_settle_15 (fun ls hl => ?_)
    refine x_il_n X hl 0 rfl rfl dX4_settle_16 ?_
    refine x_ifF_eq (tgt := 57) X (by decide) (by decide) (by decide) dX4_settle_17 ?_
    refine x_al_n X hl 1 rfl rfl dX4_settle_20 ?_
    refine x_get X w hM.mm hM.fm fq_X4_settle_25 rfl dX4_settle_21 ?_
    refine x_il_n X hl 2 rfl rfl dX4_settle_24 ?_
    refine x_iconst X dX4_settle_25 ?_
    refine x_iadd X dX4_settle_26 ?_
    refine x_ialdv (v := z (pg + 1)) X w hM.m8 hM.f8 (by omega) (hz (pg + 1) (by omega) (by omega)) dX4_settle_27 ?_
    refine x_iconst X dX4_settle_28 ?_
    refine x_icmp_le (tgt := 57) X (by omega) (by decide) dX4_settle_29 (fun hb29 => ?_) (fun hb29 => ?_)
    · refine x_il_n X hl 2 rfl rfl dX4_settle_57 ?_
      refine x_if_le (tgt := 98) X (by omega) (by decide) dX4_settle_58 (fun hb58 => ?_) (fun hb58 => ?_)
      · refine x_al_n X hl 1 rfl rfl dX4_settle_98 ?_
        refine x_get X w hM.mm hM.fm fq_X4_settle_25 rfl dX4_settle_99 ?_
        refine x_il_n X hl 0 rfl rfl dX4_settle_102 ?_
        refine x_ifF_eq (tgt := 112) X (by decide) (by decide) (by decide) dX4_settle_103 ?_
        refine x_il_n X hl 2 rfl rfl dX4_settle_106 ?_
        refine x_iconst X dX4_settle_107 ?_
        refine x_iadd X dX4_settle_108 ?_
        refine x_goto (tgt := 115) X (by decide) dX4_settle_109 ?_
        refine x_dup2 X rfl rfl dX4_settle_115 ?_
        refine x_ialdv (v := z (pg + 1)) X w hM.m8 hM.f8 (by omega) (hz (pg + 1) (by omega) (by omega)) dX4_settle_116 ?_
        refine x_iconst X dX4_settle_117 ?_
        refine x_iadd X dX4_settle_118 ?_
        refine x_iast X w hM.m8 hM.f8 (by omega) dX4_settle_119 (fun H locs w => ?_)
        obtain ⟨f120, zz120, w, hM, hF, hz120⟩ : ∃ f9 z9, XW D A s.heap L f9 H locs ∧ ML cs L f9 mo B t n k td kp pb sw g z9 ww ∧ FM f0 f9 mo B ∧ (∀ j, 0 ≤ j → j < k → z9 j = (uI z (pg + 1) ((z (pg + 1)) + 1)) j) := ⟨_, _, w, hM.zw, hF.a 8, ag_u hz⟩
        refine x_al_n X hl 1 rfl rfl dX4_settle_120 ?_
        refine x_il_n X hl 2 rfl rfl dX4_settle_121 ?_
        refine x_callV (As := [.int (iI pg)]) (rest := []) (c1 := 0) (s1 := 0) X w hA (c_X4_dropPage l D cs L f120 mo B t n k td kp pb sw g zz120 ww (uI z (pg + 1) ((z (pg + 1)) + 1)) pg hM hz120 (by omega)) k_X4_settle_X4_dropPage (by decide) hM.mm hM.fm rfl rfl rfl hl rfl (Nat.le_of_ble_eq_true rfl) (by decide) rfl rfl dX4_settle_122 (fun v L1 f1 H locs w hp => ?_)
        obtain ⟨rfl, rfl, hfm, zz122, hM, hz122⟩ := hp
        have hF := hF.tr hfm
        show W p l e _ s m _ below meth c _ _ _ _ _ (F0 m 125 ls [])
        refine x_vret X w hr hlk ⟨by decide, by decide⟩ dX4_settle_125 ?_
        have hc1 : ¬ (pg + 1 < k ∧ 3 ≤ z (pg + 1)) := by omega
        have hc2 : ¬ (0 < pg ∧ 3 ≤ z (pg - 1)) := by omega
        have hc3 : pg + 1 < k := by omega
        have hmv := mv_0 (z := z) (k := k) (a := pg) (b := pg + 1) (by omega) (by omega) hz122
        rw [(bjA_3 hc1 hc2 hc3).1, (bjA_3 hc1 hc2 hc3).2]
        refine ⟨rfl, rfl, hF, _, ?_, hmv.2⟩
        rw [hmv.1]; exact hM
      · refine x_al_n X hl 1 rfl rfl dX4_settle_61 ?_
        refine x_get X w hM.mm hM.fm fq_X4_settle_25 rfl dX4_settle_62 ?_
        refine x_il_n X hl 2 rfl rfl dX4_settle_65 ?_
        refine x_iconst X dX4_settle_66 ?_
        refine x_isub X dX4_settle_67 ?_
        refine x_ialdv (v := z (pg - 1)) X w hM.m8 hM.f8 (by omega) (hz (pg - 1) (by omega) (by omega)) dX4_settle_68 ?_
        refine x_iconst X dX4_settle_69 ?_
        refine x_icmp_le (tgt := 98) X (by omega) (by decide) dX4_settle_70 (fun hb70 => ?_) (fun hb70 => ?_)
        · refine x_al_n X hl 1 rfl rfl dX4_settle_98 ?_
          refine x_get X w hM.mm hM.fm fq_X4_settle_25 rfl dX4_settle_99 ?_
          refine x_il_n X hl 0 rfl rfl dX4_settle_102 ?_
          refine x_ifF_eq (tgt := 112) X (by decide) (by decide) (by decide) dX4_settle_103 ?_
          refine x_il_n X hl 2 rfl rfl dX4_settle_106 ?_
          refine x_iconst X dX4_settle_107 ?_
          refine x_iadd X dX4_settle_108 ?_
          refine x_goto (tgt := 115) X (by decide) dX4_settle_109 ?_
          refine x_dup2 X rfl rfl dX4_settle_115 ?_
          refine x_ialdv (v := z (pg + 1)) X w hM.m8 hM.f8 (by omega) (hz (pg + 1) (by omega) (by omega)) dX4_settle_116 ?_
          refine x_iconst X dX4_settle_117 ?_
          refine x_iadd X dX4_settle_118 ?_
          refine x_iast X w hM.m8 hM.f8 (by omega) dX4_settle_119 (fun H locs w => ?_)
          obtain ⟨f120, zz120, w, hM, hF, hz120⟩ : ∃ f9 z9, XW D A s.heap L f9 H locs ∧ ML cs L f9 mo B t n k td kp pb sw g z9 ww ∧ FM f0 f9 mo B ∧ (∀ j, 0 ≤ j → j < k → z9 j = (uI z (pg + 1) ((z (pg + 1)) + 1)) j) := ⟨_, _, w, hM.zw, hF.a 8, ag_u hz⟩
          refine x_al_n X hl 1 rfl rfl dX4_settle_120 ?_
          refine x_il_n X hl 2 rfl rfl dX4_settle_121 ?_
          refine x_callV (As := [.int (iI pg)]) (rest := []) (c1 := 0) (s1 := 0) X w hA (c_X4_dropPage l D cs L f120 mo B t n k td kp pb sw g zz120 ww (uI z (pg + 1) ((z (pg + 1)) + 1)) pg hM hz120 (by omega)) k_X4_settle_X4_dropPage (by decide) hM.mm hM.fm rfl rfl rfl hl rfl (Nat.le_of_ble_eq_true rfl) (by decide) rfl rfl dX4_settle_122 (fun v L1 f1 H locs w hp => ?_)
          obtain ⟨rfl, rfl, hfm, zz122, hM, hz122⟩ := hp
          have hF := hF.tr hfm
          show W p l e _ s m _ below meth c _ _ _ _ _ (F0 m 125 ls [])
          refine x_vret X w hr hlk ⟨by decide, by decide⟩ dX4_settle_125 ?_
          have hc1 : ¬ (pg + 1 < k ∧ 3 ≤ z (pg + 1)) := by omega
          have hc2 : ¬ (0 < pg ∧ 3 ≤ z (pg - 1)) := by omega
          have hc3 : pg + 1 < k := by omega
          have hmv := mv_0 (z := z) (k := k) (a := pg) (b := pg + 1) (by omega) (by omega) hz122
          rw [(bjA_3 hc1 hc2 hc3).1, (bjA_3 hc1 hc2 hc3).2]
          refine ⟨rfl, rfl, hF, _, ?_, hmv.2⟩
          rw [hmv.1]; exact hM
        · refine x_al_n X hl 1 rfl rfl dX4_settle_73 ?_
          refine x_get X w hM.mm hM.fm fq_X4_settle_25 rfl dX4_settle_74 ?_
          refine x_il_n X hl 2 rfl rfl dX4_settle_77 ?_
          refine x_dup2 X rfl rfl dX4_settle_78 ?_
          refine x_ialdv (v := z pg) X w hM.m8 hM.f8 (by omega) (hz pg (by omega) (by omega)) dX4_settle_79 ?_
          refine x_iconst X dX4_settle_80 ?_
          refine x_iadd X dX4_settle_81 ?_
          refine x_iast X w hM.m8 hM.f8 (by omega) dX4_settle_82 (fun H locs w => ?_)
          obtain ⟨f83, zz83, w, hM, hF, hz83⟩ : ∃ f9 z9, XW D A s.heap L f9 H locs ∧ ML cs L f9 mo B t n k td kp pb sw g z9 ww ∧ FM f0 f9 mo B ∧ (∀ j, 0 ≤ j → j < k → z9 j = (uI z pg ((z pg) + 1)) j) := ⟨_, _, w, hM.zw, hF.a 8, ag_u hz⟩
          refine x_al_n X hl 1 rfl rfl dX4_settle_83 ?_
          refine x_get X w hM.mm hM.fm fq_X4_settle_25 rfl dX4_settle_84 ?_
          refine x_il_n X hl 2 rfl rfl dX4_settle_87 ?_
          refine x_iconst X dX4_settle_88 ?_
          refine x_isub X dX4_settle_89 ?_
          refine x_dup2 X rfl rfl dX4_settle_90 ?_
          refine x_ialdv (v := z (pg - 1)) X w hM.m8 hM.f8 (by omega) ((hz83 (pg - 1) (by omega) (by omega)).trans (uI_n _ _ (by omega))) dX4_settle_91 ?_
          refine x_iconst X dX4_settle_92 ?_
          refine x_isub X dX4_settle_93 ?_
          refine x_iast X w hM.m8 hM.f8 (by omega) dX4_settle_94 (fun H locs w => ?_)
          obtain ⟨f95, zz95, w, hM, hF, hz95⟩ : ∃ f9 z9, XW D A s.heap L f9 H locs ∧ ML cs L f9 mo B t n k td kp pb sw g z9 ww ∧ FM f0 f9 mo B ∧ (∀ j, 0 ≤ j → j < k → z9 j = (uI (uI z pg ((z pg) + 1)) (pg - 1) ((z (pg - 1)) - 1)) j) := ⟨_, _, w, hM.zw, hF.a 8, ag_u hz83⟩
          refine x_goto (tgt := 125) X (by decide) dX4_settle_95 ?_
          refine x_vret X w hr hlk ⟨by decide, by decide⟩ dX4_settle_125 ?_
          have hc1 : ¬ (pg + 1 < k ∧ 3 ≤ z (pg + 1)) := by omega
          have hc2 : 0 < pg ∧ 3 ≤ z (pg - 1) := by omega
          have hmv := mv_1 (z := z) (k := k) (a := pg - 1) (b := pg) (by omega) (by omega) hz95
          rw [(bjA_2 hc1 hc2).1, (bjA_2 hc1 hc2).2]
          refine ⟨rfl, rfl, hF, _, ?_, hmv.2⟩
          rw [hmv.1]; exact hM
    · refine x_al_n X hl 1 rfl rfl dX4_settle_32 ?_
      refine x_get X w hM.mm hM.fm fq_X4_settle_25 rfl dX4_settle_33 ?_
      refine x_il_n X hl 2 rfl rfl dX4_settle_36 ?_
      refine x_dup2 X rfl rfl dX4_settle_37 ?_
      refine x_ialdv (v := z pg) X w hM.m8 hM.f8 (by omega) (hz pg (by omega) (by omega)) dX4_settle_38 ?_
      refine x_iconst X dX4_settle_39 ?_
      refine x_iadd X dX4_settle_40 ?_
      refine x_iast X w hM.m8 hM.f8 (by omega) dX4_settle_41 (fun H locs w => ?_)
      obtain ⟨f42, zz42, w, hM, hF, hz42⟩ : ∃ f9 z9, XW D A s.heap L f9 H locs ∧ ML cs L f9 mo B t n k td kp pb sw g z9 ww ∧ FM f0 f9 mo B ∧ (∀ j, 0 ≤ j → j < k → z9 j = (uI z pg ((z pg) + 1)) j) := ⟨_, _, w, hM.zw, hF.a 8, ag_u hz⟩
      refine x_al_n X hl 1 rfl rfl dX4_settle_42 ?_
      refine x_get X w hM.mm hM.fm fq_X4_settle_25 rfl dX4_settle_43 ?_
      refine x_il_n X hl 2 rfl rfl dX4_settle_46 ?_
      refine x_iconst X dX4_settle_47 ?_
      refine x_iadd X dX4_settle_48 ?_
      refine x_dup2 X rfl rfl dX4_settle_49 ?_
      refine x_ialdv (v := z (pg + 1)) X w hM.m8 hM.f8 (by omega) ((hz42 (pg + 1) (by omega) (by omega)).trans (uI_n _ _ (by omega))) dX4_settle_50 ?_
      refine x_iconst X dX4_settle_51 ?_
      refine x_isub X dX4_settle_52 ?_
      refine x_iast X w hM.m8 hM.f8 (by omega) dX4_settle_53 (fun H locs w => ?_)
      obtain ⟨f54, zz54, w, hM, hF, hz54⟩ : ∃ f9 z9, XW D A s.heap L f9 H locs ∧ ML cs L f9 mo B t n k td kp pb sw g z9 ww ∧ FM f0 f9 mo B ∧ (∀ j, 0 ≤ j → j < k → z9 j = (uI (uI z pg ((z pg) + 1)) (pg + 1) ((z (pg + 1)) - 1)) j) := ⟨_, _, w, hM.zw, hF.a 8, ag_u hz42⟩
      refine x_goto (tgt := 125) X (by decide) dX4_settle_54 ?_
      refine x_vret X w hr hlk ⟨by decide, by decide⟩ dX4_settle_125 ?_
      have hc1 : pg + 1 < k ∧ 3 ≤ z (pg + 1) := by omega
      have hmv := mv_1 (z := z) (k := k) (a := pg + 1) (b := pg) (by omega) (by omega) hz54
      rw [(bjA_1 hc1).1, (bjA_1 hc1).2]
      refine ⟨rfl, rfl, hF, _, ?_, hmv.2⟩
      rw [hmv.1]; exact hM

theorem k_X4_takeOut_X4_pageAt : XV wsX4_takeOut RX4 82 RX4 yX4_pageAt cX4_pageAt 4 (some .int) wsX4_pageAt 1 := ⟨gX4_takeOut_X4_pageAt, ⟨_, rfl⟩, rfl, by decide, by decide, by decide +kernel⟩
theorem iw_X4_takeOut_X4 : ∀ w ∈ wsX40, w ∈ wsX4_takeOut := by decide +kernel
theorem fq_X4_takeOut_42 : XF wsX4_takeOut RX4 42 4 1 := ⟨RX4, TX4, 14, iw_X4_takeOut_X4, rfl, by decide, by decide +kernel⟩
theorem fp_X4_takeOut_42 : XGn wsX4_takeOut RX4 42 4 1 (tyX4 1) := ⟨RX4, TX4, 14, tyX4, iw_X4_takeOut_X4, rfl, by decide, by decide +kernel, tyX4_ok, nmX4, rfl, by decide +kernel⟩
theorem fq_X4_takeOut_25 : XF wsX4_takeOut RX4 25 4 8 := ⟨RX4, TX4, 14, iw_X4_takeOut_X4, rfl, by decide, by decide +kernel⟩
theorem fq_X4_takeOut_28 : XF wsX4_takeOut RX4 28 4 12 := ⟨RX4, TX4, 14, iw_X4_takeOut_X4, rfl, by decide, by decide +kernel⟩
theorem fq_X4_takeOut_45 : XF wsX4_takeOut RX4 45 4 7 := ⟨RX4, TX4, 14, iw_X4_takeOut_X4, rfl, by decide, by decide +kernel⟩
theorem fp_X4_takeOut_28 : XGn wsX4_takeOut RX4 28 4 12 (tyX4 12) := ⟨RX4, TX4, 14, tyX4, iw_X4_takeOut_X4, rfl, by decide, by decide +kernel, tyX4_ok, nmX4, rfl, by decide +kernel⟩
theorem k_X4_takeOut_X4_settle : XV wsX4_takeOut RX4 85 RX4 yX4_settle cX4_settle 3 none wsX4_settle 1 := ⟨gX4_takeOut_X4_settle, ⟨_, rfl⟩, rfl, by decide, by decide, by decide +kernel⟩
theorem k_X4_takeOut_X4_dropPage : XV wsX4_takeOut RX4 79 RX4 yX4_dropPage cX4_dropPage 3 none wsX4_dropPage 1 := ⟨gX4_takeOut_X4_dropPage, ⟨_, rfl⟩, rfl, by decide, by decide, by decide +kernel⟩
theorem k_X4_takeOut_X4_copy : XV wsX4_takeOut RX4 52 RX4 yX4_copy cX4_copy 3 none wsX4_copy 2 := ⟨gX4_takeOut_X4_copy, ⟨_, rfl⟩, rfl, by decide, by decide, by decide +kernel⟩
set_option maxHeartbeats 4000000 in
set_option maxRecDepth 100000 in
theorem c_X4_takeOut (l : Launch) (D : va_G) (cs : ClassId × ClassId × ClassId) (L : List Nat) (f0 : Nat → va_E) (mo : Nat) (B : Nat → Nat) (t : Int) (σ : Sg) (pl : Int) (hX : MX cs L f0 mo B t σ) (hI : Inv σ) (hpl : 0 ≤ pl ∧ pl < gN σ) : C0 l yX4_takeOut wsX4_takeOut ({ frames := 3, cells := 0, slots := 0, locals := 56 } : Room) D cs [.ref mo, .int (iI pl)] L f0 (fun v L1 f1 => v = none ∧ L = L1 ∧ FM f0 f1 mo B ∧ MX cs L1 f1 mo B t (oTake pl σ)) := by
  refine C0.of (cc := cX4_takeOut) (maxL := 4) (ret := none) (by decide) rfl (Nat.le_of_ble_eq_true rfl) ?_
  intro p e s m below meth c X hr hlk hin A hA w ls hl
  have hl : lv_has ls 4 [(0, .ref mo), (1, .int (iI pl))] := hl
  obtain ⟨g, zz, ww, hM, hg, hz, hw⟩ := hX
  have hF : FM f0 f0 mo B := FM.rf _ _ _
  have hn := hI.n; have hk := hI.k; have ht := hI.t; have hsw := hI.s; have hz4 := hI.z4
  have hpg := hI.pgr hpl
  have hpz := hI.z1 _ hpg.1 hpg.2
  refine x_al_n X hl 0 rfl rfl dX4_takeOut_0 ?_
  refine x_il_n X hl 1 rfl rfl dX4_takeOut_1 ?_
  refine x_callV (As := [.int (iI pl)]) (rest := []) (c1 := 0) (s1 := 0) X w hA (c_X4_pageAt l D cs L f0 mo B t (gN σ) (gK σ) (gT σ) (gP σ) (gB σ) (gS σ) g zz ww (gZ σ) pl hM hz (by rw [hI.sm]; omega) hz4) k_X4_takeOut_X4_pageAt (by decide) hM.mm hM.fm rfl rfl rfl hl rfl (Nat.le_of_ble_eq_true rfl) (by decide) rfl rfl dX4_takeOut_2 (fun v L1 f1 H locs w hp => ?_)
  obtain ⟨rfl, rfl, hp⟩ := hp
  subst hp
  show W p l e _ s m _ below meth c _ _ _ _ _ (F0 m 5 ls [.int (iI (pw (gZ σ) (gK σ) pl))])
  refine x_is_n (lv' := [(2, .int (iI (pw (gZ σ) (gK σ) pl))), (0, .ref mo), (1, .int (iI pl))]) X hl rfl (by decide) rfl dX4_takeOut_5 (fun ls hl => ?_)
  refine x_al_n X hl 1 rfl rfl dX4_takeOut_6 ?_
  refine x_dup X rfl dX4_takeOut_7 ?_
  refine x_get X w hM.mm hM.fm fq_X4_takeOut_42 rfl dX4_takeOut_8 ?_
  refine x_iconst X dX4_takeOut_11 ?_
  refine x_isub X dX4_takeOut_12 ?_
  refine x_put X w hM.mm hM.fm fp_X4_takeOut_42 rfl rfl (Nat.le_of_ble_eq_true rfl) rfl dX4_takeOut_13 (fun H locs w => ?_)
  obtain ⟨f16, w, hM, hF⟩ : ∃ f9, XW D A s.heap L f9 H locs ∧ ML cs L f9 mo B t ((gN σ) - 1) (gK σ) (gT σ) (gP σ) (gB σ) (gS σ) g zz ww ∧ FM f0 f9 mo B := ⟨_, w, hM.fld _ _ _ _ _ _ _, hF.m⟩
  refine x_il_n X hl 2 rfl rfl dX4_takeOut_16 ?_
  refine x_is_n (lv' := [(3, .int (iI pl)), (2, .int (iI (pw (gZ σ) (gK σ) pl))), (0, .ref mo), (1, .int (iI pl))]) X hl rfl (by decide) rfl dX4_takeOut_17 (fun ls hl => ?_)
  have loop18 : ∀ (N9 : Nat) (i : Int) (f1 : Nat → va_E) (g1 : Nat → Int → Int) (H : Heap) (locs : List Loc) (ls : Array Slot), (gN σ - i).toNat < N9 → (pl ≤ i ∧ i ≤ gN σ - 1) → (ML cs L f1 mo B t (gN σ - 1) (gK σ) (gT σ) (gP σ) (gB σ) (gS σ) g1 zz ww) → (FM f0 f1 mo B) → (∀ c, c < 5 → (∀ j, i ≤ j → g1 c j = g c j) ∧ (∀ j, j < i → g1 c j = del (g c) pl j)) → XW D A s.heap L f1 H locs → lv_has ls 4 [(0, .ref mo), (1, .int (iI pl)), (2, .int (iI (pw (gZ σ) (gK σ) pl))), (3, .int (iI i))] → W p l e ({ frames := 3, cells := 0, slots := 0, locals := 56 } : Room) s m ([.ref mo, .int (iI pl)] : List Value).toArray below meth c H locs 0 0 (MQ below (CQ D cs A (fun v L1 f1 => v = none ∧ L = L1 ∧ FM f0 f1 mo B ∧ MX cs L1 f1 mo B t (oTake pl σ))) ([.ref mo, .int (iI pl)] : List Value).toArray s 0 0 A) (F0 m 18 ls []) := by
    intro N9
    induction N9 with
    | zero => intro i f1 g1 H locs ls h9; exact absurd h9 (Nat.not_lt_zero _)
    | succ N9 ih18 =>
      intro i f1 g1 H locs ls h9 hi hM hF h1 w hl
      refine x_il_n X hl 3 rfl rfl dX4_takeOut_18 ?_
      refine x_al_n X hl 0 rfl rfl dX4_takeOut_19 ?_
      refine x_get X w hM.mm hM.fm fq_X4_takeOut_42 rfl dX4_takeOut_20 ?_
      refine x_icmp_ge (tgt := 40) X (by omega) (by decide) dX4_takeOut_23 (fun hb23 => ?_) (fun hb23 => ?_)
      · refine x_al_n X hl 0 rfl rfl dX4_takeOut_40 ?_
        refine x_get X w hM.mm hM.fm fq_X4_takeOut_25 rfl dX4_takeOut_41 ?_
        refine x_il_n X hl 2 rfl rfl dX4_takeOut_44 ?_
        refine x_dup2 X rfl rfl dX4_takeOut_45 ?_
        refine x_ialdv (v := (gZ σ) (pw (gZ σ) (gK σ) pl)) X w hM.m8 hM.f8 (by omega) (hz (pw (gZ σ) (gK σ) pl) (by omega) (by omega)) dX4_takeOut_46 ?_
        refine x_iconst X dX4_takeOut_47 ?_
        refine x_isub X dX4_takeOut_48 ?_
        refine x_iast X w hM.m8 hM.f8 (by omega) dX4_takeOut_49 (fun H locs w => ?_)
        obtain ⟨f50, zz50, w, hM, hF, hz50⟩ : ∃ f9 z9, XW D A s.heap L f9 H locs ∧ ML cs L f9 mo B t ((gN σ) - 1) (gK σ) (gT σ) (gP σ) (gB σ) (gS σ) g1 z9 ww ∧ FM f0 f9 mo B ∧ (∀ j, 0 ≤ j → j < gK σ → z9 j = (uI (gZ σ) (pw (gZ σ) (gK σ) pl) (((gZ σ) (pw (gZ σ) (gK σ) pl)) - 1)) j) := ⟨_, _, w, hM.zw, hF.a 8, ag_u hz⟩
        refine x_al_n X hl 0 rfl rfl dX4_takeOut_50 ?_
        refine x_get X w hM.mm hM.fm fq_X4_takeOut_25 rfl dX4_takeOut_51 ?_
        refine x_il_n X hl 2 rfl rfl dX4_takeOut_54 ?_
        refine x_ialdv (v := ((gZ σ) (pw (gZ σ) (gK σ) pl)) - 1) X w hM.m8 hM.f8 (by omega) ((hz50 (pw (gZ σ) (gK σ) pl) (by omega) (by omega)).trans (uI_s _ _ _)) dX4_takeOut_55 ?_
        refine x_if_ne (tgt := 67) X (by omega) (by decide) dX4_takeOut_56 (fun hb56 => ?_) (fun hb56 => ?_)
        · refine x_al_n X hl 0 rfl rfl dX4_takeOut_67 ?_
          refine x_get X w hM.mm hM.fm fq_X4_takeOut_25 rfl dX4_takeOut_68 ?_
          refine x_il_n X hl 2 rfl rfl dX4_takeOut_71 ?_
          refine x_ialdv (v := ((gZ σ) (pw (gZ σ) (gK σ) pl)) - 1) X w hM.m8 hM.f8 (by omega) ((hz50 (pw (gZ σ) (gK σ) pl) (by omega) (by omega)).trans (uI_s _ _ _)) dX4_takeOut_72 ?_
          refine x_iconst X dX4_takeOut_73 ?_
          refine x_icmp_ne (tgt := 90) X (by omega) (by decide) dX4_takeOut_74 (fun hb74 => ?_) (fun hb74 => ?_)
          · refine x_al_n X hl 0 rfl rfl dX4_takeOut_90 ?_
            refine x_al_n X hl 0 rfl rfl dX4_takeOut_91 ?_
            refine x_get X w hM.mm hM.fm fq_X4_takeOut_28 rfl dX4_takeOut_92 ?_
            have hkb := (tk_ok hI.z1 (hI.pgr hpl)).1
            refine x_al_n X hl 0 rfl rfl dX4_takeOut_95 ?_
            refine x_get X w hM.mm hM.fm fq_X4_takeOut_45 rfl dX4_takeOut_96 ?_
            refine x_icmp_lt (tgt := 106) X (by omega) (by decide) dX4_takeOut_99 (fun hb99 => ?_) (fun hb99 => ?_)
            · refine x_al_n X hl 0 rfl rfl dX4_takeOut_106 ?_
              refine x_get X w hM.mm hM.fm fq_X4_takeOut_28 rfl dX4_takeOut_107 ?_
              refine x_put X w hM.mm hM.fm fp_X4_takeOut_28 rfl rfl (Nat.le_of_ble_eq_true rfl) rfl dX4_takeOut_110 (fun H locs w => ?_)
              obtain ⟨f113, w, hM, hF⟩ : ∃ f9, XW D A s.heap L f9 H locs ∧ ML cs L f9 mo B t ((gN σ) - 1) (gK σ) (gT σ) (gP σ) (gB σ) (gS σ) g1 zz50 ww ∧ FM f0 f9 mo B := ⟨_, w, hM.fld _ _ _ _ _ _ _, hF.m⟩
              refine x_vret X w hr hlk ⟨by decide, by decide⟩ dX4_takeOut_113 ?_
              have hc9 : ¬ (gZ σ (pw (gZ σ) (gK σ) pl) - 1 = 1 ∧ 1 < gK σ) := by omega
              have eK : tkK (gZ σ) (gK σ) (pw (gZ σ) (gK σ) pl) = gK σ := (if_neg hb56).trans (if_neg hc9)
              have eZ : tkZ (gZ σ) (gK σ) (pw (gZ σ) (gK σ) pl) = tk1 (gZ σ) (pw (gZ σ) (gK σ) pl) := (if_neg hb56).trans (if_neg hc9)
              have eS : gS (oTake pl σ) = gS σ := if_neg (by rw [eK]; show ¬ gK σ ≤ gS σ; omega)
              refine ⟨rfl, rfl, hF, g1, zz50, ww, ?_, ag_g (p := pl) hg hpl.1 (fun c hc j h8 h9 => (h1 c hc).2 j (by omega)), ?_, hw⟩
              · show ML cs L _ mo B t _ (tkK (gZ σ) (gK σ) (pw (gZ σ) (gK σ) pl)) _ _ _ (gS (oTake pl σ)) _ _ _
                rw [eK, eS]; exact hM
              · show ∀ j, 0 ≤ j → j < tkK (gZ σ) (gK σ) (pw (gZ σ) (gK σ) pl) → _ = tkZ (gZ σ) (gK σ) (pw (gZ σ) (gK σ) pl) j
                rw [eK, eZ]; exact hz50
            · refine x_iconst X dX4_takeOut_102 ?_
              refine x_goto (tgt := 110) X (by decide) dX4_takeOut_103 ?_
              refine x_put X w hM.mm hM.fm fp_X4_takeOut_28 rfl rfl (Nat.le_of_ble_eq_true rfl) rfl dX4_takeOut_110 (fun H locs w => ?_)
              obtain ⟨f113, w, hM, hF⟩ : ∃ f9, XW D A s.heap L f9 H locs ∧ ML cs L f9 mo B t ((gN σ) - 1) (gK σ) (gT σ) (gP σ) (gB σ) (-1) g1 zz50 ww ∧ FM f0 f9 mo B := ⟨_, w, hM.fld _ _ _ _ _ _ _, hF.m⟩
              refine x_vret X w hr hlk ⟨by decide, by decide⟩ dX4_takeOut_113 ?_
              have hc9 : ¬ (gZ σ (pw (gZ σ) (gK σ) pl) - 1 = 1 ∧ 1 < gK σ) := by omega
              have eK : tkK (gZ σ) (gK σ) (pw (gZ σ) (gK σ) pl) = gK σ := (if_neg hb56).trans (if_neg hc9)
              have eZ : tkZ (gZ σ) (gK σ) (pw (gZ σ) (gK σ) pl) = tk1 (gZ σ) (pw (gZ σ) (gK σ) pl) := (if_neg hb56).trans (if_neg hc9)
              have eS : gS (oTake pl σ) = -1 := if_pos (by rw [eK]; show gK σ ≤ gS σ; omega)
              refine ⟨rfl, rfl, hF, g1, zz50, ww, ?_, ag_g (p := pl) hg hpl.1 (fun c hc j h8 h9 => (h1 c hc).2 j (by omega)), ?_, hw⟩
              · show ML cs L _ mo B t _ (tkK (gZ σ) (gK σ) (pw (gZ σ) (gK σ) pl)) _ _ _ (gS (oTake pl σ)) _ _ _
                rw [eK, eS]; exact hM
              · show ∀ j, 0 ≤ j → j < tkK (gZ σ) (gK σ) (pw (gZ σ) (gK σ) pl) → _ = tkZ (gZ σ) (gK σ) (pw (gZ σ) (gK σ) pl) j
                rw [eK, eZ]; exact hz50
          · refine x_al_n X hl 0 rfl rfl dX4_takeOut_77 ?_
            refine x_get X w hM.mm hM.fm fq_X4_takeOut_45 rfl dX4_takeOut_78 ?_
            refine x_iconst X dX4_takeOut_81 ?_
            refine x_icmp_le (tgt := 90) X (by omega) (by decide) dX4_takeOut_82 (fun hb82 => ?_) (fun hb82 => ?_)
            · refine x_al_n X hl 0 rfl rfl dX4_takeOut_90 ?_
              refine x_al_n X hl 0 rfl rfl dX4_takeOut_91 ?_
              refine x_get X w hM.mm hM.fm fq_X4_takeOut_28 rfl dX4_takeOut_92 ?_
              have hkb := (tk_ok hI.z1 (hI.pgr hpl)).1
              refine x_al_n X hl 0 rfl rfl dX4_takeOut_95 ?_
              refine x_get X w hM.mm hM.fm fq_X4_takeOut_45 rfl dX4_takeOut_96 ?_
              refine x_icmp_lt (tgt := 106) X (by omega) (by decide) dX4_takeOut_99 (fun hb99 => ?_) (fun hb99 => ?_)
              · refine x_al_n X hl 0 rfl rfl dX4_takeOut_106 ?_
                refine x_get X w hM.mm hM.fm fq_X4_takeOut_28 rfl dX4_takeOut_107 ?_
                refine x_put X w hM.mm hM.fm fp_X4_takeOut_28 rfl rfl (Nat.le_of_ble_eq_true rfl) rfl dX4_takeOut_110 (fun H locs w => ?_)
                obtain ⟨f113, w, hM, hF⟩ : ∃ f9, XW D A s.heap L f9 H locs ∧ ML cs L f9 mo B t ((gN σ) - 1) (gK σ) (gT σ) (gP σ) (gB σ) (gS σ) g1 zz50 ww ∧ FM f0 f9 mo B := ⟨_, w, hM.fld _ _ _ _ _ _ _, hF.m⟩
                refine x_vret X w hr hlk ⟨by decide, by decide⟩ dX4_takeOut_113 ?_
                have hc9 : ¬ (gZ σ (pw (gZ σ) (gK σ) pl) - 1 = 1 ∧ 1 < gK σ) := by omega
                have eK : tkK (gZ σ) (gK σ) (pw (gZ σ) (gK σ) pl) = gK σ := (if_neg hb56).trans (if_neg hc9)
                have eZ : tkZ (gZ σ) (gK σ) (pw (gZ σ) (gK σ) pl) = tk1 (gZ σ) (pw (gZ σ) (gK σ) pl) := (if_neg hb56).trans (if_neg hc9)
                have eS : gS (oTake pl σ) = gS σ := if_neg (by rw [eK]; show ¬ gK σ ≤ gS σ; omega)
                refine ⟨rfl, rfl, hF, g1, zz50, ww, ?_, ag_g (p := pl) hg hpl.1 (fun c hc j h8 h9 => (h1 c hc).2 j (by omega)), ?_, hw⟩
                · show ML cs L _ mo B t _ (tkK (gZ σ) (gK σ) (pw (gZ σ) (gK σ) pl)) _ _ _ (gS (oTake pl σ)) _ _ _
                  rw [eK, eS]; exact hM
                · show ∀ j, 0 ≤ j → j < tkK (gZ σ) (gK σ) (pw (gZ σ) (gK σ) pl) → _ = tkZ (gZ σ) (gK σ) (pw (gZ σ) (gK σ) pl) j
                  rw [eK, eZ]; exact hz50
              · refine x_iconst X dX4_takeOut_102 ?_
                refine x_goto (tgt := 110) X (by decide) dX4_takeOut_103 ?_
                refine x_put X w hM.mm hM.fm fp_X4_takeOut_28 rfl rfl (Nat.le_of_ble_eq_true rfl) rfl dX4_takeOut_110 (fun H locs w => ?_)
                obtain ⟨f113, w, hM, hF⟩ : ∃ f9, XW D A s.heap L f9 H locs ∧ ML cs L f9 mo B t ((gN σ) - 1) (gK σ) (gT σ) (gP σ) (gB σ) (-1) g1 zz50 ww ∧ FM f0 f9 mo B := ⟨_, w, hM.fld _ _ _ _ _ _ _, hF.m⟩
                refine x_vret X w hr hlk ⟨by decide, by decide⟩ dX4_takeOut_113 ?_
                have hc9 : ¬ (gZ σ (pw (gZ σ) (gK σ) pl) - 1 = 1 ∧ 1 < gK σ) := by omega
                have eK : tkK (gZ σ) (gK σ) (pw (gZ σ) (gK σ) pl) = gK σ := (if_neg hb56).trans (if_neg hc9)
                have eZ : tkZ (gZ σ) (gK σ) (pw (gZ σ) (gK σ) pl) = tk1 (gZ σ) (pw (gZ σ) (gK σ) pl) := (if_neg hb56).trans (if_neg hc9)
                have eS : gS (oTake pl σ) = -1 := if_pos (by rw [eK]; show gK σ ≤ gS σ; omega)
                refine ⟨rfl, rfl, hF, g1, zz50, ww, ?_, ag_g (p := pl) hg hpl.1 (fun c hc j h8 h9 => (h1 c hc).2 j (by omega)), ?_, hw⟩
                · show ML cs L _ mo B t _ (tkK (gZ σ) (gK σ) (pw (gZ σ) (gK σ) pl)) _ _ _ (gS (oTake pl σ)) _ _ _
                  rw [eK, eS]; exact hM
                · show ∀ j, 0 ≤ j → j < tkK (gZ σ) (gK σ) (pw (gZ σ) (gK σ) pl) → _ = tkZ (gZ σ) (gK σ) (pw (gZ σ) (gK σ) pl) j
                  rw [eK, eZ]; exact hz50
            · have hz4b : ∀ j, 0 ≤ j → j < gK σ → 0 ≤ (uI (gZ σ) (pw (gZ σ) (gK σ) pl) (((gZ σ) (pw (gZ σ) (gK σ) pl)) - 1)) j ∧ (uI (gZ σ) (pw (gZ σ) (gK σ) pl) (((gZ σ) (pw (gZ σ) (gK σ) pl)) - 1)) j ≤ 4 := by
                intro j h1 h2
                by_cases h3 : j = pw (gZ σ) (gK σ) pl
                · rw [h3, uI_s]; omega
                · rw [uI_n _ _ h3]; exact hz4 j h1 h2
              have hus : (uI (gZ σ) (pw (gZ σ) (gK σ) pl) (((gZ σ) (pw (gZ σ) (gK σ) pl)) - 1)) (pw (gZ σ) (gK σ) pl) = gZ σ (pw (gZ σ) (gK σ) pl) - 1 := uI_s _ _ _
              refine x_al_n X hl 0 rfl rfl dX4_takeOut_85 ?_
              refine x_il_n X hl 2 rfl rfl dX4_takeOut_86 ?_
              refine x_callV (As := [.int (iI (pw (gZ σ) (gK σ) pl))]) (rest := []) (c1 := 0) (s1 := 0) X w hA (c_X4_settle l D cs L f50 mo B t ((gN σ) - 1) (gK σ) (gT σ) (gP σ) (gB σ) (gS σ) g1 zz50 ww (uI (gZ σ) (pw (gZ σ) (gK σ) pl) (((gZ σ) (pw (gZ σ) (gK σ) pl)) - 1)) (pw (gZ σ) (gK σ) pl) hM hz50 (by omega) hz4b) k_X4_takeOut_X4_settle (by decide) hM.mm hM.fm rfl rfl rfl hl rfl (Nat.le_of_ble_eq_true rfl) (by decide) rfl rfl dX4_takeOut_87 (fun v L1 f1 H locs w hp => ?_)
              obtain ⟨rfl, rfl, hfm, zz87, hM, hz87⟩ := hp
              have hF := hF.tr hfm
              show W p l e _ s m _ below meth c _ _ _ _ _ (F0 m 90 ls [])
              refine x_al_n X hl 0 rfl rfl dX4_takeOut_90 ?_
              refine x_al_n X hl 0 rfl rfl dX4_takeOut_91 ?_
              refine x_get X w hM.mm hM.fm fq_X4_takeOut_28 rfl dX4_takeOut_92 ?_
              have hkb := (tk_ok hI.z1 (hI.pgr hpl)).1
              have hc9 : gZ σ (pw (gZ σ) (gK σ) pl) - 1 = 1 ∧ 1 < gK σ := by omega
              have eK : tkK (gZ σ) (gK σ) (pw (gZ σ) (gK σ) pl) = mvK (uI (gZ σ) (pw (gZ σ) (gK σ) pl) (((gZ σ) (pw (gZ σ) (gK σ) pl)) - 1)) (gK σ) (bjA (uI (gZ σ) (pw (gZ σ) (gK σ) pl) (((gZ σ) (pw (gZ σ) (gK σ) pl)) - 1)) (gK σ) (pw (gZ σ) (gK σ) pl)) := (if_neg hb56).trans (if_pos hc9)
              rw [eK] at hkb
              refine x_al_n X hl 0 rfl rfl dX4_takeOut_95 ?_
              refine x_get X w hM.mm hM.fm fq_X4_takeOut_45 rfl dX4_takeOut_96 ?_
              refine x_icmp_lt (tgt := 106) X (by omega) (by decide) dX4_takeOut_99 (fun hb99 => ?_) (fun hb99 => ?_)
              · refine x_al_n X hl 0 rfl rfl dX4_takeOut_106 ?_
                refine x_get X w hM.mm hM.fm fq_X4_takeOut_28 rfl dX4_takeOut_107 ?_
                refine x_put X w hM.mm hM.fm fp_X4_takeOut_28 rfl rfl (Nat.le_of_ble_eq_true rfl) rfl dX4_takeOut_110 (fun H locs w => ?_)
                obtain ⟨f113, w, hM, hF⟩ : ∃ f9, XW D A s.heap L f9 H locs ∧ ML cs L f9 mo B t ((gN σ) - 1) (mvK (uI (gZ σ) (pw (gZ σ) (gK σ) pl) (((gZ σ) (pw (gZ σ) (gK σ) pl)) - 1)) (gK σ) (bjA (uI (gZ σ) (pw (gZ σ) (gK σ) pl) (((gZ σ) (pw (gZ σ) (gK σ) pl)) - 1)) (gK σ) (pw (gZ σ) (gK σ) pl))) (gT σ) (gP σ) (gB σ) (gS σ) g1 zz87 ww ∧ FM f0 f9 mo B := ⟨_, w, hM.fld _ _ _ _ _ _ _, hF.m⟩
                refine x_vret X w hr hlk ⟨by decide, by decide⟩ dX4_takeOut_113 ?_
                have hc9 : gZ σ (pw (gZ σ) (gK σ) pl) - 1 = 1 ∧ 1 < gK σ := by omega
                have eK : tkK (gZ σ) (gK σ) (pw (gZ σ) (gK σ) pl) = mvK (tk1 (gZ σ) (pw (gZ σ) (gK σ) pl)) (gK σ) (bjA (tk1 (gZ σ) (pw (gZ σ) (gK σ) pl)) (gK σ) (pw (gZ σ) (gK σ) pl)) := (if_neg hb56).trans (if_pos hc9)
                have eZ : tkZ (gZ σ) (gK σ) (pw (gZ σ) (gK σ) pl) = mvZ (tk1 (gZ σ) (pw (gZ σ) (gK σ) pl)) (bjA (tk1 (gZ σ) (pw (gZ σ) (gK σ) pl)) (gK σ) (pw (gZ σ) (gK σ) pl)) (bjB (tk1 (gZ σ) (pw (gZ σ) (gK σ) pl)) (gK σ) (pw (gZ σ) (gK σ) pl)) := (if_neg hb56).trans (if_pos hc9)
                have eS : gS (oTake pl σ) = gS σ := if_neg (by rw [eK]; show ¬ mvK (uI (gZ σ) (pw (gZ σ) (gK σ) pl) (((gZ σ) (pw (gZ σ) (gK σ) pl)) - 1)) (gK σ) (bjA (uI (gZ σ) (pw (gZ σ) (gK σ) pl) (((gZ σ) (pw (gZ σ) (gK σ) pl)) - 1)) (gK σ) (pw (gZ σ) (gK σ) pl)) ≤ gS σ; omega)
                refine ⟨rfl, rfl, hF, g1, zz87, ww, ?_, ag_g (p := pl) hg hpl.1 (fun c hc j h8 h9 => (h1 c hc).2 j (by omega)), ?_, hw⟩
                · show ML cs L _ mo B t _ (tkK (gZ σ) (gK σ) (pw (gZ σ) (gK σ) pl)) _ _ _ (gS (oTake pl σ)) _ _ _
                  rw [eK, eS]; exact hM
                · show ∀ j, 0 ≤ j → j < tkK (gZ σ) (gK σ) (pw (gZ σ) (gK σ) pl) → _ = tkZ (gZ σ) (gK σ) (pw (gZ σ) (gK σ) pl) j
                  rw [eK, eZ]; exact hz87
              · refine x_iconst X dX4_takeOut_102 ?_
                refine x_goto (tgt := 110) X (by decide) dX4_takeOut_103 ?_
                refine x_put X w hM.mm hM.fm fp_X4_takeOut_28 rfl rfl (Nat.le_of_ble_eq_true rfl) rfl dX4_takeOut_110 (fun H locs w => ?_)
                obtain ⟨f113, w, hM, hF⟩ : ∃ f9, XW D A s.heap L f9 H locs ∧ ML cs L f9 mo B t ((gN σ) - 1) (mvK (uI (gZ σ) (pw (gZ σ) (gK σ) pl) (((gZ σ) (pw (gZ σ) (gK σ) pl)) - 1)) (gK σ) (bjA (uI (gZ σ) (pw (gZ σ) (gK σ) pl) (((gZ σ) (pw (gZ σ) (gK σ) pl)) - 1)) (gK σ) (pw (gZ σ) (gK σ) pl))) (gT σ) (gP σ) (gB σ) (-1) g1 zz87 ww ∧ FM f0 f9 mo B := ⟨_, w, hM.fld _ _ _ _ _ _ _, hF.m⟩
                refine x_vret X w hr hlk ⟨by decide, by decide⟩ dX4_takeOut_113 ?_
                have hc9 : gZ σ (pw (gZ σ) (gK σ) pl) - 1 = 1 ∧ 1 < gK σ := by omega
                have eK : tkK (gZ σ) (gK σ) (pw (gZ σ) (gK σ) pl) = mvK (tk1 (gZ σ) (pw (gZ σ) (gK σ) pl)) (gK σ) (bjA (tk1 (gZ σ) (pw (gZ σ) (gK σ) pl)) (gK σ) (pw (gZ σ) (gK σ) pl)) := (if_neg hb56).trans (if_pos hc9)
                have eZ : tkZ (gZ σ) (gK σ) (pw (gZ σ) (gK σ) pl) = mvZ (tk1 (gZ σ) (pw (gZ σ) (gK σ) pl)) (bjA (tk1 (gZ σ) (pw (gZ σ) (gK σ) pl)) (gK σ) (pw (gZ σ) (gK σ) pl)) (bjB (tk1 (gZ σ) (pw (gZ σ) (gK σ) pl)) (gK σ) (pw (gZ σ) (gK σ) pl)) := (if_neg hb56).trans (if_pos hc9)
                have eS : gS (oTake pl σ) = -1 := if_pos (by rw [eK]; show mvK (uI (gZ σ) (pw (gZ σ) (gK σ) pl) (((gZ σ) (pw (gZ σ) (gK σ) pl)) - 1)) (gK σ) (bjA (uI (gZ σ) (pw (gZ σ) (gK σ) pl) (((gZ σ) (pw (gZ σ) (gK σ) pl)) - 1)) (gK σ) (pw (gZ σ) (gK σ) pl)) ≤ gS σ; omega)
                refine ⟨rfl, rfl, hF, g1, zz87, ww, ?_, ag_g (p := pl) hg hpl.1 (fun c hc j h8 h9 => (h1 c hc).2 j (by omega)), ?_, hw⟩
                · show ML cs L _ mo B t _ (tkK (gZ σ) (gK σ) (pw (gZ σ) (gK σ) pl)) _ _ _ (gS (oTake pl σ)) _ _ _
                  rw [eK, eS]; exact hM
                · show ∀ j, 0 ≤ j → j < tkK (gZ σ) (gK σ) (pw (gZ σ) (gK σ) pl) → _ = tkZ (gZ σ) (gK σ) (pw (gZ σ) (gK σ) pl) j
                  rw [eK, eZ]; exact hz87
        · refine x_al_n X hl 0 rfl rfl dX4_takeOut_59 ?_
          refine x_il_n X hl 2 rfl rfl dX4_takeOut_60 ?_
          refine x_callV (As := [.int (iI (pw (gZ σ) (gK σ) pl))]) (rest := []) (c1 := 0) (s1 := 0) X w hA (c_X4_dropPage l D cs L f50 mo B t ((gN σ) - 1) (gK σ) (gT σ) (gP σ) (gB σ) (gS σ) g1 zz50 ww (uI (gZ σ) (pw (gZ σ) (gK σ) pl) (((gZ σ) (pw (gZ σ) (gK σ) pl)) - 1)) (pw (gZ σ) (gK σ) pl) hM hz50 (by omega)) k_X4_takeOut_X4_dropPage (by decide) hM.mm hM.fm rfl rfl rfl hl rfl (Nat.le_of_ble_eq_true rfl) (by decide) rfl rfl dX4_takeOut_61 (fun v L1 f1 H locs w hp => ?_)
          obtain ⟨rfl, rfl, hfm, zz61, hM, hz61⟩ := hp
          have hF := hF.tr hfm
          show W p l e _ s m _ below meth c _ _ _ _ _ (F0 m 64 ls [])
          refine x_goto (tgt := 90) X (by decide) dX4_takeOut_64 ?_
          refine x_al_n X hl 0 rfl rfl dX4_takeOut_90 ?_
          refine x_al_n X hl 0 rfl rfl dX4_takeOut_91 ?_
          refine x_get X w hM.mm hM.fm fq_X4_takeOut_28 rfl dX4_takeOut_92 ?_
          have hkb := (tk_ok hI.z1 (hI.pgr hpl)).1
          refine x_al_n X hl 0 rfl rfl dX4_takeOut_95 ?_
          refine x_get X w hM.mm hM.fm fq_X4_takeOut_45 rfl dX4_takeOut_96 ?_
          refine x_icmp_lt (tgt := 106) X (by omega) (by decide) dX4_takeOut_99 (fun hb99 => ?_) (fun hb99 => ?_)
          · refine x_al_n X hl 0 rfl rfl dX4_takeOut_106 ?_
            refine x_get X w hM.mm hM.fm fq_X4_takeOut_28 rfl dX4_takeOut_107 ?_
            refine x_put X w hM.mm hM.fm fp_X4_takeOut_28 rfl rfl (Nat.le_of_ble_eq_true rfl) rfl dX4_takeOut_110 (fun H locs w => ?_)
            obtain ⟨f113, w, hM, hF⟩ : ∃ f9, XW D A s.heap L f9 H locs ∧ ML cs L f9 mo B t ((gN σ) - 1) ((gK σ) - 1) (gT σ) (gP σ) (gB σ) (gS σ) g1 zz61 ww ∧ FM f0 f9 mo B := ⟨_, w, hM.fld _ _ _ _ _ _ _, hF.m⟩
            refine x_vret X w hr hlk ⟨by decide, by decide⟩ dX4_takeOut_113 ?_
            have eK : tkK (gZ σ) (gK σ) (pw (gZ σ) (gK σ) pl) = gK σ - 1 := if_pos hb56
            have eZ : tkZ (gZ σ) (gK σ) (pw (gZ σ) (gK σ) pl) = del (tk1 (gZ σ) (pw (gZ σ) (gK σ) pl)) (pw (gZ σ) (gK σ) pl) := if_pos hb56
            have eS : gS (oTake pl σ) = gS σ := if_neg (by rw [eK]; show ¬ (gK σ) - 1 ≤ gS σ; omega)
            refine ⟨rfl, rfl, hF, g1, zz61, ww, ?_, ag_g (p := pl) hg hpl.1 (fun c hc j h8 h9 => (h1 c hc).2 j (by omega)), ?_, hw⟩
            · show ML cs L _ mo B t _ (tkK (gZ σ) (gK σ) (pw (gZ σ) (gK σ) pl)) _ _ _ (gS (oTake pl σ)) _ _ _
              rw [eK, eS]; exact hM
            · show ∀ j, 0 ≤ j → j < tkK (gZ σ) (gK σ) (pw (gZ σ) (gK σ) pl) → _ = tkZ (gZ σ) (gK σ) (pw (gZ σ) (gK σ) pl) j
              rw [eK, eZ]; exact hz61
          · refine x_iconst X dX4_takeOut_102 ?_
            refine x_goto (tgt := 110) X (by decide) dX4_takeOut_103 ?_
            refine x_put X w hM.mm hM.fm fp_X4_takeOut_28 rfl rfl (Nat.le_of_ble_eq_true rfl) rfl dX4_takeOut_110 (fun H locs w => ?_)
            obtain ⟨f113, w, hM, hF⟩ : ∃ f9, XW D A s.heap L f9 H locs ∧ ML cs L f9 mo B t ((gN σ) - 1) ((gK σ) - 1) (gT σ) (gP σ) (gB σ) (-1) g1 zz61 ww ∧ FM f0 f9 mo B := ⟨_, w, hM.fld _ _ _ _ _ _ _, hF.m⟩
            refine x_vret X w hr hlk ⟨by decide, by decide⟩ dX4_takeOut_113 ?_
            have eK : tkK (gZ σ) (gK σ) (pw (gZ σ) (gK σ) pl) = gK σ - 1 := if_pos hb56
            have eZ : tkZ (gZ σ) (gK σ) (pw (gZ σ) (gK σ) pl) = del (tk1 (gZ σ) (pw (gZ σ) (gK σ) pl)) (pw (gZ σ) (gK σ) pl) := if_pos hb56
            have eS : gS (oTake pl σ) = -1 := if_pos (by rw [eK]; show (gK σ) - 1 ≤ gS σ; omega)
            refine ⟨rfl, rfl, hF, g1, zz61, ww, ?_, ag_g (p := pl) hg hpl.1 (fun c hc j h8 h9 => (h1 c hc).2 j (by omega)), ?_, hw⟩
            · show ML cs L _ mo B t _ (tkK (gZ σ) (gK σ) (pw (gZ σ) (gK σ) pl)) _ _ _ (gS (oTake pl σ)) _ _ _
              rw [eK, eS]; exact hM
            · show ∀ j, 0 ≤ j → j < tkK (gZ σ) (gK σ) (pw (gZ σ) (gK σ) pl) → _ = tkZ (gZ σ) (gK σ) (pw (gZ σ) (gK σ) pl) j
              rw [eK, eZ]; exact hz61
      · refine x_al_n X hl 0 rfl rfl dX4_takeOut_26 ?_
        refine x_il_n X hl 3 rfl rfl dX4_takeOut_27 ?_
        refine x_iconst X dX4_takeOut_28 ?_
        refine x_iadd X dX4_takeOut_29 ?_
        refine x_il_n X hl 3 rfl rfl dX4_takeOut_30 ?_
        refine x_callV (As := [.int (iI (i + 1)), .int (iI i)]) (rest := []) (c1 := 0) (s1 := 0) X w hA (c_X4_copy l D cs L f1 mo B t ((gN σ) - 1) (gK σ) (gT σ) (gP σ) (gB σ) (gS σ) g1 zz ww (i + 1) i hM (by omega)) k_X4_takeOut_X4_copy (by decide) hM.mm hM.fm rfl rfl rfl hl rfl (Nat.le_of_ble_eq_true rfl) (by decide) rfl rfl dX4_takeOut_31 (fun v L1 f1 H locs w hp => ?_)
        obtain ⟨rfl, rfl, hfm, g31, hM, hge31⟩ := hp
        have hF := hF.tr hfm
        show W p l e _ s m _ below meth c _ _ _ _ _ (F0 m 34 ls [])
        refine x_iinc (lv' := [(3, .int (iI (i + 1))), (0, .ref mo), (1, .int (iI pl)), (2, .int (iI (pw (gZ σ) (gK σ) pl)))]) X hl 3 rfl (by decide) rfl dX4_takeOut_34 (fun ls hl => ?_)
        refine x_goto (tgt := 18) X (by decide) dX4_takeOut_37 ?_
        refine ih18 (i + 1) f1 g31 _ _ _ (by omega) (by omega) hM hF ?_ w (lv_sub hl [1, 2, 3, 0] rfl)
        · intro c hc
          rw [hge31 c hc]
          have h2 := h1 c hc
          refine ⟨fun j h8 => ?_, fun j h8 => ?_⟩
          · rw [uI_n _ _ (by omega)]; exact h2.1 j (by omega)
          · by_cases h7 : j = i
            · subst h7; rw [uI_s]; show _ = (if j < pl then g c j else g c (j + 1)); rw [if_neg (by omega)]; exact h2.1 _ (by omega)
            · rw [uI_n _ _ h7]; exact h2.2 j (by omega)
  refine loop18 _ pl f16 g _ _ _ (Nat.lt_succ_self _) (by omega) hM hF (fun c hc => ⟨fun _ _ => rfl, fun j h8 => (if_pos h8).symm⟩) w (lv_sub hl [2, 3, 1, 0] rfl)
