/-! a record, the row of records: what they hold, and their methods -/
def bR (g : Nat → Int) : va_E := .inr (0, [.int (iI (g 0)), .int (iI (g 1)), .int (iI (g 2)), .int (iI (g 3)), .int (iI (g 4))])
def BO2 (L : List Nat) (f : Nat → va_E) (n : Int) (r : Int → Option Nat) (R : Rc) : Prop := ∀ j : Int, 0 ≤ j → j < n → ∃ a, r j = some a ∧ a ∈ L ∧ f a = bR (R j)
theorem bR_ne {g : Nat → Int} {fs : List Value} {k : Nat} (hk : k ≠ 0) {f : Nat → va_E} {a b : Nat} (h1 : f a = bR g) (h2 : f b = .inr (k, fs)) : a ≠ b := by
  intro he; rw [he, h2] at h1; unfold bR at h1; injection h1 with h3; injection h3 with h4 h5; exact hk h4
theorem bR_nl {g : Nat → Int} {x : ClassId × vp_A} {f : Nat → va_E} {a b : Nat} (h1 : f a = bR g) (h2 : f b = .inl x) : a ≠ b := by
  intro he; rw [he, h2] at h1; unfold bR at h1; cases h1
theorem BO2.fr {L : List Nat} {f f1 : Nat → va_E} {n : Int} {r : Int → Option Nat} {R : Rc} {br ba : Nat} {fs : List Value} {x : ClassId × vp_A} {k : Nat} (hk : k ≠ 0) (h : BO2 L f n r R) (e1 : f br = .inr (k, fs)) (e2 : f ba = .inl x) (hf : FR f f1 br ba) : BO2 L f1 n r R := by
  intro j h1 h2
  obtain ⟨a, h3, h4, h5⟩ := h j h1 h2
  exact ⟨a, h3, h4, (hf a (bR_ne hk h5 e1) (bR_nl h5 e2)).trans h5⟩
theorem ovP_t {t : Int} {g : Nat → Int} (h : g 4 ≠ -1 ∧ g 4 + 14 < t) : ovP t g = true := decide_eq_true ⟨h.1, h.2⟩
theorem ovP_f {t : Int} {g : Nat → Int} (h : ¬ (g 4 ≠ -1 ∧ g 4 + 14 < t)) : ovP t g = false := decide_eq_false (fun h2 => h ⟨h2.1, h2.2⟩)
theorem amP_t {su dy : Int} {g : Nat → Int} (h : g 4 = -1 ∧ g 1 ≤ su ∧ g 3 ≤ dy) : amP su dy g = true := decide_eq_true h
theorem amP_f {su dy : Int} {g : Nat → Int} (h : ¬ (g 4 = -1 ∧ g 1 ≤ su ∧ g 3 ≤ dy)) : amP su dy g = false := decide_eq_false h
theorem fd_ni {R : Rc} {n v : Int} (h : ¬ (0 ≤ fd R n v ∧ fd R n v < n)) : fd R n v = -1 := by
  rcases fd_or (R := R) (n := n) (v := v) with h1 | h1
  · exact absurd ⟨h1.1, h1.2.1⟩ h
  · exact h1.1
theorem BO2.ins {L : List Nat} {f : Nat → va_E} {n pl : Int} {r r1 r2 : Int → Option Nat} {R : Rc} {a : Nat} {g : Nat → Int} (h : BO2 L f n r R) (hp : 0 ≤ pl ∧ pl ≤ n) (h1 : ∀ j, j ≤ pl → r1 j = r j) (h2 : ∀ j, pl < j → j ≤ n → r1 j = r (j - 1)) (e2 : r2 = uI r1 pl (some a)) (ha : a ∈ L) (hfa : f a = bR g) : BO2 L f (n + 1) r2 (ins R pl g) := by
  intro j h8 h9
  show ∃ b, _ ∧ _ ∧ f b = bR (if j < pl then R j else if j = pl then g else R (j - 1))
  by_cases h3 : j = pl
  · subst h3
    exact ⟨a, by rw [e2, uI_s], ha, by rw [if_neg (by omega), if_pos rfl]; exact hfa⟩
  · rw [e2, uI_n _ _ h3]
    by_cases h4 : j < pl
    · rw [if_pos h4, h1 j (by omega)]; exact h j h8 (by omega)
    · rw [if_neg h4, if_neg h3, h2 j (by omega) (by omega)]; exact h (j - 1) (by omega) (by omega)
theorem BO2.del {L : List Nat} {f : Nat → va_E} {n pl : Int} {r r1 r2 : Int → Option Nat} {R : Rc} (h : BO2 L f n r R) (hp : 0 ≤ pl ∧ pl < n) (h2 : ∀ j, j < n - 1 → r1 j = del r pl j) (e2 : r2 = uI r1 (n - 1) none) : BO2 L f (n - 1) r2 (del R pl) := by
  intro j h8 h9
  rw [e2, uI_n _ _ (by omega), h2 j h9]
  show ∃ b, (if j < pl then r j else r (j + 1)) = some b ∧ _ ∧ f b = bR (if j < pl then R j else R (j + 1))
  by_cases h4 : j < pl
  · rw [if_pos h4, if_pos h4]; exact h j h8 (by omega)
  · rw [if_neg h4, if_neg h4]; exact h (j + 1) (by omega) (by omega)

theorem iw_X0_hasForfeitDay_X0 : ∀ w ∈ wsX00, w ∈ wsX0_hasForfeitDay := by decide +kernel
theorem fq_X0_hasForfeitDay_24 : XF wsX0_hasForfeitDay RX0 24 0 4 := ⟨RX0, TX0, 5, iw_X0_hasForfeitDay_X0, rfl, by decide, by decide +kernel⟩
set_option maxHeartbeats 4000000 in
set_option maxRecDepth 100000 in
theorem c_X0_hasForfeitDay (l : Launch) (D : va_G) (cs : ClassId × ClassId × ClassId) (L : List Nat) (f0 : Nat → va_E) (a : Nat) (g : Nat → Int) (ma : a ∈ L) (fa : f0 a = bR g) (hb4 : -1 ≤ g 4 ∧ g 4 ≤ 5000) : C0 l yX0_hasForfeitDay wsX0_hasForfeitDay ({ frames := 1, cells := 0, slots := 0, locals := 12 } : Room) D cs [.ref a] L f0 (fun v L1 f1 => L = L1 ∧ f0 = f1 ∧ ((v = some (.int (iI 1)) ∧ g 4 ≠ -1) ∨ (v = some (.int (iI 0)) ∧ g 4 = -1))) := by
  refine C0.of (cc := cX0_hasForfeitDay) (maxL := 1) (ret := (some .boolean)) (by decide) rfl (Nat.le_of_ble_eq_true rfl) ?_
  intro p e s m below meth c X hr hlk hin A hA w ls hl
  have hl : lv_has ls 1 [(0, .ref a)] := hl
  refine x_al_n X hl 0 rfl rfl dX0_hasForfeitDay_0 ?_
  refine x_get X w ma fa fq_X0_hasForfeitDay_24 rfl dX0_hasForfeitDay_1 ?_
  refine x_iconst X dX0_hasForfeitDay_4 ?_
  refine x_icmp_eq (tgt := 12) X (by omega) (by decide) dX0_hasForfeitDay_5 (fun hb5 => ?_) (fun hb5 => ?_)
  · refine x_iconst X dX0_hasForfeitDay_12 ?_
    refine x_zret X w hr hlk ⟨by decide, by decide⟩ (by omega) dX0_hasForfeitDay_13 ?_
    exact ⟨rfl, rfl, Or.inr ⟨rfl, by omega⟩⟩
  · refine x_iconst X dX0_hasForfeitDay_8 ?_
    refine x_goto (tgt := 13) X (by decide) dX0_hasForfeitDay_9 ?_
    refine x_zret X w hr hlk ⟨by decide, by decide⟩ (by omega) dX0_hasForfeitDay_13 ?_
    exact ⟨rfl, rfl, Or.inl ⟨rfl, by omega⟩⟩

theorem k_X0_isOverdue_X0_hasForfeitDay : XV wsX0_isOverdue RX0 27 RX0 yX0_hasForfeitDay cX0_hasForfeitDay 1 (some .boolean) wsX0_hasForfeitDay 0 := ⟨gX0_isOverdue_X0_hasForfeitDay, ⟨_, rfl⟩, rfl, by decide, by decide, by decide +kernel⟩
theorem iw_X0_isOverdue_X0 : ∀ w ∈ wsX00, w ∈ wsX0_isOverdue := by decide +kernel
theorem fq_X0_isOverdue_24 : XF wsX0_isOverdue RX0 24 0 4 := ⟨RX0, TX0, 5, iw_X0_isOverdue_X0, rfl, by decide, by decide +kernel⟩
set_option maxHeartbeats 4000000 in
set_option maxRecDepth 100000 in
theorem c_X0_isOverdue (l : Launch) (D : va_G) (cs : ClassId × ClassId × ClassId) (L : List Nat) (f0 : Nat → va_E) (a : Nat) (g : Nat → Int) (t : Int) (ma : a ∈ L) (fa : f0 a = bR g) (hb4 : (-1 ≤ g 4 ∧ g 4 ≤ 5000) ∧ 0 ≤ t ∧ t ≤ 6000) : C0 l yX0_isOverdue wsX0_isOverdue ({ frames := 2, cells := 0, slots := 0, locals := 32 } : Room) D cs [.ref a, .int (iI t)] L f0 (fun v L1 f1 => L = L1 ∧ f0 = f1 ∧ ((v = some (.int (iI 1)) ∧ ovP t g = true) ∨ (v = some (.int (iI 0)) ∧ ovP t g = false))) := by
  refine C0.of (cc := cX0_isOverdue) (maxL := 2) (ret := (some .boolean)) (by decide) rfl (Nat.le_of_ble_eq_true rfl) ?_
  intro p e s m below meth c X hr hlk hin A hA w ls hl
  have hl : lv_has ls 2 [(0, .ref a), (1, .int (iI t))] := hl
  refine x_al_n X hl 0 rfl rfl dX0_isOverdue_0 ?_
  refine x_callV (As := []) (rest := []) (c1 := 0) (s1 := 0) X w hA (c_X0_hasForfeitDay l D cs L f0 a g ma fa (by omega)) k_X0_isOverdue_X0_hasForfeitDay (by decide) ma fa rfl rfl rfl hl rfl (Nat.le_of_ble_eq_true rfl) (by decide) rfl rfl dX0_isOverdue_1 (fun v L1 f1 H locs w hp => ?_)
  obtain ⟨rfl, rfl, hp⟩ := hp
  rcases hp with ⟨rfl, hq1⟩ | ⟨rfl, hq1⟩
  · show W p l e _ s m _ below meth c _ _ _ _ _ (F0 m 4 ls [.int (iI 1)])
    refine x_ifF_eq (tgt := 22) X (by decide) (by decide) (by decide) dX0_isOverdue_4 ?_
    refine x_il_n X hl 1 rfl rfl dX0_isOverdue_7 ?_
    refine x_al_n X hl 0 rfl rfl dX0_isOverdue_8 ?_
    refine x_get X w ma fa fq_X0_isOverdue_24 rfl dX0_isOverdue_9 ?_
    refine x_bipush X (by decide) dX0_isOverdue_12 ?_
    refine x_iadd X dX0_isOverdue_14 ?_
    refine x_icmp_le (tgt := 22) X (by omega) (by decide) dX0_isOverdue_15 (fun hb15 => ?_) (fun hb15 => ?_)
    · refine x_iconst X dX0_isOverdue_22 ?_
      refine x_zret X w hr hlk ⟨by decide, by decide⟩ (by omega) dX0_isOverdue_23 ?_
      exact ⟨rfl, rfl, Or.inr ⟨rfl, ovP_f (by omega)⟩⟩
    · refine x_iconst X dX0_isOverdue_18 ?_
      refine x_goto (tgt := 23) X (by decide) dX0_isOverdue_19 ?_
      refine x_zret X w hr hlk ⟨by decide, by decide⟩ (by omega) dX0_isOverdue_23 ?_
      exact ⟨rfl, rfl, Or.inl ⟨rfl, ovP_t (by omega)⟩⟩
  · show W p l e _ s m _ below meth c _ _ _ _ _ (F0 m 4 ls [.int (iI 0)])
    refine x_ifT_eq (tgt := 22) X (by decide) (by decide) (by decide) dX0_isOverdue_4 ?_
    refine x_iconst X dX0_isOverdue_22 ?_
    refine x_zret X w hr hlk ⟨by decide, by decide⟩ (by omega) dX0_isOverdue_23 ?_
    exact ⟨rfl, rfl, Or.inr ⟨rfl, ovP_f (by omega)⟩⟩

theorem k_X0_isUnder_X0_hasForfeitDay : XV wsX0_isUnder RX0 27 RX0 yX0_hasForfeitDay cX0_hasForfeitDay 1 (some .boolean) wsX0_hasForfeitDay 0 := ⟨gX0_isUnder_X0_hasForfeitDay, ⟨_, rfl⟩, rfl, by decide, by decide, by decide +kernel⟩
theorem iw_X0_isUnder_X0 : ∀ w ∈ wsX00, w ∈ wsX0_isUnder := by decide +kernel
theorem fq_X0_isUnder_15 : XF wsX0_isUnder RX0 15 0 1 := ⟨RX0, TX0, 5, iw_X0_isUnder_X0, rfl, by decide, by decide +kernel⟩
theorem fq_X0_isUnder_21 : XF wsX0_isUnder RX0 21 0 3 := ⟨RX0, TX0, 5, iw_X0_isUnder_X0, rfl, by decide, by decide +kernel⟩
set_option maxHeartbeats 4000000 in
set_option maxRecDepth 100000 in
theorem c_X0_isUnder (l : Launch) (D : va_G) (cs : ClassId × ClassId × ClassId) (L : List Nat) (f0 : Nat → va_E) (a : Nat) (g : Nat → Int) (su dy : Int) (ma : a ∈ L) (fa : f0 a = bR g) (hb4 : (-1 ≤ g 4 ∧ g 4 ≤ 5000) ∧ (1 ≤ g 1 ∧ g 1 ≤ 10000) ∧ (0 ≤ g 3 ∧ g 3 ≤ 5000) ∧ (0 ≤ su ∧ su ≤ 10000) ∧ 0 ≤ dy ∧ dy ≤ 5000) : C0 l yX0_isUnder wsX0_isUnder ({ frames := 2, cells := 0, slots := 0, locals := 32 } : Room) D cs [.ref a, .int (iI su), .int (iI dy)] L f0 (fun v L1 f1 => L = L1 ∧ f0 = f1 ∧ ((v = some (.int (iI 1)) ∧ amP su dy g = true) ∨ (v = some (.int (iI 0)) ∧ amP su dy g = false))) := by
  refine C0.of (cc := cX0_isUnder) (maxL := 3) (ret := (some .boolean)) (by decide) rfl (Nat.le_of_ble_eq_true rfl) ?_
  intro p e s m below meth c X hr hlk hin A hA w ls hl
  have hl : lv_has ls 3 [(0, .ref a), (1, .int (iI su)), (2, .int (iI dy))] := hl
  refine x_al_n X hl 0 rfl rfl dX0_isUnder_0 ?_
  refine x_callV (As := []) (rest := []) (c1 := 0) (s1 := 0) X w hA (c_X0_hasForfeitDay l D cs L f0 a g ma fa (by omega)) k_X0_isUnder_X0_hasForfeitDay (by decide) ma fa rfl rfl rfl hl rfl (Nat.le_of_ble_eq_true rfl) (by decide) rfl rfl dX0_isUnder_1 (fun v L1 f1 H locs w hp => ?_)
  obtain ⟨rfl, rfl, hp⟩ := hp
  rcases hp with ⟨rfl, hq1⟩ | ⟨rfl, hq1⟩
  · show W p l e _ s m _ below meth c _ _ _ _ _ (F0 m 4 ls [.int (iI 1)])
    refine x_ifT_ne (tgt := 27) X (by decide) (by decide) (by decide) dX0_isUnder_4 ?_
    refine x_iconst X dX0_isUnder_27 ?_
    refine x_zret X w hr hlk ⟨by decide, by decide⟩ (by omega) dX0_isUnder_28 ?_
    exact ⟨rfl, rfl, Or.inr ⟨rfl, amP_f (by omega)⟩⟩
  · show W p l e _ s m _ below meth c _ _ _ _ _ (F0 m 4 ls [.int (iI 0)])
    refine x_ifF_ne (tgt := 27) X (by decide) (by decide) (by decide) dX0_isUnder_4 ?_
    refine x_al_n X hl 0 rfl rfl dX0_isUnder_7 ?_
    refine x_get X w ma fa fq_X0_isUnder_15 rfl dX0_isUnder_8 ?_
    refine x_il_n X hl 1 rfl rfl dX0_isUnder_11 ?_
    refine x_icmp_gt (tgt := 27) X (by omega) (by decide) dX0_isUnder_12 (fun hb12 => ?_) (fun hb12 => ?_)
    · refine x_iconst X dX0_isUnder_27 ?_
      refine x_zret X w hr hlk ⟨by decide, by decide⟩ (by omega) dX0_isUnder_28 ?_
      exact ⟨rfl, rfl, Or.inr ⟨rfl, amP_f (by omega)⟩⟩
    · refine x_al_n X hl 0 rfl rfl dX0_isUnder_15 ?_
      refine x_get X w ma fa fq_X0_isUnder_21 rfl dX0_isUnder_16 ?_
      refine x_il_n X hl 2 rfl rfl dX0_isUnder_19 ?_
      refine x_icmp_gt (tgt := 27) X (by omega) (by decide) dX0_isUnder_20 (fun hb20 => ?_) (fun hb20 => ?_)
      · refine x_iconst X dX0_isUnder_27 ?_
        refine x_zret X w hr hlk ⟨by decide, by decide⟩ (by omega) dX0_isUnder_28 ?_
        exact ⟨rfl, rfl, Or.inr ⟨rfl, amP_f (by omega)⟩⟩
      · refine x_iconst X dX0_isUnder_23 ?_
        refine x_goto (tgt := 28) X (by decide) dX0_isUnder_24 ?_
        refine x_zret X w hr hlk ⟨by decide, by decide⟩ (by omega) dX0_isUnder_28 ?_
        exact ⟨rfl, rfl, Or.inl ⟨rfl, amP_t (by omega)⟩⟩

theorem iw_X1_count_X1 : ∀ w ∈ wsX10, w ∈ wsX1_count := by decide +kernel
theorem fq_X1_count_17 : XF wsX1_count RX1 17 1 1 := ⟨RX1, TX1, 2, iw_X1_count_X1, rfl, by decide, by decide +kernel⟩
set_option maxHeartbeats 4000000 in
set_option maxRecDepth 100000 in
theorem c_X1_count (l : Launch) (D : va_G) (cs : ClassId × ClassId × ClassId) (L : List Nat) (f0 : Nat → va_E) (br ba : Nat) (n : Int) (r : Int → Option Nat) (R : Rc) (hR : RB cs L f0 br ba n r) (hO : BO2 L f0 n r R) : C0 l yX1_count wsX1_count ({ frames := 1, cells := 0, slots := 0, locals := 12 } : Room) D cs [.ref br] L f0 (fun v L1 f1 => L = L1 ∧ f0 = f1 ∧ v = some (.int (iI n))) := by
  refine C0.of (cc := cX1_count) (maxL := 1) (ret := (some .int)) (by decide) rfl (Nat.le_of_ble_eq_true rfl) ?_
  intro p e s m below meth c X hr hlk hin A hA w ls hl
  have hl : lv_has ls 1 [(0, .ref br)] := hl
  refine x_al_n X hl 0 rfl rfl dX1_count_0 ?_
  refine x_get X w hR.mp hR.fp fq_X1_count_17 rfl dX1_count_1 ?_
  refine x_iret X w hr hlk ⟨by decide, by decide⟩ dX1_count_4 ?_
  exact ⟨rfl, rfl, rfl⟩

theorem iw_X1_bailAt_X1 : ∀ w ∈ wsX10, w ∈ wsX1_bailAt := by decide +kernel
theorem fq_X1_bailAt_17 : XF wsX1_bailAt RX1 17 1 1 := ⟨RX1, TX1, 2, iw_X1_bailAt_X1, rfl, by decide, by decide +kernel⟩
theorem fq_X1_bailAt_11 : XF wsX1_bailAt RX1 11 1 0 := ⟨RX1, TX1, 2, iw_X1_bailAt_X1, rfl, by decide, by decide +kernel⟩
set_option maxHeartbeats 4000000 in
set_option maxRecDepth 100000 in
theorem c_X1_bailAt (l : Launch) (D : va_G) (cs : ClassId × ClassId × ClassId) (L : List Nat) (f0 : Nat → va_E) (br ba : Nat) (n : Int) (r : Int → Option Nat) (R : Rc) (pl : Int) (hR : RB cs L f0 br ba n r) (hO : BO2 L f0 n r R) (hpl : (0 ≤ n ∧ n ≤ 80) ∧ -2147483648 ≤ pl ∧ pl < 2147483648) : C0 l yX1_bailAt wsX1_bailAt ({ frames := 1, cells := 0, slots := 0, locals := 12 } : Room) D cs [.ref br, .int (iI pl)] L f0 (fun v L1 f1 => L = L1 ∧ f0 = f1 ∧ ((∃ a, v = some (.ref a) ∧ r pl = some a ∧ a ∈ L ∧ f0 a = bR (R pl) ∧ 0 ≤ pl ∧ pl < n) ∨ (v = some .null ∧ ¬ (0 ≤ pl ∧ pl < n)))) := by
  refine C0.of (cc := cX1_bailAt) (maxL := 2) (ret := (some (.object "PageBail$Bail"))) (by decide) rfl (Nat.le_of_ble_eq_true rfl) ?_
  intro p e s m below meth c X hr hlk hin A hA w ls hl
  have hl : lv_has ls 2 [(0, .ref br), (1, .int (iI pl))] := hl
  refine x_il_n X hl 1 rfl rfl dX1_bailAt_0 ?_
  refine x_if_lt (tgt := 30) X (by omega) (by decide) dX1_bailAt_1 (fun hb1 => ?_) (fun hb1 => ?_)
  · refine x_null X dX1_bailAt_30 ?_
    show W p l e _ s m _ below meth c _ _ _ _ _ (F0 m 31 ls [va_rf none])
    refine x_nret X w hr hlk ⟨by decide, by decide⟩ dX1_bailAt_31 ?_
    exact ⟨rfl, rfl, Or.inr ⟨rfl, by omega⟩⟩
  · refine x_il_n X hl 1 rfl rfl dX1_bailAt_4 ?_
    refine x_al_n X hl 0 rfl rfl dX1_bailAt_5 ?_
    refine x_get X w hR.mp hR.fp fq_X1_bailAt_17 rfl dX1_bailAt_6 ?_
    refine x_icmp_ge (tgt := 30) X (by omega) (by decide) dX1_bailAt_9 (fun hb9 => ?_) (fun hb9 => ?_)
    · refine x_null X dX1_bailAt_30 ?_
      show W p l e _ s m _ below meth c _ _ _ _ _ (F0 m 31 ls [va_rf none])
      refine x_nret X w hr hlk ⟨by decide, by decide⟩ dX1_bailAt_31 ?_
      exact ⟨rfl, rfl, Or.inr ⟨rfl, by omega⟩⟩
    · refine x_il_n X hl 1 rfl rfl dX1_bailAt_12 ?_
      refine x_al_n X hl 0 rfl rfl dX1_bailAt_13 ?_
      refine x_get X w hR.mp hR.fp fq_X1_bailAt_11 rfl dX1_bailAt_14 ?_
      refine x_alenR X w hR.ms hR.fs dX1_bailAt_17 ?_
      refine x_icmpF_ge (tgt := 30) X (by omega) (by omega) (by decide) dX1_bailAt_18 ?_
      refine x_al_n X hl 0 rfl rfl dX1_bailAt_21 ?_
      refine x_get X w hR.mp hR.fp fq_X1_bailAt_11 rfl dX1_bailAt_22 ?_
      refine x_il_n X hl 1 rfl rfl dX1_bailAt_25 ?_
      obtain ⟨a26, ha26, hm26, hf26⟩ := hO (pl) (by omega) (by omega)
      refine x_aaldv (b := a26) X w hR.ms hR.fs (by omega) (ha26) dX1_bailAt_26 ?_
      refine x_goto (tgt := 31) X (by decide) dX1_bailAt_27 ?_
      show W p l e _ s m _ below meth c _ _ _ _ _ (F0 m 31 ls [va_rf (some a26)])
      refine x_nret X w hr hlk ⟨by decide, by decide⟩ dX1_bailAt_31 ?_
      exact ⟨rfl, rfl, Or.inl ⟨_, rfl, ha26, hm26, hf26, by omega⟩⟩

theorem k_X1_numberAt_X1_bailAt : XV wsX1_numberAt RX1 21 RX1 yX1_bailAt cX1_bailAt 2 (some (.object "PageBail$Bail")) wsX1_bailAt 1 := ⟨gX1_numberAt_X1_bailAt, ⟨_, rfl⟩, rfl, by decide, by decide, by decide +kernel⟩
theorem iw_X1_numberAt_X0 : ∀ w ∈ wsX00, w ∈ wsX1_numberAt := by decide +kernel
theorem fq_X1_numberAt_25 : XF wsX1_numberAt RX1 25 0 0 := ⟨RX0, TX0, 5, iw_X1_numberAt_X0, rfl, by decide, by decide +kernel⟩
set_option maxHeartbeats 4000000 in
set_option maxRecDepth 100000 in
theorem c_X1_numberAt (l : Launch) (D : va_G) (cs : ClassId × ClassId × ClassId) (L : List Nat) (f0 : Nat → va_E) (br ba : Nat) (n : Int) (r : Int → Option Nat) (R : Rc) (pl : Int) (hR : RB cs L f0 br ba n r) (hO : BO2 L f0 n r R) (hpl : (0 ≤ n ∧ n ≤ 80) ∧ -2147483648 ≤ pl ∧ pl < 2147483648) : C0 l yX1_numberAt wsX1_numberAt ({ frames := 2, cells := 0, slots := 0, locals := 33 } : Room) D cs [.ref br, .int (iI pl)] L f0 (fun v L1 f1 => L = L1 ∧ f0 = f1 ∧ ((v = some (.int (iI (R pl 0))) ∧ 0 ≤ pl ∧ pl < n) ∨ (v = some (.int (iI (-1))) ∧ ¬ (0 ≤ pl ∧ pl < n)))) := by
  refine C0.of (cc := cX1_numberAt) (maxL := 3) (ret := (some .int)) (by decide) rfl (Nat.le_of_ble_eq_true rfl) ?_
  intro p e s m below meth c X hr hlk hin A hA w ls hl
  have hl : lv_has ls 3 [(0, .ref br), (1, .int (iI pl))] := hl
  refine x_al_n X hl 0 rfl rfl dX1_numberAt_0 ?_
  refine x_il_n X hl 1 rfl rfl dX1_numberAt_1 ?_
  refine x_callV (As := [.int (iI pl)]) (rest := []) (c1 := 0) (s1 := 0) X w hA (c_X1_bailAt l D cs L f0 br ba n r R pl hR hO (by omega)) k_X1_numberAt_X1_bailAt (by decide) hR.mp hR.fp rfl rfl rfl hl rfl (Nat.le_of_ble_eq_true rfl) (by decide) rfl rfl dX1_numberAt_2 (fun v L1 f1 H locs w hp => ?_)
  obtain ⟨rfl, rfl, hp⟩ := hp
  rcases hp with ⟨a2, rfl, ha2, hm2, hf2, hq2⟩ | ⟨rfl, hq2⟩
  · show W p l e _ s m _ below meth c _ _ _ _ _ (F0 m 5 ls [.ref a2])
    refine x_as_n (lv' := [(2, .ref a2), (0, .ref br), (1, .int (iI pl))]) X hl rfl (by decide) rfl dX1_numberAt_5 (fun ls hl => ?_)
    refine x_al_n X hl 0 rfl rfl dX1_numberAt_6 ?_
    refine x_ifnonnull_r (tgt := 14) X (by decide) dX1_numberAt_7 ?_
    refine x_al_n X hl 0 rfl rfl dX1_numberAt_14 ?_
    refine x_get X w hm2 hf2 fq_X1_numberAt_25 rfl dX1_numberAt_15 ?_
    refine x_iret X w hr hlk ⟨by decide, by decide⟩ dX1_numberAt_18 ?_
    exact ⟨rfl, rfl, Or.inl ⟨rfl, by omega⟩⟩
  · show W p l e _ s m _ below meth c _ _ _ _ _ (F0 m 5 ls [.null])
    refine x_asN_n (lv' := [(2, .null), (0, .ref br), (1, .int (iI pl))]) X hl rfl (by decide) rfl dX1_numberAt_5 (fun ls hl => ?_)
    refine x_alN_n X hl 0 rfl rfl dX1_numberAt_6 ?_
    refine x_ifnonnull_n X dX1_numberAt_7 ?_
    refine x_iconst X dX1_numberAt_10 ?_
    refine x_goto (tgt := 18) X (by decide) dX1_numberAt_11 ?_
    refine x_iret X w hr hlk ⟨by decide, by decide⟩ dX1_numberAt_18 ?_
    exact ⟨rfl, rfl, Or.inr ⟨rfl, by omega⟩⟩

theorem iw_X1_countUpTo_X1 : ∀ w ∈ wsX10, w ∈ wsX1_countUpTo := by decide +kernel
theorem fq_X1_countUpTo_17 : XF wsX1_countUpTo RX1 17 1 1 := ⟨RX1, TX1, 2, iw_X1_countUpTo_X1, rfl, by decide, by decide +kernel⟩
theorem k_X1_countUpTo_X1_numberAt : XV wsX1_countUpTo RX1 28 RX1 yX1_numberAt cX1_numberAt 3 (some .int) wsX1_numberAt 1 := ⟨gX1_countUpTo_X1_numberAt, ⟨_, rfl⟩, rfl, by decide, by decide, by decide +kernel⟩
set_option maxHeartbeats 4000000 in
set_option maxRecDepth 100000 in
theorem c_X1_countUpTo (l : Launch) (D : va_G) (cs : ClassId × ClassId × ClassId) (L : List Nat) (f0 : Nat → va_E) (br ba : Nat) (n : Int) (r : Int → Option Nat) (R : Rc) (pl : Int) (hR : RB cs L f0 br ba n r) (hO : BO2 L f0 n r R) (hpl : (0 ≤ n ∧ n ≤ 80) ∧ -2147483648 ≤ pl ∧ pl < 2147483648) (hR0 : ∀ j, 0 ≤ j → j < n → 0 ≤ R j 0 ∧ R j 0 ≤ 999) : C0 l yX1_countUpTo wsX1_countUpTo ({ frames := 3, cells := 0, slots := 0, locals := 55 } : Room) D cs [.ref br, .int (iI pl)] L f0 (fun v L1 f1 => L = L1 ∧ f0 = f1 ∧ v = some (.int (iI (cu R n pl)))) := by
  refine C0.of (cc := cX1_countUpTo) (maxL := 3) (ret := (some .int)) (by decide) rfl (Nat.le_of_ble_eq_true rfl) ?_
  intro p e s m below meth c X hr hlk hin A hA w ls hl
  have hl : lv_has ls 3 [(0, .ref br), (1, .int (iI pl))] := hl
  refine x_iconst X dX1_countUpTo_0 ?_
  refine x_is_n (lv' := [(2, .int (iI 0)), (0, .ref br), (1, .int (iI pl))]) X hl rfl (by decide) rfl dX1_countUpTo_1 (fun ls hl => ?_)
  have loop2 : ∀ (N9 : Nat) (i : Int) (H : Heap) (locs : List Loc) (ls : Array Slot), (n - i).toNat < N9 → (0 ≤ i ∧ i ≤ n) → (∀ j, 0 ≤ j → j < i → R j 0 ≤ pl) → XW D A s.heap L f0 H locs → lv_has ls 3 [(0, .ref br), (1, .int (iI pl)), (2, .int (iI i))] → W p l e ({ frames := 3, cells := 0, slots := 0, locals := 55 } : Room) s m ([.ref br, .int (iI pl)] : List Value).toArray below meth c H locs 0 0 (MQ below (CQ D cs A (fun v L1 f1 => L = L1 ∧ f0 = f1 ∧ v = some (.int (iI (cu R n pl))))) ([.ref br, .int (iI pl)] : List Value).toArray s 0 0 A) (F0 m 2 ls []) := by
    intro N9
    induction N9 with
    | zero => intro i H locs ls h9; exact absurd h9 (Nat.not_lt_zero _)
    | succ N9 ih2 =>
      intro i H locs ls h9 hi hj w hl
      refine x_il_n X hl 2 rfl rfl dX1_countUpTo_2 ?_
      refine x_al_n X hl 0 rfl rfl dX1_countUpTo_3 ?_
      refine x_get X w hR.mp hR.fp fq_X1_countUpTo_17 rfl dX1_countUpTo_4 ?_
      refine x_icmp_ge (tgt := 25) X (by omega) (by decide) dX1_countUpTo_7 (fun hb7 => ?_) (fun hb7 => ?_)
      · refine x_il_n X hl 2 rfl rfl dX1_countUpTo_25 ?_
        refine x_iret X w hr hlk ⟨by decide, by decide⟩ dX1_countUpTo_26 ?_
        have he9 : cu R n pl = i := cu_eq ⟨by omega, by omega, hj, fun h9 => by omega⟩
        exact ⟨rfl, rfl, by rw [he9]⟩
      · refine x_al_n X hl 0 rfl rfl dX1_countUpTo_10 ?_
        refine x_il_n X hl 2 rfl rfl dX1_countUpTo_11 ?_
        refine x_callV (As := [.int (iI i)]) (rest := []) (c1 := 0) (s1 := 0) X w hA (c_X1_numberAt l D cs L f0 br ba n r R i hR hO (by omega)) k_X1_countUpTo_X1_numberAt (by decide) hR.mp hR.fp rfl rfl rfl hl rfl (Nat.le_of_ble_eq_true rfl) (by decide) rfl rfl dX1_countUpTo_12 (fun v L1 f1 H locs w hp => ?_)
        obtain ⟨rfl, rfl, hp⟩ := hp
        rcases hp with ⟨rfl, hq12⟩ | ⟨rfl, hq12⟩
        · show W p l e _ s m _ below meth c _ _ _ _ _ (F0 m 15 ls [.int (iI (R i 0))])
          have hq0 := hR0 i (by omega) (by omega)
          refine x_il_n X hl 1 rfl rfl dX1_countUpTo_15 ?_
          refine x_icmp_gt (tgt := 25) X (by omega) (by decide) dX1_countUpTo_16 (fun hb16 => ?_) (fun hb16 => ?_)
          · refine x_il_n X hl 2 rfl rfl dX1_countUpTo_25 ?_
            refine x_iret X w hr hlk ⟨by decide, by decide⟩ dX1_countUpTo_26 ?_
            have he9 : cu R n pl = i := cu_eq ⟨by omega, by omega, hj, fun h9 => by omega⟩
            exact ⟨rfl, rfl, by rw [he9]⟩
          · refine x_iinc (lv' := [(2, .int (iI (i + 1))), (0, .ref br), (1, .int (iI pl))]) X hl 2 rfl (by decide) rfl dX1_countUpTo_19 (fun ls hl => ?_)
            refine x_goto (tgt := 2) X (by decide) dX1_countUpTo_22 ?_
            refine ih2 (i + 1) _ _ _ (by omega) (by omega) ?_ w (lv_sub hl [1, 2, 0] rfl)
            · intro j h1 h2
              by_cases h3 : j = i
              · subst h3; omega
              · exact hj j h1 (by omega)
        · exfalso; omega
  refine loop2 _ 0 _ _ _ (Nat.lt_succ_self _) (by omega) (fun j h1 h2 => absurd h2 (by omega)) w (lv_sub hl [1, 2, 0] rfl)

theorem k_X1_placeOf_X1_countUpTo : XV wsX1_placeOf RX1 32 RX1 yX1_countUpTo cX1_countUpTo 3 (some .int) wsX1_countUpTo 1 := ⟨gX1_placeOf_X1_countUpTo, ⟨_, rfl⟩, rfl, by decide, by decide, by decide +kernel⟩
theorem k_X1_placeOf_X1_numberAt : XV wsX1_placeOf RX1 28 RX1 yX1_numberAt cX1_numberAt 3 (some .int) wsX1_numberAt 1 := ⟨gX1_placeOf_X1_numberAt, ⟨_, rfl⟩, rfl, by decide, by decide, by decide +kernel⟩
set_option maxHeartbeats 4000000 in
set_option maxRecDepth 100000 in
theorem c_X1_placeOf (l : Launch) (D : va_G) (cs : ClassId × ClassId × ClassId) (L : List Nat) (f0 : Nat → va_E) (br ba : Nat) (n : Int) (r : Int → Option Nat) (R : Rc) (pl : Int) (hR : RB cs L f0 br ba n r) (hO : BO2 L f0 n r R) (hpl : (0 ≤ n ∧ n ≤ 80) ∧ -2147483648 ≤ pl ∧ pl < 2147483648) (hR0 : ∀ j, 0 ≤ j → j < n → 0 ≤ R j 0 ∧ R j 0 ≤ 999) (hso : so R n) : C0 l yX1_placeOf wsX1_placeOf ({ frames := 4, cells := 0, slots := 0, locals := 77 } : Room) D cs [.ref br, .int (iI pl)] L f0 (fun v L1 f1 => L = L1 ∧ f0 = f1 ∧ v = some (.int (iI (fd R n pl)))) := by
  refine C0.of (cc := cX1_placeOf) (maxL := 3) (ret := (some .int)) (by decide) rfl (Nat.le_of_ble_eq_true rfl) ?_
  intro p e s m below meth c X hr hlk hin A hA w ls hl
  have hl : lv_has ls 3 [(0, .ref br), (1, .int (iI pl))] := hl
  refine x_al_n X hl 0 rfl rfl dX1_placeOf_0 ?_
  refine x_il_n X hl 1 rfl rfl dX1_placeOf_1 ?_
  refine x_callV (As := [.int (iI pl)]) (rest := []) (c1 := 0) (s1 := 0) X w hA (c_X1_countUpTo l D cs L f0 br ba n r R pl hR hO (by omega) hR0) k_X1_placeOf_X1_countUpTo (by decide) hR.mp hR.fp rfl rfl rfl hl rfl (Nat.le_of_ble_eq_true rfl) (by decide) rfl rfl dX1_placeOf_2 (fun v L1 f1 H locs w hp => ?_)
  obtain ⟨rfl, rfl, hp⟩ := hp
  subst hp
  show W p l e _ s m _ below meth c _ _ _ _ _ (F0 m 5 ls [.int (iI (cu R n pl))])
  have hcu := cu_is R (n := n) pl (by omega)
  have hcu1 := hcu.1
  have hcu2 := hcu.2.1
  refine x_iconst X dX1_placeOf_5 ?_
  refine x_isub X dX1_placeOf_6 ?_
  refine x_is_n (lv' := [(2, .int (iI ((cu R n pl) - 1))), (0, .ref br), (1, .int (iI pl))]) X hl rfl (by decide) rfl dX1_placeOf_7 (fun ls hl => ?_)
  refine x_il_n X hl 0 rfl rfl dX1_placeOf_8 ?_
  refine x_if_lt (tgt := 25) X (by omega) (by decide) dX1_placeOf_9 (fun hb9 => ?_) (fun hb9 => ?_)
  · refine x_iconst X dX1_placeOf_25 ?_
    refine x_iret X w hr hlk ⟨by decide, by decide⟩ dX1_placeOf_26 ?_
    rcases cu_fd hso hcu with ⟨h1, h2, h3⟩ | ⟨h1, h3⟩
    · exfalso; omega
    · exact ⟨rfl, rfl, by rw [h3]⟩
  · refine x_al_n X hl 1 rfl rfl dX1_placeOf_12 ?_
    refine x_il_n X hl 0 rfl rfl dX1_placeOf_13 ?_
    refine x_callV (As := [.int (iI ((cu R n pl) - 1))]) (rest := []) (c1 := 0) (s1 := 0) X w hA (c_X1_numberAt l D cs L f0 br ba n r R ((cu R n pl) - 1) hR hO (by omega)) k_X1_placeOf_X1_numberAt (by decide) hR.mp hR.fp rfl rfl rfl hl rfl (Nat.le_of_ble_eq_true rfl) (by decide) rfl rfl dX1_placeOf_14 (fun v L1 f1 H locs w hp => ?_)
    obtain ⟨rfl, rfl, hp⟩ := hp
    rcases hp with ⟨rfl, hq14⟩ | ⟨rfl, hq14⟩
    · show W p l e _ s m _ below meth c _ _ _ _ _ (F0 m 17 ls [.int (iI (R ((cu R n pl) - 1) 0))])
      have hq0 := hR0 (cu R n pl - 1) (by omega) (by omega)
      refine x_il_n X hl 2 rfl rfl dX1_placeOf_17 ?_
      refine x_icmp_ne (tgt := 25) X (by omega) (by decide) dX1_placeOf_18 (fun hb18 => ?_) (fun hb18 => ?_)
      · refine x_iconst X dX1_placeOf_25 ?_
        refine x_iret X w hr hlk ⟨by decide, by decide⟩ dX1_placeOf_26 ?_
        rcases cu_fd hso hcu with ⟨h1, h2, h3⟩ | ⟨h1, h3⟩
        · exact absurd h2 hb18
        · exact ⟨rfl, rfl, by rw [h3]⟩
      · refine x_il_n X hl 0 rfl rfl dX1_placeOf_21 ?_
        refine x_goto (tgt := 26) X (by decide) dX1_placeOf_22 ?_
        refine x_iret X w hr hlk ⟨by decide, by decide⟩ dX1_placeOf_26 ?_
        rcases cu_fd hso hcu with ⟨h1, h2, h3⟩ | ⟨h1, h3⟩
        · exact ⟨rfl, rfl, by rw [h3]⟩
        · rcases h1 with h1 | h1
          · exfalso; omega
          · exact absurd hb18 h1
    · exfalso; omega

theorem k_X1_find_X1_placeOf : XV wsX1_find RX1 35 RX1 yX1_placeOf cX1_placeOf 3 (some .int) wsX1_placeOf 1 := ⟨gX1_find_X1_placeOf, ⟨_, rfl⟩, rfl, by decide, by decide, by decide +kernel⟩
theorem k_X1_find_X1_bailAt : XV wsX1_find RX1 21 RX1 yX1_bailAt cX1_bailAt 2 (some (.object "PageBail$Bail")) wsX1_bailAt 1 := ⟨gX1_find_X1_bailAt, ⟨_, rfl⟩, rfl, by decide, by decide, by decide +kernel⟩
set_option maxHeartbeats 4000000 in
set_option maxRecDepth 100000 in
theorem c_X1_find (l : Launch) (D : va_G) (cs : ClassId × ClassId × ClassId) (L : List Nat) (f0 : Nat → va_E) (br ba : Nat) (n : Int) (r : Int → Option Nat) (R : Rc) (pl : Int) (hR : RB cs L f0 br ba n r) (hO : BO2 L f0 n r R) (hpl : (0 ≤ n ∧ n ≤ 80) ∧ -2147483648 ≤ pl ∧ pl < 2147483648) (hR0 : ∀ j, 0 ≤ j → j < n → 0 ≤ R j 0 ∧ R j 0 ≤ 999) (hso : so R n) : C0 l yX1_find wsX1_find ({ frames := 5, cells := 0, slots := 0, locals := 99 } : Room) D cs [.ref br, .int (iI pl)] L f0 (fun v L1 f1 => L = L1 ∧ f0 = f1 ∧ ((∃ a, v = some (.ref a) ∧ r (fd R n pl) = some a ∧ a ∈ L ∧ f0 a = bR (R (fd R n pl)) ∧ 0 ≤ fd R n pl ∧ fd R n pl < n) ∨ (v = some .null ∧ fd R n pl = -1))) := by
  refine C0.of (cc := cX1_find) (maxL := 2) (ret := (some (.object "PageBail$Bail"))) (by decide) rfl (Nat.le_of_ble_eq_true rfl) ?_
  intro p e s m below meth c X hr hlk hin A hA w ls hl
  have hl : lv_has ls 2 [(0, .ref br), (1, .int (iI pl))] := hl
  refine x_al_n X hl 0 rfl rfl dX1_find_0 ?_
  refine x_al_n X hl 0 rfl rfl dX1_find_1 ?_
  refine x_il_n X hl 1 rfl rfl dX1_find_2 ?_
  refine x_callV (As := [.int (iI pl)]) (rest := [.ref br]) (c1 := 0) (s1 := 0) X w hA (c_X1_placeOf l D cs L f0 br ba n r R pl hR hO (by omega) hR0 hso) k_X1_find_X1_placeOf (by decide) hR.mp hR.fp rfl rfl rfl hl rfl (Nat.le_of_ble_eq_true rfl) (by decide) rfl rfl dX1_find_3 (fun v L1 f1 H locs w hp => ?_)
  obtain ⟨rfl, rfl, hp⟩ := hp
  subst hp
  show W p l e _ s m _ below meth c _ _ _ _ _ (F0 m 6 ls [.int (iI (fd R n pl)), .ref br])
  have hfr := fd_rg (R := R) (n := n) (v := pl) (by omega)
  refine x_callV (As := [.int (iI (fd R n pl))]) (rest := []) (c1 := 0) (s1 := 0) X w hA (c_X1_bailAt l D cs L f0 br ba n r R (fd R n pl) hR hO (by omega)) k_X1_find_X1_bailAt (by decide) hR.mp hR.fp rfl rfl rfl hl rfl (Nat.le_of_ble_eq_true rfl) (by decide) rfl rfl dX1_find_6 (fun v L1 f1 H locs w hp => ?_)
  obtain ⟨rfl, rfl, hp⟩ := hp
  rcases hp with ⟨a6, rfl, ha6, hm6, hf6, hq6⟩ | ⟨rfl, hq6⟩
  · show W p l e _ s m _ below meth c _ _ _ _ _ (F0 m 9 ls [.ref a6])
    show W p l e _ s m _ below meth c _ _ _ _ _ (F0 m 9 ls [va_rf (some a6)])
    refine x_nret X w hr hlk ⟨by decide, by decide⟩ dX1_find_9 ?_
    exact ⟨rfl, rfl, Or.inl ⟨_, rfl, ha6, hm6, hf6, hq6⟩⟩
  · show W p l e _ s m _ below meth c _ _ _ _ _ (F0 m 9 ls [.null])
    show W p l e _ s m _ below meth c _ _ _ _ _ (F0 m 9 ls [va_rf none])
    refine x_nret X w hr hlk ⟨by decide, by decide⟩ dX1_find_9 ?_
    exact ⟨rfl, rfl, Or.inr ⟨rfl, fd_ni hq6⟩⟩

theorem iw_X1_sumOfSurety_X1 : ∀ w ∈ wsX10, w ∈ wsX1_sumOfSurety := by decide +kernel
theorem fq_X1_sumOfSurety_17 : XF wsX1_sumOfSurety RX1 17 1 1 := ⟨RX1, TX1, 2, iw_X1_sumOfSurety_X1, rfl, by decide, by decide +kernel⟩
theorem k_X1_sumOfSurety_X1_bailAt : XV wsX1_sumOfSurety RX1 21 RX1 yX1_bailAt cX1_bailAt 2 (some (.object "PageBail$Bail")) wsX1_bailAt 1 := ⟨gX1_sumOfSurety_X1_bailAt, ⟨_, rfl⟩, rfl, by decide, by decide, by decide +kernel⟩
theorem iw_X1_sumOfSurety_X0 : ∀ w ∈ wsX00, w ∈ wsX1_sumOfSurety := by decide +kernel
theorem fq_X1_sumOfSurety_38 : XF wsX1_sumOfSurety RX1 38 0 2 := ⟨RX0, TX0, 5, iw_X1_sumOfSurety_X0, rfl, by decide, by decide +kernel⟩
theorem fq_X1_sumOfSurety_41 : XF wsX1_sumOfSurety RX1 41 0 1 := ⟨RX0, TX0, 5, iw_X1_sumOfSurety_X0, rfl, by decide, by decide +kernel⟩
set_option maxHeartbeats 4000000 in
set_option maxRecDepth 100000 in
theorem c_X1_sumOfSurety (l : Launch) (D : va_G) (cs : ClassId × ClassId × ClassId) (L : List Nat) (f0 : Nat → va_E) (br ba : Nat) (n : Int) (r : Int → Option Nat) (R : Rc) (pl : Int) (hR : RB cs L f0 br ba n r) (hO : BO2 L f0 n r R) (hpl : (0 ≤ n ∧ n ≤ 80) ∧ -2147483648 ≤ pl ∧ pl < 2147483648) (hR2 : ∀ j, 0 ≤ j → j < n → 0 ≤ R j 2 ∧ R j 2 ≤ 9) : C0 l yX1_sumOfSurety wsX1_sumOfSurety ({ frames := 2, cells := 0, slots := 0, locals := 33 } : Room) D cs [.ref br, .int (iI pl)] L f0 (fun v L1 f1 => L = L1 ∧ f0 = f1 ∧ v = some (.int (iI (hs R pl n)))) := by
  refine C0.of (cc := cX1_sumOfSurety) (maxL := 5) (ret := (some .int)) (by decide) rfl (Nat.le_of_ble_eq_true rfl) ?_
  intro p e s m below meth c X hr hlk hin A hA w ls hl
  have hl : lv_has ls 5 [(0, .ref br), (1, .int (iI pl))] := hl
  refine x_iconst X dX1_sumOfSurety_0 ?_
  refine x_is_n (lv' := [(2, .int (iI 0)), (0, .ref br), (1, .int (iI pl))]) X hl rfl (by decide) rfl dX1_sumOfSurety_1 (fun ls hl => ?_)
  refine x_iconst X dX1_sumOfSurety_2 ?_
  refine x_is_n (lv' := [(3, .int (iI 0)), (2, .int (iI 0)), (0, .ref br), (1, .int (iI pl))]) X hl rfl (by decide) rfl dX1_sumOfSurety_3 (fun ls hl => ?_)
  have loop4 : ∀ (N9 : Nat) (i : Int) (H : Heap) (locs : List Loc) (ls : Array Slot), (n - i).toNat < N9 → (0 ≤ i ∧ i ≤ n) → XW D A s.heap L f0 H locs → lv_has ls 5 [(0, .ref br), (1, .int (iI pl)), (2, .int (iI (hs R pl i))), (3, .int (iI i))] → W p l e ({ frames := 2, cells := 0, slots := 0, locals := 33 } : Room) s m ([.ref br, .int (iI pl)] : List Value).toArray below meth c H locs 0 0 (MQ below (CQ D cs A (fun v L1 f1 => L = L1 ∧ f0 = f1 ∧ v = some (.int (iI (hs R pl n))))) ([.ref br, .int (iI pl)] : List Value).toArray s 0 0 A) (F0 m 4 ls []) := by
    intro N9
    induction N9 with
    | zero => intro i H locs ls h9; exact absurd h9 (Nat.not_lt_zero _)
    | succ N9 ih4 =>
      intro i H locs ls h9 hi w hl
      refine x_il_n X hl 3 rfl rfl dX1_sumOfSurety_4 ?_
      refine x_al_n X hl 0 rfl rfl dX1_sumOfSurety_5 ?_
      refine x_get X w hR.mp hR.fp fq_X1_sumOfSurety_17 rfl dX1_sumOfSurety_6 ?_
      refine x_icmp_ge (tgt := 47) X (by omega) (by decide) dX1_sumOfSurety_9 (fun hb9 => ?_) (fun hb9 => ?_)
      · refine x_il_n X hl 2 rfl rfl dX1_sumOfSurety_47 ?_
        refine x_iret X w hr hlk ⟨by decide, by decide⟩ dX1_sumOfSurety_48 ?_
        have he9 : i = n := by omega
        subst he9
        exact ⟨rfl, rfl, rfl⟩
      · refine x_al_n X hl 0 rfl rfl dX1_sumOfSurety_12 ?_
        refine x_il_n X hl 3 rfl rfl dX1_sumOfSurety_13 ?_
        refine x_callV (As := [.int (iI i)]) (rest := []) (c1 := 0) (s1 := 0) X w hA (c_X1_bailAt l D cs L f0 br ba n r R i hR hO (by omega)) k_X1_sumOfSurety_X1_bailAt (by decide) hR.mp hR.fp rfl rfl rfl hl rfl (Nat.le_of_ble_eq_true rfl) (by decide) rfl rfl dX1_sumOfSurety_14 (fun v L1 f1 H locs w hp => ?_)
        obtain ⟨rfl, rfl, hp⟩ := hp
        rcases hp with ⟨a14, rfl, ha14, hm14, hf14, hq14⟩ | ⟨rfl, hq14⟩
        · show W p l e _ s m _ below meth c _ _ _ _ _ (F0 m 17 ls [.ref a14])
          refine x_as (lv' := [(4, .ref a14), (0, .ref br), (1, .int (iI pl)), (2, .int (iI (hs R pl i))), (3, .int (iI i))]) X hl (by decide) rfl dX1_sumOfSurety_17 (fun ls hl => ?_)
          refine x_al X hl 0 rfl dX1_sumOfSurety_19 ?_
          refine x_ifnull_r X dX1_sumOfSurety_21 ?_
          refine x_al X hl 0 rfl dX1_sumOfSurety_24 ?_
          refine x_get X w hm14 hf14 fq_X1_sumOfSurety_38 rfl dX1_sumOfSurety_26 ?_
          have hq2 := hR2 i (by omega) (by omega)
          refine x_il_n X hl 2 rfl rfl dX1_sumOfSurety_29 ?_
          refine x_icmp_ne (tgt := 41) X (by omega) (by decide) dX1_sumOfSurety_30 (fun hb30 => ?_) (fun hb30 => ?_)
          · rw [show hs R pl i = hs R pl (i + 1) from by rw [hs_s R pl (by omega), if_neg hb30, Int.add_zero]] at hl
            refine x_iinc (lv' := [(3, .int (iI (i + 1))), (4, .ref a14), (0, .ref br), (1, .int (iI pl)), (2, .int (iI (hs R pl (i + 1))))]) X hl 4 rfl (by decide) rfl dX1_sumOfSurety_41 (fun ls hl => ?_)
            refine x_goto (tgt := 4) X (by decide) dX1_sumOfSurety_44 ?_
            refine ih4 (i + 1) _ _ _ (by omega) (by omega) w (lv_sub hl [2, 3, 4, 0] rfl)
          · refine x_il_n X hl 3 rfl rfl dX1_sumOfSurety_33 ?_
            refine x_al X hl 0 rfl dX1_sumOfSurety_34 ?_
            refine x_get X w hm14 hf14 fq_X1_sumOfSurety_41 rfl dX1_sumOfSurety_36 ?_
            refine x_iadd X dX1_sumOfSurety_39 ?_
            refine x_is_n (lv' := [(2, .int (iI ((hs R pl i) + (R i 1)))), (4, .ref a14), (0, .ref br), (1, .int (iI pl)), (3, .int (iI i))]) X hl rfl (by decide) rfl dX1_sumOfSurety_40 (fun ls hl => ?_)
            rw [show (hs R pl i) + (R i 1) = hs R pl (i + 1) from by rw [hs_s R pl (by omega), if_pos hb30]] at hl
            refine x_iinc (lv' := [(3, .int (iI (i + 1))), (2, .int (iI (hs R pl (i + 1)))), (4, .ref a14), (0, .ref br), (1, .int (iI pl))]) X hl 4 rfl (by decide) rfl dX1_sumOfSurety_41 (fun ls hl => ?_)
            refine x_goto (tgt := 4) X (by decide) dX1_sumOfSurety_44 ?_
            refine ih4 (i + 1) _ _ _ (by omega) (by omega) w (lv_sub hl [3, 4, 1, 0] rfl)
        · exfalso; omega
  refine loop4 _ 0 _ _ _ (Nat.lt_succ_self _) (by omega) w (lv_sub hl [2, 3, 1, 0] rfl)

theorem iw_X1_insert_X1 : ∀ w ∈ wsX10, w ∈ wsX1_insert := by decide +kernel
theorem fq_X1_insert_17 : XF wsX1_insert RX1 17 1 1 := ⟨RX1, TX1, 2, iw_X1_insert_X1, rfl, by decide, by decide +kernel⟩
theorem fq_X1_insert_11 : XF wsX1_insert RX1 11 1 0 := ⟨RX1, TX1, 2, iw_X1_insert_X1, rfl, by decide, by decide +kernel⟩
theorem fp_X1_insert_17 : XGn wsX1_insert RX1 17 1 1 (tyX1 1) := ⟨RX1, TX1, 2, tyX1, iw_X1_insert_X1, rfl, by decide, by decide +kernel, tyX1_ok, nmX1, rfl, by decide +kernel⟩
set_option maxHeartbeats 4000000 in
set_option maxRecDepth 100000 in
theorem c_X1_insert (l : Launch) (D : va_G) (cs : ClassId × ClassId × ClassId) (L : List Nat) (f0 : Nat → va_E) (br ba : Nat) (n : Int) (r : Int → Option Nat) (R : Rc) (pl : Int) (a : Nat) (g : Nat → Int) (hR : RB cs L f0 br ba n r) (hO : BO2 L f0 n r R) (hpl : (0 ≤ n ∧ n < 80) ∧ 0 ≤ pl ∧ pl ≤ n) (ma : a ∈ L) (fa : f0 a = bR g) : C0 l yX1_insert wsX1_insert ({ frames := 1, cells := 0, slots := 0, locals := 12 } : Room) D cs [.ref br, .int (iI pl), .ref a] L f0 (fun v L1 f1 => v = none ∧ L = L1 ∧ FR f0 f1 br ba ∧ ∃ r1, RB cs L1 f1 br ba (n + 1) r1 ∧ BO2 L1 f1 (n + 1) r1 (ins R pl g)) := by
  refine C0.of (cc := cX1_insert) (maxL := 4) (ret := none) (by decide) rfl (Nat.le_of_ble_eq_true rfl) ?_
  intro p e s m below meth c X hr hlk hin A hA w ls hl
  have hl : lv_has ls 4 [(0, .ref br), (1, .int (iI pl)), (2, .ref a)] := hl
  have fr : FR f0 f0 br ba := FR.rf _ _ _
  have hR0 := hR
  refine x_il_n X hl 1 rfl rfl dX1_insert_0 ?_
  refine x_ifF_lt (tgt := 24) X (by omega) (by omega) (by decide) dX1_insert_1 ?_
  refine x_il_n X hl 1 rfl rfl dX1_insert_4 ?_
  refine x_al_n X hl 0 rfl rfl dX1_insert_5 ?_
  refine x_get X w hR.mp hR.fp fq_X1_insert_17 rfl dX1_insert_6 ?_
  refine x_icmpF_gt (tgt := 24) X (by omega) (by omega) (by decide) dX1_insert_9 ?_
  refine x_al_n X hl 0 rfl rfl dX1_insert_12 ?_
  refine x_get X w hR.mp hR.fp fq_X1_insert_17 rfl dX1_insert_13 ?_
  refine x_al_n X hl 0 rfl rfl dX1_insert_16 ?_
  refine x_get X w hR.mp hR.fp fq_X1_insert_11 rfl dX1_insert_17 ?_
  refine x_alenR X w hR.ms hR.fs dX1_insert_20 ?_
  refine x_icmpT_lt (tgt := 25) X (by omega) (by omega) (by decide) dX1_insert_21 ?_
  refine x_al_n X hl 0 rfl rfl dX1_insert_25 ?_
  refine x_get X w hR.mp hR.fp fq_X1_insert_17 rfl dX1_insert_26 ?_
  refine x_is_n (lv' := [(3, .int (iI n)), (0, .ref br), (1, .int (iI pl)), (2, .ref a)]) X hl rfl (by decide) rfl dX1_insert_29 (fun ls hl => ?_)
  have loop30 : ∀ (N9 : Nat) (i : Int) (f1 : Nat → va_E) (r1 : Int → Option Nat) (H : Heap) (locs : List Loc) (ls : Array Slot), (i - pl + 1).toNat < N9 → (pl ≤ i ∧ i ≤ n) → (RB cs L f1 br ba n r1) → (FR f0 f1 br ba) → (BO2 L f1 n r R) → (f1 a = bR g) → (∀ j, j ≤ i → r1 j = r j) → (∀ j, i < j → j ≤ n → r1 j = r (j - 1)) → XW D A s.heap L f1 H locs → lv_has ls 4 [(0, .ref br), (1, .int (iI pl)), (2, .ref a), (3, .int (iI i))] → W p l e ({ frames := 1, cells := 0, slots := 0, locals := 12 } : Room) s m ([.ref br, .int (iI pl), .ref a] : List Value).toArray below meth c H locs 0 0 (MQ below (CQ D cs A (fun v L1 f1 => v = none ∧ L = L1 ∧ FR f0 f1 br ba ∧ ∃ r1, RB cs L1 f1 br ba (n + 1) r1 ∧ BO2 L1 f1 (n + 1) r1 (ins R pl g))) ([.ref br, .int (iI pl), .ref a] : List Value).toArray s 0 0 A) (F0 m 30 ls []) := by
    intro N9
    induction N9 with
    | zero => intro i f1 r1 H locs ls h9; exact absurd h9 (Nat.not_lt_zero _)
    | succ N9 ih30 =>
      intro i f1 r1 H locs ls h9 hi hR fr hO fa1 h1 h2 w hl
      refine x_il_n X hl 3 rfl rfl dX1_insert_30 ?_
      refine x_il_n X hl 1 rfl rfl dX1_insert_31 ?_
      refine x_icmp_le (tgt := 55) X (by omega) (by decide) dX1_insert_32 (fun hb32 => ?_) (fun hb32 => ?_)
      · refine x_al_n X hl 0 rfl rfl dX1_insert_55 ?_
        refine x_get X w hR.mp hR.fp fq_X1_insert_11 rfl dX1_insert_56 ?_
        refine x_il_n X hl 1 rfl rfl dX1_insert_59 ?_
        refine x_al_n X hl 2 rfl rfl dX1_insert_60 ?_
        refine x_aast X w hR.ms hR.fs ma fa1 (by omega) dX1_insert_61 (fun H locs w => ?_)
        obtain ⟨f62, r62, w, hR, fr, hO, hz62⟩ : ∃ f9 r9, XW D A s.heap L f9 H locs ∧ RB cs L f9 br ba (n) r9 ∧ FR f0 f9 br ba ∧ BO2 L f9 n r R ∧ r9 = uI r1 pl (some a) := ⟨_, _, w, hR.row _, fr.up2, hO.fr (by decide) hR.fp hR.fs (FR.up2 (FR.rf _ _ _)), rfl⟩
        refine x_al_n X hl 0 rfl rfl dX1_insert_62 ?_
        refine x_dup X rfl dX1_insert_63 ?_
        refine x_get X w hR.mp hR.fp fq_X1_insert_17 rfl dX1_insert_64 ?_
        refine x_iconst X dX1_insert_67 ?_
        refine x_iadd X dX1_insert_68 ?_
        refine x_put X w hR.mp hR.fp fp_X1_insert_17 rfl rfl (Nat.le_of_ble_eq_true rfl) rfl dX1_insert_69 (fun H locs w => ?_)
        obtain ⟨f72, w, hR, fr, hO⟩ : ∃ f9, XW D A s.heap L f9 H locs ∧ RB cs L f9 br ba (n + 1) r62 ∧ FR f0 f9 br ba ∧ BO2 L f9 n r R := ⟨_, w, hR.cnt _, fr.up1, hO.fr (by decide) hR.fp hR.fs (FR.up1 (FR.rf _ _ _))⟩
        refine x_vret X w hr hlk ⟨by decide, by decide⟩ dX1_insert_72 ?_
        have he9 : i = pl := by omega
        subst he9
        exact ⟨rfl, rfl, fr, _, hR, hO.ins (by omega) h1 h2 hz62 ma ((fr a (bR_ne (by decide) fa hR0.fp) (bR_nl fa hR0.fs)).trans fa)⟩
      · refine x_al_n X hl 0 rfl rfl dX1_insert_35 ?_
        refine x_get X w hR.mp hR.fp fq_X1_insert_11 rfl dX1_insert_36 ?_
        refine x_il_n X hl 3 rfl rfl dX1_insert_39 ?_
        refine x_al_n X hl 0 rfl rfl dX1_insert_40 ?_
        refine x_get X w hR.mp hR.fp fq_X1_insert_11 rfl dX1_insert_41 ?_
        refine x_il_n X hl 3 rfl rfl dX1_insert_44 ?_
        refine x_iconst X dX1_insert_45 ?_
        refine x_isub X dX1_insert_46 ?_
        obtain ⟨a47, ha47, hm47, hf47⟩ := hO (i - 1) (by omega) (by omega)
        refine x_aaldv (b := a47) X w hR.ms hR.fs (by omega) ((h1 (i - 1) (by omega)).trans ha47) dX1_insert_47 ?_
        refine x_aast X w hR.ms hR.fs hm47 hf47 (by omega) dX1_insert_48 (fun H locs w => ?_)
        obtain ⟨f49, r49, w, hR, fr, hO, hz49⟩ : ∃ f9 r9, XW D A s.heap L f9 H locs ∧ RB cs L f9 br ba (n) r9 ∧ FR f0 f9 br ba ∧ BO2 L f9 n r R ∧ r9 = uI r1 i (some a47) := ⟨_, _, w, hR.row _, fr.up2, hO.fr (by decide) hR.fp hR.fs (FR.up2 (FR.rf _ _ _)), rfl⟩
        have fa2 : f49 a = bR g := (fr a (bR_ne (by decide) fa hR0.fp) (bR_nl fa hR0.fs)).trans fa
        refine x_iinc (lv' := [(3, .int (iI (i + (-1)))), (0, .ref br), (1, .int (iI pl)), (2, .ref a)]) X hl 3 rfl (by decide) rfl dX1_insert_49 (fun ls hl => ?_)
        refine x_goto (tgt := 30) X (by decide) dX1_insert_52 ?_
        refine ih30 (i + (-1)) f49 r49 _ _ _ (by omega) (by omega) hR fr hO fa2 ?_ ?_ w (lv_sub hl [1, 2, 3, 0] rfl)
        · intro j h8
          subst hz49
          rw [uI_n _ _ (by omega)]; exact h1 j (by omega)
        · intro j h8 h9
          subst hz49
          by_cases h7 : j = i
          · subst h7; rw [uI_s]; exact ha47.symm
          · rw [uI_n _ _ h7]; exact h2 j (by omega) h9
  refine loop30 _ n f0 r _ _ _ (Nat.lt_succ_self _) (by omega) hR fr hO fa (fun _ _ => rfl) (fun j h8 h9 => absurd h9 (by omega)) w (lv_sub hl [1, 2, 3, 0] rfl)

theorem k_X1_remove_X1_bailAt : XV wsX1_remove RX1 21 RX1 yX1_bailAt cX1_bailAt 2 (some (.object "PageBail$Bail")) wsX1_bailAt 1 := ⟨gX1_remove_X1_bailAt, ⟨_, rfl⟩, rfl, by decide, by decide, by decide +kernel⟩
theorem iw_X1_remove_X1 : ∀ w ∈ wsX10, w ∈ wsX1_remove := by decide +kernel
theorem fq_X1_remove_17 : XF wsX1_remove RX1 17 1 1 := ⟨RX1, TX1, 2, iw_X1_remove_X1, rfl, by decide, by decide +kernel⟩
theorem fp_X1_remove_17 : XGn wsX1_remove RX1 17 1 1 (tyX1 1) := ⟨RX1, TX1, 2, tyX1, iw_X1_remove_X1, rfl, by decide, by decide +kernel, tyX1_ok, nmX1, rfl, by decide +kernel⟩
theorem fq_X1_remove_11 : XF wsX1_remove RX1 11 1 0 := ⟨RX1, TX1, 2, iw_X1_remove_X1, rfl, by decide, by decide +kernel⟩
set_option maxHeartbeats 4000000 in
set_option maxRecDepth 100000 in
theorem c_X1_remove (l : Launch) (D : va_G) (cs : ClassId × ClassId × ClassId) (L : List Nat) (f0 : Nat → va_E) (br ba : Nat) (n : Int) (r : Int → Option Nat) (R : Rc) (pl : Int) (hR : RB cs L f0 br ba n r) (hO : BO2 L f0 n r R) (hpl : (0 ≤ n ∧ n ≤ 80) ∧ 0 ≤ pl ∧ pl < n) : C0 l yX1_remove wsX1_remove ({ frames := 2, cells := 0, slots := 0, locals := 33 } : Room) D cs [.ref br, .int (iI pl)] L f0 (fun v L1 f1 => v = none ∧ L = L1 ∧ FR f0 f1 br ba ∧ ∃ r1, RB cs L1 f1 br ba (n - 1) r1 ∧ BO2 L1 f1 (n - 1) r1 (del R pl)) := by
  refine C0.of (cc := cX1_remove) (maxL := 3) (ret := none) (by decide) rfl (Nat.le_of_ble_eq_true rfl) ?_
  intro p e s m below meth c X hr hlk hin A hA w ls hl
  have hl : lv_has ls 3 [(0, .ref br), (1, .int (iI pl))] := hl
  have fr : FR f0 f0 br ba := FR.rf _ _ _
  refine x_al_n X hl 0 rfl rfl dX1_remove_0 ?_
  refine x_il_n X hl 1 rfl rfl dX1_remove_1 ?_
  refine x_callV (As := [.int (iI pl)]) (rest := []) (c1 := 0) (s1 := 0) X w hA (c_X1_bailAt l D cs L f0 br ba n r R pl hR hO (by omega)) k_X1_remove_X1_bailAt (by decide) hR.mp hR.fp rfl rfl rfl hl rfl (Nat.le_of_ble_eq_true rfl) (by decide) rfl rfl dX1_remove_2 (fun v L1 f1 H locs w hp => ?_)
  obtain ⟨rfl, rfl, hp⟩ := hp
  rcases hp with ⟨a2, rfl, ha2, hm2, hf2, hq2⟩ | ⟨rfl, hq2⟩
  · show W p l e _ s m _ below meth c _ _ _ _ _ (F0 m 5 ls [.ref a2])
    refine x_ifnonnull_r (tgt := 9) X (by decide) dX1_remove_5 ?_
    refine x_al_n X hl 0 rfl rfl dX1_remove_9 ?_
    refine x_dup X rfl dX1_remove_10 ?_
    refine x_get X w hR.mp hR.fp fq_X1_remove_17 rfl dX1_remove_11 ?_
    refine x_iconst X dX1_remove_14 ?_
    refine x_isub X dX1_remove_15 ?_
    refine x_put X w hR.mp hR.fp fp_X1_remove_17 rfl rfl (Nat.le_of_ble_eq_true rfl) rfl dX1_remove_16 (fun H locs w => ?_)
    obtain ⟨f19, w, hR, fr, hO⟩ : ∃ f9, XW D A s.heap L f9 H locs ∧ RB cs L f9 br ba (n - 1) r ∧ FR f0 f9 br ba ∧ BO2 L f9 n r R := ⟨_, w, hR.cnt _, fr.up1, hO.fr (by decide) hR.fp hR.fs (FR.up1 (FR.rf _ _ _))⟩
    refine x_il_n X hl 1 rfl rfl dX1_remove_19 ?_
    refine x_is_n (lv' := [(2, .int (iI pl)), (0, .ref br), (1, .int (iI pl))]) X hl rfl (by decide) rfl dX1_remove_20 (fun ls hl => ?_)
    have loop21 : ∀ (N9 : Nat) (i : Int) (f1 : Nat → va_E) (r1 : Int → Option Nat) (H : Heap) (locs : List Loc) (ls : Array Slot), (n - i).toNat < N9 → (pl ≤ i ∧ i ≤ n - 1) → (RB cs L f1 br ba (n - 1) r1) → (FR f0 f1 br ba) → (BO2 L f1 n r R) → (∀ j, i ≤ j → r1 j = r j) → (∀ j, j < i → r1 j = del r pl j) → XW D A s.heap L f1 H locs → lv_has ls 3 [(0, .ref br), (1, .int (iI pl)), (2, .int (iI i))] → W p l e ({ frames := 2, cells := 0, slots := 0, locals := 33 } : Room) s m ([.ref br, .int (iI pl)] : List Value).toArray below meth c H locs 0 0 (MQ below (CQ D cs A (fun v L1 f1 => v = none ∧ L = L1 ∧ FR f0 f1 br ba ∧ ∃ r1, RB cs L1 f1 br ba (n - 1) r1 ∧ BO2 L1 f1 (n - 1) r1 (del R pl))) ([.ref br, .int (iI pl)] : List Value).toArray s 0 0 A) (F0 m 21 ls []) := by
      intro N9
      induction N9 with
      | zero => intro i f1 r1 H locs ls h9; exact absurd h9 (Nat.not_lt_zero _)
      | succ N9 ih21 =>
        intro i f1 r1 H locs ls h9 hi hR fr hO h1 h2 w hl
        refine x_il_n X hl 2 rfl rfl dX1_remove_21 ?_
        refine x_al_n X hl 0 rfl rfl dX1_remove_22 ?_
        refine x_get X w hR.mp hR.fp fq_X1_remove_17 rfl dX1_remove_23 ?_
        refine x_icmp_ge (tgt := 49) X (by omega) (by decide) dX1_remove_26 (fun hb26 => ?_) (fun hb26 => ?_)
        · refine x_al_n X hl 0 rfl rfl dX1_remove_49 ?_
          refine x_get X w hR.mp hR.fp fq_X1_remove_11 rfl dX1_remove_50 ?_
          refine x_al_n X hl 0 rfl rfl dX1_remove_53 ?_
          refine x_get X w hR.mp hR.fp fq_X1_remove_17 rfl dX1_remove_54 ?_
          refine x_null X dX1_remove_57 ?_
          refine x_aastN X w hR.ms hR.fs (by omega) dX1_remove_58 (fun H locs w => ?_)
          obtain ⟨f59, r59, w, hR, fr, hO, hz59⟩ : ∃ f9 r9, XW D A s.heap L f9 H locs ∧ RB cs L f9 br ba (n - 1) r9 ∧ FR f0 f9 br ba ∧ BO2 L f9 n r R ∧ r9 = uI r1 (n - 1) none := ⟨_, _, w, hR.row _, fr.up2, hO.fr (by decide) hR.fp hR.fs (FR.up2 (FR.rf _ _ _)), rfl⟩
          refine x_vret X w hr hlk ⟨by decide, by decide⟩ dX1_remove_59 ?_
          exact ⟨rfl, rfl, fr, _, hR, hO.del (by omega) (fun j h8 => h2 j (by omega)) hz59⟩
        · refine x_al_n X hl 0 rfl rfl dX1_remove_29 ?_
          refine x_get X w hR.mp hR.fp fq_X1_remove_11 rfl dX1_remove_30 ?_
          refine x_il_n X hl 2 rfl rfl dX1_remove_33 ?_
          refine x_al_n X hl 0 rfl rfl dX1_remove_34 ?_
          refine x_get X w hR.mp hR.fp fq_X1_remove_11 rfl dX1_remove_35 ?_
          refine x_il_n X hl 2 rfl rfl dX1_remove_38 ?_
          refine x_iconst X dX1_remove_39 ?_
          refine x_iadd X dX1_remove_40 ?_
          obtain ⟨a41, ha41, hm41, hf41⟩ := hO (i + 1) (by omega) (by omega)
          refine x_aaldv (b := a41) X w hR.ms hR.fs (by omega) ((h1 (i + 1) (by omega)).trans ha41) dX1_remove_41 ?_
          refine x_aast X w hR.ms hR.fs hm41 hf41 (by omega) dX1_remove_42 (fun H locs w => ?_)
          obtain ⟨f43, r43, w, hR, fr, hO, hz43⟩ : ∃ f9 r9, XW D A s.heap L f9 H locs ∧ RB cs L f9 br ba (n - 1) r9 ∧ FR f0 f9 br ba ∧ BO2 L f9 n r R ∧ r9 = uI r1 i (some a41) := ⟨_, _, w, hR.row _, fr.up2, hO.fr (by decide) hR.fp hR.fs (FR.up2 (FR.rf _ _ _)), rfl⟩
          refine x_iinc (lv' := [(2, .int (iI (i + 1))), (0, .ref br), (1, .int (iI pl))]) X hl 2 rfl (by decide) rfl dX1_remove_43 (fun ls hl => ?_)
          refine x_goto (tgt := 21) X (by decide) dX1_remove_46 ?_
          refine ih21 (i + 1) f43 r43 _ _ _ (by omega) (by omega) hR fr hO ?_ ?_ w (lv_sub hl [1, 2, 0] rfl)
          · intro j h8
            subst hz43
            rw [uI_n _ _ (by omega)]; exact h1 j (by omega)
          · intro j h8
            subst hz43
            by_cases h7 : j = i
            · subst h7; rw [uI_s]; show _ = (if j < pl then r j else r (j + 1)); rw [if_neg (by omega)]; exact ha41.symm
            · rw [uI_n _ _ h7]; exact h2 j (by omega)
    refine loop21 _ pl f19 r _ _ _ (Nat.lt_succ_self _) (by omega) hR fr hO (fun _ _ => rfl) (fun j h8 => (if_pos h8).symm) w (lv_sub hl [1, 2, 0] rfl)
  · exfalso; omega
