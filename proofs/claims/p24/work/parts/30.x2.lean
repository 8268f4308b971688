/-! the row of pages: what it holds, and its methods -/
def PP (cs : ClassId × ClassId × ClassId) (L : List Nat) (f : Nat → va_E) (pr sz : Nat) (k : Int) (z : Int → Int) : Prop := ∃ zz, RR cs L f pr sz k zz ∧ ∀ j, 0 ≤ j → j < k → zz j = z j
theorem ag_u {zz z : Int → Int} {N i v : Int} (h : ∀ j, 0 ≤ j → j < N → zz j = z j) : ∀ j, 0 ≤ j → j < N → uI zz i v j = uI z i v j := by
  intro j h1 h2
  by_cases h3 : j = i
  · subst h3; rw [uI_s, uI_s]
  · rw [uI_n _ _ h3, uI_n _ _ h3]; exact h j h1 h2
theorem ag_d {zz z : Int → Int} {k p : Int} (h : ∀ j, 0 ≤ j → j < k → zz j = z j) {j : Int} (h1 : 0 ≤ j) (h2 : j < k - 1) : del zz p j = del z p j := by
  show (if j < p then zz j else zz (j + 1)) = (if j < p then z j else z (j + 1))
  rw [h j h1 (by omega), h (j + 1) (by omega) (by omega)]
theorem ag_sp {zz z z1 z2 z3 : Int → Int} {k pg : Int} (hp : 0 ≤ pg ∧ pg < k) (hz : ∀ j, 0 ≤ j → j < k → zz j = z j) (h1 : ∀ j, j ≤ pg + 1 → z1 j = zz j) (h2 : ∀ j, pg + 1 < j → j ≤ k → z1 j = zz (j - 1)) (e2 : z2 = uI z1 (pg + 1) 2) (e3 : z3 = uI z2 pg (z2 pg - 2)) {j : Int} (h8 : 0 ≤ j) (h9 : j < k + 1) : z3 j = uI (ins z (pg + 1) 2) pg (z pg - 2) j := by
  have h5 : z2 pg = z pg := by rw [e2, uI_n _ _ (by omega), h1 pg (by omega), hz pg hp.1 hp.2]
  rw [e3, h5]
  by_cases h3 : j = pg
  · subst h3; rw [uI_s, uI_s]
  · rw [uI_n _ _ h3, uI_n _ _ h3, e2]
    show _ = (if j < pg + 1 then z j else if j = pg + 1 then 2 else z (j - 1))
    by_cases h4 : j = pg + 1
    · rw [h4, uI_s, if_neg (by omega), if_pos rfl]
    · rw [uI_n _ _ h4]
      by_cases h6 : j < pg + 1
      · rw [if_pos h6, h1 j (by omega), hz j h8 (by omega)]
      · rw [if_neg h6, if_neg h4, h2 j (by omega) (by omega), hz (j - 1) (by omega) (by omega)]
theorem bjA_1 {z : Int → Int} {k p : Int} (h : p + 1 < k ∧ 3 ≤ z (p + 1)) : bjA z k p = p + 1 ∧ bjB z k p = p := ⟨if_pos h, if_pos h⟩
theorem bjA_2 {z : Int → Int} {k p : Int} (h : ¬ (p + 1 < k ∧ 3 ≤ z (p + 1))) (h2 : 0 < p ∧ 3 ≤ z (p - 1)) : bjA z k p = p - 1 ∧ bjB z k p = p := ⟨(if_neg h).trans (if_pos h2), (if_neg h).trans (if_pos h2)⟩
theorem bjA_3 {z : Int → Int} {k p : Int} (h : ¬ (p + 1 < k ∧ 3 ≤ z (p + 1))) (h2 : ¬ (0 < p ∧ 3 ≤ z (p - 1))) (h3 : p + 1 < k) : bjA z k p = p ∧ bjB z k p = p + 1 := ⟨(if_neg h).trans (if_neg h2), ((if_neg h).trans (if_neg h2)).trans (if_pos h3)⟩
theorem bjA_4 {z : Int → Int} {k p : Int} (h : ¬ (p + 1 < k ∧ 3 ≤ z (p + 1))) (h2 : ¬ (0 < p ∧ 3 ≤ z (p - 1))) (h3 : ¬ p + 1 < k) : bjA z k p = p ∧ bjB z k p = p - 1 := ⟨(if_neg h).trans (if_neg h2), ((if_neg h).trans (if_neg h2)).trans (if_neg h3)⟩

theorem iw_X2_count_X2 : ∀ w ∈ wsX20, w ∈ wsX2_count := by decide +kernel
theorem fq_X2_count_15 : XF wsX2_count RX2 15 2 1 := ⟨RX2, TX2, 2, iw_X2_count_X2, rfl, by decide, by decide +kernel⟩
set_option maxHeartbeats 4000000 in
set_option maxRecDepth 100000 in
theorem c_X2_count (l : Launch) (D : va_G) (cs : ClassId × ClassId × ClassId) (L : List Nat) (f0 : Nat → va_E) (pr sz : Nat) (k : Int) (z : Int → Int) (hP : PP cs L f0 pr sz k z) : C0 l yX2_count wsX2_count ({ frames := 1, cells := 0, slots := 0, locals := 12 } : Room) D cs [.ref pr] L f0 (fun v L1 f1 => L = L1 ∧ f0 = f1 ∧ v = some (.int (iI k))) := by
  refine C0.of (cc := cX2_count) (maxL := 1) (ret := (some .int)) (by decide) rfl (Nat.le_of_ble_eq_true rfl) ?_
  intro p e s m below meth c X hr hlk hin A hA w ls hl
  have hl : lv_has ls 1 [(0, .ref pr)] := hl
  obtain ⟨zz, hR, hz⟩ := hP
  refine x_al_n X hl 0 rfl rfl dX2_count_0 ?_
  refine x_get X w hR.mp hR.fp fq_X2_count_15 rfl dX2_count_1 ?_
  refine x_iret X w hr hlk ⟨by decide, by decide⟩ dX2_count_4 ?_
  exact ⟨rfl, rfl, rfl⟩

theorem iw_X2_has_X2 : ∀ w ∈ wsX20, w ∈ wsX2_has := by decide +kernel
theorem fq_X2_has_15 : XF wsX2_has RX2 15 2 1 := ⟨RX2, TX2, 2, iw_X2_has_X2, rfl, by decide, by decide +kernel⟩
theorem fq_X2_has_9 : XF wsX2_has RX2 9 2 0 := ⟨RX2, TX2, 2, iw_X2_has_X2, rfl, by decide, by decide +kernel⟩
set_option maxHeartbeats 4000000 in
set_option maxRecDepth 100000 in
theorem c_X2_has (l : Launch) (D : va_G) (cs : ClassId × ClassId × ClassId) (L : List Nat) (f0 : Nat → va_E) (pr sz : Nat) (k : Int) (z : Int → Int) (pg : Int) (hP : PP cs L f0 pr sz k z) (hpg : (0 ≤ k ∧ k ≤ 80) ∧ -2147483648 ≤ pg ∧ pg < 2147483648) : C0 l yX2_has wsX2_has ({ frames := 1, cells := 0, slots := 0, locals := 12 } : Room) D cs [.ref pr, .int (iI pg)] L f0 (fun v L1 f1 => L = L1 ∧ f0 = f1 ∧ ((v = some (.int (iI 1)) ∧ 0 ≤ pg ∧ pg < k) ∨ (v = some (.int (iI 0)) ∧ ¬ (0 ≤ pg ∧ pg < k)))) := by
  refine C0.of (cc := cX2_has) (maxL := 2) (ret := (some .boolean)) (by decide) rfl (Nat.le_of_ble_eq_true rfl) ?_
  intro p e s m below meth c X hr hlk hin A hA w ls hl
  have hl : lv_has ls 2 [(0, .ref pr), (1, .int (iI pg))] := hl
  obtain ⟨zz, hR, hz⟩ := hP
  refine x_il_n X hl 1 rfl rfl dX2_has_0 ?_
  refine x_if_lt (tgt := 25) X (by omega) (by decide) dX2_has_1 (fun hb1 => ?_) (fun hb1 => ?_)
  · refine x_iconst X dX2_has_25 ?_
    refine x_zret X w hr hlk ⟨by decide, by decide⟩ (by omega) dX2_has_26 ?_
    exact ⟨rfl, rfl, Or.inr ⟨rfl, by omega⟩⟩
  · refine x_il_n X hl 1 rfl rfl dX2_has_4 ?_
    refine x_al_n X hl 0 rfl rfl dX2_has_5 ?_
    refine x_get X w hR.mp hR.fp fq_X2_has_15 rfl dX2_has_6 ?_
    refine x_icmp_ge (tgt := 25) X (by omega) (by decide) dX2_has_9 (fun hb9 => ?_) (fun hb9 => ?_)
    · refine x_iconst X dX2_has_25 ?_
      refine x_zret X w hr hlk ⟨by decide, by decide⟩ (by omega) dX2_has_26 ?_
      exact ⟨rfl, rfl, Or.inr ⟨rfl, by omega⟩⟩
    · refine x_il_n X hl 1 rfl rfl dX2_has_12 ?_
      refine x_al_n X hl 0 rfl rfl dX2_has_13 ?_
      refine x_get X w hR.mp hR.fp fq_X2_has_9 rfl dX2_has_14 ?_
      refine x_alenI X w hR.ms hR.fs dX2_has_17 ?_
      refine x_icmp_ge (tgt := 25) X (by omega) (by decide) dX2_has_18 (fun hb18 => ?_) (fun hb18 => ?_)
      · refine x_iconst X dX2_has_25 ?_
        refine x_zret X w hr hlk ⟨by decide, by decide⟩ (by omega) dX2_has_26 ?_
        exact ⟨rfl, rfl, Or.inr ⟨rfl, by omega⟩⟩
      · refine x_iconst X dX2_has_21 ?_
        refine x_goto (tgt := 26) X (by decide) dX2_has_22 ?_
        refine x_zret X w hr hlk ⟨by decide, by decide⟩ (by omega) dX2_has_26 ?_
        exact ⟨rfl, rfl, Or.inl ⟨rfl, by omega⟩⟩

theorem k_X2_sizeOf_X2_has : XV wsX2_sizeOf RX2 19 RX2 yX2_has cX2_has 2 (some .boolean) wsX2_has 1 := ⟨gX2_sizeOf_X2_has, ⟨_, rfl⟩, rfl, by decide, by decide, by decide +kernel⟩
theorem iw_X2_sizeOf_X2 : ∀ w ∈ wsX20, w ∈ wsX2_sizeOf := by decide +kernel
theorem fq_X2_sizeOf_9 : XF wsX2_sizeOf RX2 9 2 0 := ⟨RX2, TX2, 2, iw_X2_sizeOf_X2, rfl, by decide, by decide +kernel⟩
set_option maxHeartbeats 4000000 in
set_option maxRecDepth 100000 in
theorem c_X2_sizeOf (l : Launch) (D : va_G) (cs : ClassId × ClassId × ClassId) (L : List Nat) (f0 : Nat → va_E) (pr sz : Nat) (k : Int) (z : Int → Int) (pg : Int) (hP : PP cs L f0 pr sz k z) (hpg : (0 ≤ k ∧ k ≤ 80) ∧ -2147483648 ≤ pg ∧ pg < 2147483648) : C0 l yX2_sizeOf wsX2_sizeOf ({ frames := 2, cells := 0, slots := 0, locals := 33 } : Room) D cs [.ref pr, .int (iI pg)] L f0 (fun v L1 f1 => L = L1 ∧ f0 = f1 ∧ ((v = some (.int (iI (z pg))) ∧ 0 ≤ pg ∧ pg < k) ∨ (v = some (.int (iI 0)) ∧ ¬ (0 ≤ pg ∧ pg < k)))) := by
  refine C0.of (cc := cX2_sizeOf) (maxL := 2) (ret := (some .int)) (by decide) rfl (Nat.le_of_ble_eq_true rfl) ?_
  intro p e s m below meth c X hr hlk hin A hA w ls hl
  have hl : lv_has ls 2 [(0, .ref pr), (1, .int (iI pg))] := hl
  obtain ⟨zz, hR, hz⟩ := hP
  refine x_al_n X hl 0 rfl rfl dX2_sizeOf_0 ?_
  refine x_il_n X hl 1 rfl rfl dX2_sizeOf_1 ?_
  refine x_callV (As := [.int (iI pg)]) (rest := []) (c1 := 0) (s1 := 0) X w hA (c_X2_has l D cs L f0 pr sz k z pg ⟨_, hR, hz⟩ (by omega)) k_X2_sizeOf_X2_has (by decide) hR.mp hR.fp rfl rfl rfl hl rfl (Nat.le_of_ble_eq_true rfl) (by decide) rfl rfl dX2_sizeOf_2 (fun v L1 f1 H locs w hp => ?_)
  obtain ⟨rfl, rfl, hp⟩ := hp
  rcases hp with ⟨rfl, hq2⟩ | ⟨rfl, hq2⟩
  · show W p l e _ s m _ below meth c _ _ _ _ _ (F0 m 5 ls [.int (iI 1)])
    refine x_ifF_eq (tgt := 17) X (by decide) (by decide) (by decide) dX2_sizeOf_5 ?_
    refine x_al_n X hl 0 rfl rfl dX2_sizeOf_8 ?_
    refine x_get X w hR.mp hR.fp fq_X2_sizeOf_9 rfl dX2_sizeOf_9 ?_
    refine x_il_n X hl 1 rfl rfl dX2_sizeOf_12 ?_
    refine x_ialdv (v := z pg) X w hR.ms hR.fs (by omega) (hz pg (by omega) (by omega)) dX2_sizeOf_13 ?_
    refine x_goto (tgt := 18) X (by decide) dX2_sizeOf_14 ?_
    refine x_iret X w hr hlk ⟨by decide, by decide⟩ dX2_sizeOf_18 ?_
    exact ⟨rfl, rfl, Or.inl ⟨rfl, by omega⟩⟩
  · show W p l e _ s m _ below meth c _ _ _ _ _ (F0 m 5 ls [.int (iI 0)])
    refine x_ifT_eq (tgt := 17) X (by decide) (by decide) (by decide) dX2_sizeOf_5 ?_
    refine x_iconst X dX2_sizeOf_17 ?_
    refine x_iret X w hr hlk ⟨by decide, by decide⟩ dX2_sizeOf_18 ?_
    exact ⟨rfl, rfl, Or.inr ⟨rfl, by omega⟩⟩

theorem iw_X2_beginOf_X2 : ∀ w ∈ wsX20, w ∈ wsX2_beginOf := by decide +kernel
theorem fq_X2_beginOf_15 : XF wsX2_beginOf RX2 15 2 1 := ⟨RX2, TX2, 2, iw_X2_beginOf_X2, rfl, by decide, by decide +kernel⟩
theorem k_X2_beginOf_X2_sizeOf : XV wsX2_beginOf RX2 23 RX2 yX2_sizeOf cX2_sizeOf 2 (some .int) wsX2_sizeOf 1 := ⟨gX2_beginOf_X2_sizeOf, ⟨_, rfl⟩, rfl, by decide, by decide, by decide +kernel⟩
set_option maxHeartbeats 4000000 in
set_option maxRecDepth 100000 in
theorem c_X2_beginOf (l : Launch) (D : va_G) (cs : ClassId × ClassId × ClassId) (L : List Nat) (f0 : Nat → va_E) (pr sz : Nat) (k : Int) (z : Int → Int) (pg : Int) (hP : PP cs L f0 pr sz k z) (hpg : (0 ≤ k ∧ k ≤ 80) ∧ 0 ≤ pg ∧ pg ≤ k) : C0 l yX2_beginOf wsX2_beginOf ({ frames := 3, cells := 0, slots := 0, locals := 54 } : Room) D cs [.ref pr, .int (iI pg)] L f0 (fun v L1 f1 => L = L1 ∧ f0 = f1 ∧ v = some (.int (iI (sm z pg)))) := by
  refine C0.of (cc := cX2_beginOf) (maxL := 4) (ret := (some .int)) (by decide) rfl (Nat.le_of_ble_eq_true rfl) ?_
  intro p e s m below meth c X hr hlk hin A hA w ls hl
  have hl : lv_has ls 4 [(0, .ref pr), (1, .int (iI pg))] := hl
  obtain ⟨zz, hR, hz⟩ := hP
  refine x_iconst X dX2_beginOf_0 ?_
  refine x_is_n (lv' := [(2, .int (iI 0)), (0, .ref pr), (1, .int (iI pg))]) X hl rfl (by decide) rfl dX2_beginOf_1 (fun ls hl => ?_)
  refine x_iconst X dX2_beginOf_2 ?_
  refine x_is_n (lv' := [(3, .int (iI 0)), (2, .int (iI 0)), (0, .ref pr), (1, .int (iI pg))]) X hl rfl (by decide) rfl dX2_beginOf_3 (fun ls hl => ?_)
  have loop4 : ∀ (N9 : Nat) (i : Int) (H : Heap) (locs : List Loc) (ls : Array Slot), (pg - i).toNat < N9 → (0 ≤ i ∧ i ≤ pg) → XW D A s.heap L f0 H locs → lv_has ls 4 [(0, .ref pr), (1, .int (iI pg)), (2, .int (iI (sm z i))), (3, .int (iI i))] → W p l e ({ frames := 3, cells := 0, slots := 0, locals := 54 } : Room) s m ([.ref pr, .int (iI pg)] : List Value).toArray below meth c H locs 0 0 (MQ below (CQ D cs A (fun v L1 f1 => L = L1 ∧ f0 = f1 ∧ v = some (.int (iI (sm z pg))))) ([.ref pr, .int (iI pg)] : List Value).toArray s 0 0 A) (F0 m 4 ls []) := by
    intro N9
    induction N9 with
    | zero => intro i H locs ls h9; exact absurd h9 (Nat.not_lt_zero _)
    | succ N9 ih4 =>
      intro i H locs ls h9 hi w hl
      refine x_il_n X hl 3 rfl rfl dX2_beginOf_4 ?_
      refine x_il_n X hl 1 rfl rfl dX2_beginOf_5 ?_
      refine x_icmp_ge (tgt := 31) X (by omega) (by decide) dX2_beginOf_6 (fun hb6 => ?_) (fun hb6 => ?_)
      · refine x_il_n X hl 2 rfl rfl dX2_beginOf_31 ?_
        refine x_iret X w hr hlk ⟨by decide, by decide⟩ dX2_beginOf_32 ?_
        have he9 : i = pg := by omega
        subst he9
        exact ⟨rfl, rfl, rfl⟩
      · refine x_il_n X hl 3 rfl rfl dX2_beginOf_9 ?_
        refine x_al_n X hl 0 rfl rfl dX2_beginOf_10 ?_
        refine x_get X w hR.mp hR.fp fq_X2_beginOf_15 rfl dX2_beginOf_11 ?_
        refine x_icmpF_ge (tgt := 31) X (by omega) (by omega) (by decide) dX2_beginOf_14 ?_
        refine x_il_n X hl 2 rfl rfl dX2_beginOf_17 ?_
        refine x_al_n X hl 0 rfl rfl dX2_beginOf_18 ?_
        refine x_il_n X hl 3 rfl rfl dX2_beginOf_19 ?_
        refine x_callV (As := [.int (iI i)]) (rest := [.int (iI (sm z i))]) (c1 := 0) (s1 := 0) X w hA (c_X2_sizeOf l D cs L f0 pr sz k z i ⟨_, hR, hz⟩ (by omega)) k_X2_beginOf_X2_sizeOf (by decide) hR.mp hR.fp rfl rfl rfl hl rfl (Nat.le_of_ble_eq_true rfl) (by decide) rfl rfl dX2_beginOf_20 (fun v L1 f1 H locs w hp => ?_)
        obtain ⟨rfl, rfl, hp⟩ := hp
        rcases hp with ⟨rfl, hq20⟩ | ⟨rfl, hq20⟩
        · show W p l e _ s m _ below meth c _ _ _ _ _ (F0 m 23 ls [.int (iI (z i)), .int (iI (sm z i))])
          refine x_iadd X dX2_beginOf_23 ?_
          refine x_is_n (lv' := [(2, .int (iI ((sm z i) + (z i)))), (0, .ref pr), (1, .int (iI pg)), (3, .int (iI i))]) X hl rfl (by decide) rfl dX2_beginOf_24 (fun ls hl => ?_)
          rw [show (sm z i) + (z i) = sm z (i + 1) from (sm_s z (by omega)).symm] at hl
          refine x_iinc (lv' := [(3, .int (iI (i + 1))), (2, .int (iI (sm z (i + 1)))), (0, .ref pr), (1, .int (iI pg))]) X hl 3 rfl (by decide) rfl dX2_beginOf_25 (fun ls hl => ?_)
          refine x_goto (tgt := 4) X (by decide) dX2_beginOf_28 ?_
          refine ih4 (i + 1) _ _ _ (by omega) (by omega) w (lv_sub hl [2, 3, 1, 0] rfl)
        · exfalso; omega
  refine loop4 _ 0 _ _ _ (Nat.lt_succ_self _) (by omega) w (lv_sub hl [2, 3, 1, 0] rfl)

theorem iw_X2_pageWith_X2 : ∀ w ∈ wsX20, w ∈ wsX2_pageWith := by decide +kernel
theorem fq_X2_pageWith_15 : XF wsX2_pageWith RX2 15 2 1 := ⟨RX2, TX2, 2, iw_X2_pageWith_X2, rfl, by decide, by decide +kernel⟩
theorem k_X2_pageWith_X2_sizeOf : XV wsX2_pageWith RX2 23 RX2 yX2_sizeOf cX2_sizeOf 2 (some .int) wsX2_sizeOf 1 := ⟨gX2_pageWith_X2_sizeOf, ⟨_, rfl⟩, rfl, by decide, by decide, by decide +kernel⟩
set_option maxHeartbeats 4000000 in
set_option maxRecDepth 100000 in
theorem c_X2_pageWith (l : Launch) (D : va_G) (cs : ClassId × ClassId × ClassId) (L : List Nat) (f0 : Nat → va_E) (pr sz : Nat) (k : Int) (z : Int → Int) (pg : Int) (hP : PP cs L f0 pr sz k z) (hpg : (0 ≤ k ∧ k ≤ 80) ∧ -2147483648 ≤ pg ∧ pg < 2147483648) (hz4 : ∀ j, 0 ≤ j → j < k → 0 ≤ z j ∧ z j ≤ 4) : C0 l yX2_pageWith wsX2_pageWith ({ frames := 3, cells := 0, slots := 0, locals := 54 } : Room) D cs [.ref pr, .int (iI pg)] L f0 (fun v L1 f1 => L = L1 ∧ f0 = f1 ∧ v = some (.int (iI (pw z k pg)))) := by
  refine C0.of (cc := cX2_pageWith) (maxL := 4) (ret := (some .int)) (by decide) rfl (Nat.le_of_ble_eq_true rfl) ?_
  intro p e s m below meth c X hr hlk hin A hA w ls hl
  have hl : lv_has ls 4 [(0, .ref pr), (1, .int (iI pg))] := hl
  obtain ⟨zz, hR, hz⟩ := hP
  refine x_iconst X dX2_pageWith_0 ?_
  refine x_is_n (lv' := [(2, .int (iI 0)), (0, .ref pr), (1, .int (iI pg))]) X hl rfl (by decide) rfl dX2_pageWith_1 (fun ls hl => ?_)
  refine x_iconst X dX2_pageWith_2 ?_
  refine x_is_n (lv' := [(3, .int (iI 0)), (2, .int (iI 0)), (0, .ref pr), (1, .int (iI pg))]) X hl rfl (by decide) rfl dX2_pageWith_3 (fun ls hl => ?_)
  have loop4 : ∀ (N9 : Nat) (i : Int) (H : Heap) (locs : List Loc) (ls : Array Slot), (k - i).toNat < N9 → (0 ≤ i ∧ i ≤ k) → (0 ≤ pg → ∀ j, 0 ≤ j → j < i → sm z (j + 1) ≤ pg) → XW D A s.heap L f0 H locs → lv_has ls 4 [(0, .ref pr), (1, .int (iI pg)), (2, .int (iI (sm z i))), (3, .int (iI i))] → W p l e ({ frames := 3, cells := 0, slots := 0, locals := 54 } : Room) s m ([.ref pr, .int (iI pg)] : List Value).toArray below meth c H locs 0 0 (MQ below (CQ D cs A (fun v L1 f1 => L = L1 ∧ f0 = f1 ∧ v = some (.int (iI (pw z k pg))))) ([.ref pr, .int (iI pg)] : List Value).toArray s 0 0 A) (F0 m 4 ls []) := by
    intro N9
    induction N9 with
    | zero => intro i H locs ls h9; exact absurd h9 (Nat.not_lt_zero _)
    | succ N9 ih4 =>
      intro i H locs ls h9 hi hj w hl
      refine x_il_n X hl 3 rfl rfl dX2_pageWith_4 ?_
      refine x_al_n X hl 0 rfl rfl dX2_pageWith_5 ?_
      refine x_get X w hR.mp hR.fp fq_X2_pageWith_15 rfl dX2_pageWith_6 ?_
      refine x_icmp_ge (tgt := 37) X (by omega) (by decide) dX2_pageWith_9 (fun hb9 => ?_) (fun hb9 => ?_)
      · refine x_iconst X dX2_pageWith_37 ?_
        refine x_iret X w hr hlk ⟨by decide, by decide⟩ dX2_pageWith_38 ?_
        have he9 : pw z k pg = -1 := pw_no (fun r h9 => by have h10 := hj h9.2.2.1 r h9.1 (by have := h9.2.1; omega); have h11 := h9.2.2.2.1; omega)
        exact ⟨rfl, rfl, by rw [he9]⟩
      · refine x_il_n X hl 2 rfl rfl dX2_pageWith_12 ?_
        refine x_al_n X hl 0 rfl rfl dX2_pageWith_13 ?_
        refine x_il_n X hl 3 rfl rfl dX2_pageWith_14 ?_
        refine x_callV (As := [.int (iI i)]) (rest := [.int (iI (sm z i))]) (c1 := 0) (s1 := 0) X w hA (c_X2_sizeOf l D cs L f0 pr sz k z i ⟨_, hR, hz⟩ (by omega)) k_X2_pageWith_X2_sizeOf (by decide) hR.mp hR.fp rfl rfl rfl hl rfl (Nat.le_of_ble_eq_true rfl) (by decide) rfl rfl dX2_pageWith_15 (fun v L1 f1 H locs w hp => ?_)
        obtain ⟨rfl, rfl, hp⟩ := hp
        rcases hp with ⟨rfl, hq15⟩ | ⟨rfl, hq15⟩
        · show W p l e _ s m _ below meth c _ _ _ _ _ (F0 m 18 ls [.int (iI (z i)), .int (iI (sm z i))])
          refine x_iadd X dX2_pageWith_18 ?_
          refine x_is_n (lv' := [(2, .int (iI ((sm z i) + (z i)))), (0, .ref pr), (1, .int (iI pg)), (3, .int (iI i))]) X hl rfl (by decide) rfl dX2_pageWith_19 (fun ls hl => ?_)
          rw [show (sm z i) + (z i) = sm z (i + 1) from (sm_s z (by omega)).symm] at hl
          have hsb := sm_b hz4 (p := i + 1) (by omega)
          refine x_il_n X hl 2 rfl rfl dX2_pageWith_20 ?_
          refine x_if_lt (tgt := 31) X (by omega) (by decide) dX2_pageWith_21 (fun hb21 => ?_) (fun hb21 => ?_)
          · refine x_iinc (lv' := [(3, .int (iI (i + 1))), (2, .int (iI (sm z (i + 1)))), (0, .ref pr), (1, .int (iI pg))]) X hl 3 rfl (by decide) rfl dX2_pageWith_31 (fun ls hl => ?_)
            refine x_goto (tgt := 4) X (by decide) dX2_pageWith_34 ?_
            refine ih4 (i + 1) _ _ _ (by omega) (by omega) ?_ w (lv_sub hl [2, 3, 1, 0] rfl)
            · intro h8 j h1 h2
              by_cases h3 : j = i
              · subst h3; omega
              · exact hj h8 j h1 (by omega)
          · refine x_il_n X hl 2 rfl rfl dX2_pageWith_24 ?_
            refine x_il_n X hl 0 rfl rfl dX2_pageWith_25 ?_
            refine x_icmp_ge (tgt := 31) X (by omega) (by decide) dX2_pageWith_26 (fun hb26 => ?_) (fun hb26 => ?_)
            · refine x_iinc (lv' := [(3, .int (iI (i + 1))), (2, .int (iI (sm z (i + 1)))), (0, .ref pr), (1, .int (iI pg))]) X hl 3 rfl (by decide) rfl dX2_pageWith_31 (fun ls hl => ?_)
              refine x_goto (tgt := 4) X (by decide) dX2_pageWith_34 ?_
              refine ih4 (i + 1) _ _ _ (by omega) (by omega) ?_ w (lv_sub hl [2, 3, 1, 0] rfl)
              · intro h8 j h1 h2
                by_cases h3 : j = i
                · subst h3; omega
                · exact hj h8 j h1 (by omega)
            · refine x_il_n X hl 3 rfl rfl dX2_pageWith_29 ?_
              refine x_iret X w hr hlk ⟨by decide, by decide⟩ dX2_pageWith_30 ?_
              have he9 : pw z k pg = i := pw_eq ⟨by omega, by omega, by omega, by omega, hj (by omega)⟩
              exact ⟨rfl, rfl, by rw [he9]⟩
        · exfalso; omega
  refine loop4 _ 0 _ _ _ (Nat.lt_succ_self _) (by omega) (fun _ j h1 h2 => absurd h2 (by omega)) w (lv_sub hl [2, 3, 1, 0] rfl)

theorem iw_X2_addTo_X2 : ∀ w ∈ wsX20, w ∈ wsX2_addTo := by decide +kernel
theorem fq_X2_addTo_15 : XF wsX2_addTo RX2 15 2 1 := ⟨RX2, TX2, 2, iw_X2_addTo_X2, rfl, by decide, by decide +kernel⟩
theorem k_X2_addTo_X2_has : XV wsX2_addTo RX2 19 RX2 yX2_has cX2_has 2 (some .boolean) wsX2_has 1 := ⟨gX2_addTo_X2_has, ⟨_, rfl⟩, rfl, by decide, by decide, by decide +kernel⟩
theorem fq_X2_addTo_9 : XF wsX2_addTo RX2 9 2 0 := ⟨RX2, TX2, 2, iw_X2_addTo_X2, rfl, by decide, by decide +kernel⟩
theorem fp_X2_addTo_15 : XGn wsX2_addTo RX2 15 2 1 (tyX2 1) := ⟨RX2, TX2, 2, tyX2, iw_X2_addTo_X2, rfl, by decide, by decide +kernel, tyX2_ok, nmX2, rfl, by decide +kernel⟩
set_option maxHeartbeats 4000000 in
set_option maxRecDepth 100000 in
theorem c_X2_addTo (l : Launch) (D : va_G) (cs : ClassId × ClassId × ClassId) (L : List Nat) (f0 : Nat → va_E) (pr sz : Nat) (k : Int) (z : Int → Int) (pg : Int) (hP : PP cs L f0 pr sz k z) (hpg : (0 ≤ k ∧ k ≤ 80) ∧ (k = 0 ∨ (0 ≤ pg ∧ pg < k)) ∧ -2147483648 ≤ pg ∧ pg < 2147483648) : C0 l yX2_addTo wsX2_addTo ({ frames := 2, cells := 0, slots := 0, locals := 33 } : Room) D cs [.ref pr, .int (iI pg)] L f0 (fun v L1 f1 => v = none ∧ L = L1 ∧ FR f0 f1 pr sz ∧ PP cs L1 f1 pr sz (adK k) (if k = 0 then uI z 0 1 else uI z pg (z pg + 1))) := by
  refine C0.of (cc := cX2_addTo) (maxL := 2) (ret := none) (by decide) rfl (Nat.le_of_ble_eq_true rfl) ?_
  intro p e s m below meth c X hr hlk hin A hA w ls hl
  have hl : lv_has ls 2 [(0, .ref pr), (1, .int (iI pg))] := hl
  obtain ⟨zz, hR, hz⟩ := hP
  have fr : FR f0 f0 pr sz := FR.rf _ _ _
  refine x_al_n X hl 0 rfl rfl dX2_addTo_0 ?_
  refine x_get X w hR.mp hR.fp fq_X2_addTo_15 rfl dX2_addTo_1 ?_
  refine x_if_ne (tgt := 22) X (by omega) (by decide) dX2_addTo_4 (fun hb4 => ?_) (fun hb4 => ?_)
  · refine x_al_n X hl 0 rfl rfl dX2_addTo_22 ?_
    refine x_il_n X hl 1 rfl rfl dX2_addTo_23 ?_
    refine x_callV (As := [.int (iI pg)]) (rest := []) (c1 := 0) (s1 := 0) X w hA (c_X2_has l D cs L f0 pr sz k z pg ⟨_, hR, hz⟩ (by omega)) k_X2_addTo_X2_has (by decide) hR.mp hR.fp rfl rfl rfl hl rfl (Nat.le_of_ble_eq_true rfl) (by decide) rfl rfl dX2_addTo_24 (fun v L1 f1 H locs w hp => ?_)
    obtain ⟨rfl, rfl, hp⟩ := hp
    rcases hp with ⟨rfl, hq24⟩ | ⟨rfl, hq24⟩
    · show W p l e _ s m _ below meth c _ _ _ _ _ (F0 m 27 ls [.int (iI 1)])
      refine x_ifF_eq (tgt := 40) X (by decide) (by decide) (by decide) dX2_addTo_27 ?_
      refine x_al_n X hl 0 rfl rfl dX2_addTo_30 ?_
      refine x_get X w hR.mp hR.fp fq_X2_addTo_9 rfl dX2_addTo_31 ?_
      refine x_il_n X hl 1 rfl rfl dX2_addTo_34 ?_
      refine x_dup2 X rfl rfl dX2_addTo_35 ?_
      refine x_ialdv (v := z pg) X w hR.ms hR.fs (by omega) (hz pg (by omega) (by omega)) dX2_addTo_36 ?_
      refine x_iconst X dX2_addTo_37 ?_
      refine x_iadd X dX2_addTo_38 ?_
      refine x_iast X w hR.ms hR.fs (by omega) dX2_addTo_39 (fun H locs w => ?_)
      obtain ⟨f40, zz40, w, hR, fr, hz40⟩ : ∃ f9 z9, XW D A s.heap L f9 H locs ∧ RR cs L f9 pr sz (k) z9 ∧ FR f0 f9 pr sz ∧ (∀ j, 0 ≤ j → j < k → z9 j = (uI z pg ((z pg) + 1)) j) := ⟨_, _, w, hR.row _, fr.up2, ag_u hz⟩
      refine x_vret X w hr hlk ⟨by decide, by decide⟩ dX2_addTo_40 ?_
      have hk0 : ¬ k = 0 := by omega
      unfold adK; rw [if_neg hk0, if_neg hk0]
      exact ⟨rfl, rfl, fr, _, hR, hz40⟩
    · exfalso; omega
  · refine x_al_n X hl 0 rfl rfl dX2_addTo_7 ?_
    refine x_get X w hR.mp hR.fp fq_X2_addTo_9 rfl dX2_addTo_8 ?_
    refine x_iconst X dX2_addTo_11 ?_
    refine x_iconst X dX2_addTo_12 ?_
    refine x_iast X w hR.ms hR.fs (by omega) dX2_addTo_13 (fun H locs w => ?_)
    obtain ⟨f14, zz14, w, hR, fr, hz14⟩ : ∃ f9 z9, XW D A s.heap L f9 H locs ∧ RR cs L f9 pr sz (k) z9 ∧ FR f0 f9 pr sz ∧ z9 = uI zz 0 1 := ⟨_, _, w, hR.row _, fr.up2, rfl⟩
    refine x_al_n X hl 0 rfl rfl dX2_addTo_14 ?_
    refine x_iconst X dX2_addTo_15 ?_
    refine x_put X w hR.mp hR.fp fp_X2_addTo_15 rfl rfl (Nat.le_of_ble_eq_true rfl) rfl dX2_addTo_16 (fun H locs w => ?_)
    obtain ⟨f19, w, hR, fr⟩ : ∃ f9, XW D A s.heap L f9 H locs ∧ RR cs L f9 pr sz (1) zz14 ∧ FR f0 f9 pr sz := ⟨_, w, hR.cnt _, fr.up1⟩
    refine x_goto (tgt := 40) X (by decide) dX2_addTo_19 ?_
    refine x_vret X w hr hlk ⟨by decide, by decide⟩ dX2_addTo_40 ?_
    have hk0 : k = 0 := by omega
    unfold adK; rw [if_pos hk0, if_pos hk0]
    refine ⟨rfl, rfl, fr, _, hR, fun j h8 h9 => ?_⟩
    have he8 : j = 0 := by omega
    subst he8
    rw [hz14, uI_s, uI_s]

theorem k_X2_split_X2_has : XV wsX2_split RX2 19 RX2 yX2_has cX2_has 2 (some .boolean) wsX2_has 1 := ⟨gX2_split_X2_has, ⟨_, rfl⟩, rfl, by decide, by decide, by decide +kernel⟩
theorem iw_X2_split_X2 : ∀ w ∈ wsX20, w ∈ wsX2_split := by decide +kernel
theorem fq_X2_split_15 : XF wsX2_split RX2 15 2 1 := ⟨RX2, TX2, 2, iw_X2_split_X2, rfl, by decide, by decide +kernel⟩
theorem fq_X2_split_9 : XF wsX2_split RX2 9 2 0 := ⟨RX2, TX2, 2, iw_X2_split_X2, rfl, by decide, by decide +kernel⟩
theorem fp_X2_split_15 : XGn wsX2_split RX2 15 2 1 (tyX2 1) := ⟨RX2, TX2, 2, tyX2, iw_X2_split_X2, rfl, by decide, by decide +kernel, tyX2_ok, nmX2, rfl, by decide +kernel⟩
set_option maxHeartbeats 4000000 in
set_option maxRecDepth 100000 in
theorem c_X2_split (l : Launch) (D : va_G) (cs : ClassId × ClassId × ClassId) (L : List Nat) (f0 : Nat → va_E) (pr sz : Nat) (k : Int) (z : Int → Int) (pg : Int) (hP : PP cs L f0 pr sz k z) (hpg : (0 ≤ k ∧ k < 80) ∧ 0 ≤ pg ∧ pg < k) : C0 l yX2_split wsX2_split ({ frames := 2, cells := 0, slots := 0, locals := 33 } : Room) D cs [.ref pr, .int (iI pg)] L f0 (fun v L1 f1 => v = none ∧ L = L1 ∧ FR f0 f1 pr sz ∧ PP cs L1 f1 pr sz (k + 1) (uI (ins z (pg + 1) 2) pg (z pg - 2))) := by
  refine C0.of (cc := cX2_split) (maxL := 3) (ret := none) (by decide) rfl (Nat.le_of_ble_eq_true rfl) ?_
  intro p e s m below meth c X hr hlk hin A hA w ls hl
  have hl : lv_has ls 3 [(0, .ref pr), (1, .int (iI pg))] := hl
  obtain ⟨zz, hR, hz⟩ := hP
  have fr : FR f0 f0 pr sz := FR.rf _ _ _
  refine x_al_n X hl 0 rfl rfl dX2_split_0 ?_
  refine x_il_n X hl 1 rfl rfl dX2_split_1 ?_
  refine x_callV (As := [.int (iI pg)]) (rest := []) (c1 := 0) (s1 := 0) X w hA (c_X2_has l D cs L f0 pr sz k z pg ⟨_, hR, hz⟩ (by omega)) k_X2_split_X2_has (by decide) hR.mp hR.fp rfl rfl rfl hl rfl (Nat.le_of_ble_eq_true rfl) (by decide) rfl rfl dX2_split_2 (fun v L1 f1 H locs w hp => ?_)
  obtain ⟨rfl, rfl, hp⟩ := hp
  rcases hp with ⟨rfl, hq2⟩ | ⟨rfl, hq2⟩
  · show W p l e _ s m _ below meth c _ _ _ _ _ (F0 m 5 ls [.int (iI 1)])
    refine x_ifF_eq (tgt := 20) X (by decide) (by decide) (by decide) dX2_split_5 ?_
    refine x_al_n X hl 0 rfl rfl dX2_split_8 ?_
    refine x_get X w hR.mp hR.fp fq_X2_split_15 rfl dX2_split_9 ?_
    refine x_al_n X hl 0 rfl rfl dX2_split_12 ?_
    refine x_get X w hR.mp hR.fp fq_X2_split_9 rfl dX2_split_13 ?_
    refine x_alenI X w hR.ms hR.fs dX2_split_16 ?_
    refine x_icmpT_lt (tgt := 21) X (by omega) (by omega) (by decide) dX2_split_17 ?_
    refine x_al_n X hl 0 rfl rfl dX2_split_21 ?_
    refine x_get X w hR.mp hR.fp fq_X2_split_15 rfl dX2_split_22 ?_
    refine x_is_n (lv' := [(2, .int (iI k)), (0, .ref pr), (1, .int (iI pg))]) X hl rfl (by decide) rfl dX2_split_25 (fun ls hl => ?_)
    have loop26 : ∀ (N9 : Nat) (i : Int) (f1 : Nat → va_E) (z1 : Int → Int) (H : Heap) (locs : List Loc) (ls : Array Slot), (i - pg).toNat < N9 → (pg + 1 ≤ i ∧ i ≤ k) → (RR cs L f1 pr sz k z1) → (FR f0 f1 pr sz) → (∀ j, j ≤ i → z1 j = zz j) → (∀ j, i < j → j ≤ k → z1 j = zz (j - 1)) → XW D A s.heap L f1 H locs → lv_has ls 3 [(0, .ref pr), (1, .int (iI pg)), (2, .int (iI i))] → W p l e ({ frames := 2, cells := 0, slots := 0, locals := 33 } : Room) s m ([.ref pr, .int (iI pg)] : List Value).toArray below meth c H locs 0 0 (MQ below (CQ D cs A (fun v L1 f1 => v = none ∧ L = L1 ∧ FR f0 f1 pr sz ∧ PP cs L1 f1 pr sz (k + 1) (uI (ins z (pg + 1) 2) pg (z pg - 2)))) ([.ref pr, .int (iI pg)] : List Value).toArray s 0 0 A) (F0 m 26 ls []) := by
      intro N9
      induction N9 with
      | zero => intro i f1 z1 H locs ls h9; exact absurd h9 (Nat.not_lt_zero _)
      | succ N9 ih26 =>
        intro i f1 z1 H locs ls h9 hi hR fr h1 h2 w hl
        refine x_il_n X hl 2 rfl rfl dX2_split_26 ?_
        refine x_il_n X hl 1 rfl rfl dX2_split_27 ?_
        refine x_iconst X dX2_split_28 ?_
        refine x_iadd X dX2_split_29 ?_
        refine x_icmp_le (tgt := 53) X (by omega) (by decide) dX2_split_30 (fun hb30 => ?_) (fun hb30 => ?_)
        · refine x_al_n X hl 0 rfl rfl dX2_split_53 ?_
          refine x_get X w hR.mp hR.fp fq_X2_split_9 rfl dX2_split_54 ?_
          refine x_il_n X hl 1 rfl rfl dX2_split_57 ?_
          refine x_iconst X dX2_split_58 ?_
          refine x_iadd X dX2_split_59 ?_
          refine x_iconst X dX2_split_60 ?_
          refine x_iast X w hR.ms hR.fs (by omega) dX2_split_61 (fun H locs w => ?_)
          obtain ⟨f62, zz62, w, hR, fr, hz62⟩ : ∃ f9 z9, XW D A s.heap L f9 H locs ∧ RR cs L f9 pr sz (k) z9 ∧ FR f0 f9 pr sz ∧ z9 = uI z1 (pg + 1) 2 := ⟨_, _, w, hR.row _, fr.up2, rfl⟩
          refine x_al_n X hl 0 rfl rfl dX2_split_62 ?_
          refine x_get X w hR.mp hR.fp fq_X2_split_9 rfl dX2_split_63 ?_
          refine x_il_n X hl 1 rfl rfl dX2_split_66 ?_
          refine x_dup2 X rfl rfl dX2_split_67 ?_
          refine x_ialdv (v := zz62 pg) X w hR.ms hR.fs (by omega) (rfl) dX2_split_68 ?_
          refine x_iconst X dX2_split_69 ?_
          refine x_isub X dX2_split_70 ?_
          refine x_iast X w hR.ms hR.fs (by omega) dX2_split_71 (fun H locs w => ?_)
          obtain ⟨f72, zz72, w, hR, fr, hz72⟩ : ∃ f9 z9, XW D A s.heap L f9 H locs ∧ RR cs L f9 pr sz (k) z9 ∧ FR f0 f9 pr sz ∧ z9 = uI zz62 pg ((zz62 pg) - 2) := ⟨_, _, w, hR.row _, fr.up2, rfl⟩
          refine x_al_n X hl 0 rfl rfl dX2_split_72 ?_
          refine x_dup X rfl dX2_split_73 ?_
          refine x_get X w hR.mp hR.fp fq_X2_split_15 rfl dX2_split_74 ?_
          refine x_iconst X dX2_split_77 ?_
          refine x_iadd X dX2_split_78 ?_
          refine x_put X w hR.mp hR.fp fp_X2_split_15 rfl rfl (Nat.le_of_ble_eq_true rfl) rfl dX2_split_79 (fun H locs w => ?_)
          obtain ⟨f82, w, hR, fr⟩ : ∃ f9, XW D A s.heap L f9 H locs ∧ RR cs L f9 pr sz (k + 1) zz72 ∧ FR f0 f9 pr sz := ⟨_, w, hR.cnt _, fr.up1⟩
          refine x_vret X w hr hlk ⟨by decide, by decide⟩ dX2_split_82 ?_
          have he9 : i = pg + 1 := by omega
          subst he9
          exact ⟨rfl, rfl, fr, _, hR, fun j h8 h9 => ag_sp (by omega) hz h1 h2 hz62 hz72 h8 h9⟩
        · refine x_al_n X hl 0 rfl rfl dX2_split_33 ?_
          refine x_get X w hR.mp hR.fp fq_X2_split_9 rfl dX2_split_34 ?_
          refine x_il_n X hl 2 rfl rfl dX2_split_37 ?_
          refine x_al_n X hl 0 rfl rfl dX2_split_38 ?_
          refine x_get X w hR.mp hR.fp fq_X2_split_9 rfl dX2_split_39 ?_
          refine x_il_n X hl 2 rfl rfl dX2_split_42 ?_
          refine x_iconst X dX2_split_43 ?_
          refine x_isub X dX2_split_44 ?_
          refine x_ialdv (v := z1 (i - 1)) X w hR.ms hR.fs (by omega) (rfl) dX2_split_45 ?_
          refine x_iast X w hR.ms hR.fs (by omega) dX2_split_46 (fun H locs w => ?_)
          obtain ⟨f47, zz47, w, hR, fr, hz47⟩ : ∃ f9 z9, XW D A s.heap L f9 H locs ∧ RR cs L f9 pr sz (k) z9 ∧ FR f0 f9 pr sz ∧ z9 = uI z1 i (z1 (i - 1)) := ⟨_, _, w, hR.row _, fr.up2, rfl⟩
          refine x_iinc (lv' := [(2, .int (iI (i + (-1)))), (0, .ref pr), (1, .int (iI pg))]) X hl 2 rfl (by decide) rfl dX2_split_47 (fun ls hl => ?_)
          refine x_goto (tgt := 26) X (by decide) dX2_split_50 ?_
          refine ih26 (i + (-1)) f47 zz47 _ _ _ (by omega) (by omega) hR fr ?_ ?_ w (lv_sub hl [1, 2, 0] rfl)
          · intro j h8
            subst hz47
            rw [uI_n _ _ (by omega)]; exact h1 j (by omega)
          · intro j h8 h9
            subst hz47
            by_cases h7 : j = i
            · subst h7; rw [uI_s]; exact h1 _ (by omega)
            · rw [uI_n _ _ h7]; exact h2 j (by omega) h9
    refine loop26 _ k f0 zz _ _ _ (Nat.lt_succ_self _) (by omega) hR fr (fun _ _ => rfl) (fun j h8 h9 => absurd h9 (by omega)) w (lv_sub hl [1, 2, 0] rfl)
  · exfalso; omega

theorem k_X2_remove_X2_has : XV wsX2_remove RX2 19 RX2 yX2_has cX2_has 2 (some .boolean) wsX2_has 1 := ⟨gX2_remove_X2_has, ⟨_, rfl⟩, rfl, by decide, by decide, by decide +kernel⟩
theorem iw_X2_remove_X2 : ∀ w ∈ wsX20, w ∈ wsX2_remove := by decide +kernel
theorem fq_X2_remove_15 : XF wsX2_remove RX2 15 2 1 := ⟨RX2, TX2, 2, iw_X2_remove_X2, rfl, by decide, by decide +kernel⟩
theorem fp_X2_remove_15 : XGn wsX2_remove RX2 15 2 1 (tyX2 1) := ⟨RX2, TX2, 2, tyX2, iw_X2_remove_X2, rfl, by decide, by decide +kernel, tyX2_ok, nmX2, rfl, by decide +kernel⟩
theorem fq_X2_remove_9 : XF wsX2_remove RX2 9 2 0 := ⟨RX2, TX2, 2, iw_X2_remove_X2, rfl, by decide, by decide +kernel⟩
set_option maxHeartbeats 4000000 in
set_option maxRecDepth 100000 in
theorem c_X2_remove (l : Launch) (D : va_G) (cs : ClassId × ClassId × ClassId) (L : List Nat) (f0 : Nat → va_E) (pr sz : Nat) (k : Int) (z : Int → Int) (pg : Int) (hP : PP cs L f0 pr sz k z) (hpg : (0 ≤ k ∧ k ≤ 80) ∧ 0 ≤ pg ∧ pg < k) : C0 l yX2_remove wsX2_remove ({ frames := 2, cells := 0, slots := 0, locals := 33 } : Room) D cs [.ref pr, .int (iI pg)] L f0 (fun v L1 f1 => v = none ∧ L = L1 ∧ FR f0 f1 pr sz ∧ PP cs L1 f1 pr sz (k - 1) (del z pg)) := by
  refine C0.of (cc := cX2_remove) (maxL := 3) (ret := none) (by decide) rfl (Nat.le_of_ble_eq_true rfl) ?_
  intro p e s m below meth c X hr hlk hin A hA w ls hl
  have hl : lv_has ls 3 [(0, .ref pr), (1, .int (iI pg))] := hl
  obtain ⟨zz, hR, hz⟩ := hP
  have fr : FR f0 f0 pr sz := FR.rf _ _ _
  refine x_al_n X hl 0 rfl rfl dX2_remove_0 ?_
  refine x_il_n X hl 1 rfl rfl dX2_remove_1 ?_
  refine x_callV (As := [.int (iI pg)]) (rest := []) (c1 := 0) (s1 := 0) X w hA (c_X2_has l D cs L f0 pr sz k z pg ⟨_, hR, hz⟩ (by omega)) k_X2_remove_X2_has (by decide) hR.mp hR.fp rfl rfl rfl hl rfl (Nat.le_of_ble_eq_true rfl) (by decide) rfl rfl dX2_remove_2 (fun v L1 f1 H locs w hp => ?_)
  obtain ⟨rfl, rfl, hp⟩ := hp
  rcases hp with ⟨rfl, hq2⟩ | ⟨rfl, hq2⟩
  · show W p l e _ s m _ below meth c _ _ _ _ _ (F0 m 5 ls [.int (iI 1)])
    refine x_ifT_ne (tgt := 9) X (by decide) (by decide) (by decide) dX2_remove_5 ?_
    refine x_al_n X hl 0 rfl rfl dX2_remove_9 ?_
    refine x_dup X rfl dX2_remove_10 ?_
    refine x_get X w hR.mp hR.fp fq_X2_remove_15 rfl dX2_remove_11 ?_
    refine x_iconst X dX2_remove_14 ?_
    refine x_isub X dX2_remove_15 ?_
    refine x_put X w hR.mp hR.fp fp_X2_remove_15 rfl rfl (Nat.le_of_ble_eq_true rfl) rfl dX2_remove_16 (fun H locs w => ?_)
    obtain ⟨f19, w, hR, fr⟩ : ∃ f9, XW D A s.heap L f9 H locs ∧ RR cs L f9 pr sz (k - 1) zz ∧ FR f0 f9 pr sz := ⟨_, w, hR.cnt _, fr.up1⟩
    refine x_il_n X hl 1 rfl rfl dX2_remove_19 ?_
    refine x_is_n (lv' := [(2, .int (iI pg)), (0, .ref pr), (1, .int (iI pg))]) X hl rfl (by decide) rfl dX2_remove_20 (fun ls hl => ?_)
    have loop21 : ∀ (N9 : Nat) (i : Int) (f1 : Nat → va_E) (z1 : Int → Int) (H : Heap) (locs : List Loc) (ls : Array Slot), (k - i).toNat < N9 → (pg ≤ i ∧ i ≤ k - 1) → (RR cs L f1 pr sz (k - 1) z1) → (FR f0 f1 pr sz) → (∀ j, i ≤ j → z1 j = zz j) → (∀ j, j < i → z1 j = del zz pg j) → XW D A s.heap L f1 H locs → lv_has ls 3 [(0, .ref pr), (1, .int (iI pg)), (2, .int (iI i))] → W p l e ({ frames := 2, cells := 0, slots := 0, locals := 33 } : Room) s m ([.ref pr, .int (iI pg)] : List Value).toArray below meth c H locs 0 0 (MQ below (CQ D cs A (fun v L1 f1 => v = none ∧ L = L1 ∧ FR f0 f1 pr sz ∧ PP cs L1 f1 pr sz (k - 1) (del z pg))) ([.ref pr, .int (iI pg)] : List Value).toArray s 0 0 A) (F0 m 21 ls []) := by
      intro N9
      induction N9 with
      | zero => intro i f1 z1 H locs ls h9; exact absurd h9 (Nat.not_lt_zero _)
      | succ N9 ih21 =>
        intro i f1 z1 H locs ls h9 hi hR fr h1 h2 w hl
        refine x_il_n X hl 2 rfl rfl dX2_remove_21 ?_
        refine x_al_n X hl 0 rfl rfl dX2_remove_22 ?_
        refine x_get X w hR.mp hR.fp fq_X2_remove_15 rfl dX2_remove_23 ?_
        refine x_icmp_ge (tgt := 49) X (by omega) (by decide) dX2_remove_26 (fun hb26 => ?_) (fun hb26 => ?_)
        · refine x_vret X w hr hlk ⟨by decide, by decide⟩ dX2_remove_49 ?_
          exact ⟨rfl, rfl, fr, _, hR, fun j h8 h9 => (h2 j (by omega)).trans (ag_d hz h8 h9)⟩
        · refine x_al_n X hl 0 rfl rfl dX2_remove_29 ?_
          refine x_get X w hR.mp hR.fp fq_X2_remove_9 rfl dX2_remove_30 ?_
          refine x_il_n X hl 2 rfl rfl dX2_remove_33 ?_
          refine x_al_n X hl 0 rfl rfl dX2_remove_34 ?_
          refine x_get X w hR.mp hR.fp fq_X2_remove_9 rfl dX2_remove_35 ?_
          refine x_il_n X hl 2 rfl rfl dX2_remove_38 ?_
          refine x_iconst X dX2_remove_39 ?_
          refine x_iadd X dX2_remove_40 ?_
          refine x_ialdv (v := z1 (i + 1)) X w hR.ms hR.fs (by omega) (rfl) dX2_remove_41 ?_
          refine x_iast X w hR.ms hR.fs (by omega) dX2_remove_42 (fun H locs w => ?_)
          obtain ⟨f43, zz43, w, hR, fr, hz43⟩ : ∃ f9 z9, XW D A s.heap L f9 H locs ∧ RR cs L f9 pr sz (k - 1) z9 ∧ FR f0 f9 pr sz ∧ z9 = uI z1 i (z1 (i + 1)) := ⟨_, _, w, hR.row _, fr.up2, rfl⟩
          refine x_iinc (lv' := [(2, .int (iI (i + 1))), (0, .ref pr), (1, .int (iI pg))]) X hl 2 rfl (by decide) rfl dX2_remove_43 (fun ls hl => ?_)
          refine x_goto (tgt := 21) X (by decide) dX2_remove_46 ?_
          refine ih21 (i + 1) f43 zz43 _ _ _ (by omega) (by omega) hR fr ?_ ?_ w (lv_sub hl [1, 2, 0] rfl)
          · intro j h8
            subst hz43
            rw [uI_n _ _ (by omega)]; exact h1 j (by omega)
          · intro j h8
            subst hz43
            by_cases h7 : j = i
            · subst h7; rw [uI_s]; show _ = (if j < pg then zz j else zz (j + 1)); rw [if_neg (by omega)]; exact h1 _ (by omega)
            · rw [uI_n _ _ h7]; exact h2 j (by omega)
    refine loop21 _ pg f19 zz _ _ _ (Nat.lt_succ_self _) (by omega) hR fr (fun _ _ => rfl) (fun j h8 => (if_pos h8).symm) w (lv_sub hl [1, 2, 0] rfl)
  · exfalso; omega

theorem k_X2_move_X2_has : XV wsX2_move RX2 19 RX2 yX2_has cX2_has 2 (some .boolean) wsX2_has 1 := ⟨gX2_move_X2_has, ⟨_, rfl⟩, rfl, by decide, by decide, by decide +kernel⟩
theorem iw_X2_move_X2 : ∀ w ∈ wsX20, w ∈ wsX2_move := by decide +kernel
theorem fq_X2_move_9 : XF wsX2_move RX2 9 2 0 := ⟨RX2, TX2, 2, iw_X2_move_X2, rfl, by decide, by decide +kernel⟩
theorem k_X2_move_X2_remove : XV wsX2_move RX2 27 RX2 yX2_remove cX2_remove 3 none wsX2_remove 1 := ⟨gX2_move_X2_remove, ⟨_, rfl⟩, rfl, by decide, by decide, by decide +kernel⟩
set_option maxHeartbeats 4000000 in
set_option maxRecDepth 100000 in
theorem c_X2_move (l : Launch) (D : va_G) (cs : ClassId × ClassId × ClassId) (L : List Nat) (f0 : Nat → va_E) (pr sz : Nat) (k : Int) (z : Int → Int) (pg pt : Int) (hP : PP cs L f0 pr sz k z) (hpg : (0 ≤ k ∧ k ≤ 80) ∧ (0 ≤ pg ∧ pg < k) ∧ (0 ≤ pt ∧ pt < k) ∧ pg ≠ pt) (hz4 : ∀ j, 0 ≤ j → j < k → 0 ≤ z j ∧ z j ≤ 4) : C0 l yX2_move wsX2_move ({ frames := 3, cells := 0, slots := 0, locals := 55 } : Room) D cs [.ref pr, .int (iI pg), .int (iI pt)] L f0 (fun v L1 f1 => v = none ∧ L = L1 ∧ FR f0 f1 pr sz ∧ PP cs L1 f1 pr sz (mvK z k pg) (mvZ z pg pt)) := by
  refine C0.of (cc := cX2_move) (maxL := 3) (ret := none) (by decide) rfl (Nat.le_of_ble_eq_true rfl) ?_
  intro p e s m below meth c X hr hlk hin A hA w ls hl
  have hl : lv_has ls 3 [(0, .ref pr), (1, .int (iI pg)), (2, .int (iI pt))] := hl
  obtain ⟨zz, hR, hz⟩ := hP
  have fr : FR f0 f0 pr sz := FR.rf _ _ _
  have hq9 := hz4 pg (by omega) (by omega)
  refine x_al_n X hl 0 rfl rfl dX2_move_0 ?_
  refine x_il_n X hl 1 rfl rfl dX2_move_1 ?_
  refine x_callV (As := [.int (iI pg)]) (rest := []) (c1 := 0) (s1 := 0) X w hA (c_X2_has l D cs L f0 pr sz k z pg ⟨_, hR, hz⟩ (by omega)) k_X2_move_X2_has (by decide) hR.mp hR.fp rfl rfl rfl hl rfl (Nat.le_of_ble_eq_true rfl) (by decide) rfl rfl dX2_move_2 (fun v L1 f1 H locs w hp => ?_)
  obtain ⟨rfl, rfl, hp⟩ := hp
  rcases hp with ⟨rfl, hq2⟩ | ⟨rfl, hq2⟩
  · show W p l e _ s m _ below meth c _ _ _ _ _ (F0 m 5 ls [.int (iI 1)])
    refine x_ifF_eq (tgt := 16) X (by decide) (by decide) (by decide) dX2_move_5 ?_
    refine x_al_n X hl 0 rfl rfl dX2_move_8 ?_
    refine x_il_n X hl 2 rfl rfl dX2_move_9 ?_
    refine x_callV (As := [.int (iI pt)]) (rest := []) (c1 := 0) (s1 := 0) X w hA (c_X2_has l D cs L f0 pr sz k z pt ⟨_, hR, hz⟩ (by omega)) k_X2_move_X2_has (by decide) hR.mp hR.fp rfl rfl rfl hl rfl (Nat.le_of_ble_eq_true rfl) (by decide) rfl rfl dX2_move_10 (fun v L1 f1 H locs w hp => ?_)
    obtain ⟨rfl, rfl, hp⟩ := hp
    rcases hp with ⟨rfl, hq10⟩ | ⟨rfl, hq10⟩
    · show W p l e _ s m _ below meth c _ _ _ _ _ (F0 m 13 ls [.int (iI 1)])
      refine x_ifT_ne (tgt := 17) X (by decide) (by decide) (by decide) dX2_move_13 ?_
      refine x_al_n X hl 0 rfl rfl dX2_move_17 ?_
      refine x_get X w hR.mp hR.fp fq_X2_move_9 rfl dX2_move_18 ?_
      refine x_il_n X hl 1 rfl rfl dX2_move_21 ?_
      refine x_dup2 X rfl rfl dX2_move_22 ?_
      refine x_ialdv (v := z pg) X w hR.ms hR.fs (by omega) (hz pg (by omega) (by omega)) dX2_move_23 ?_
      refine x_iconst X dX2_move_24 ?_
      refine x_isub X dX2_move_25 ?_
      refine x_iast X w hR.ms hR.fs (by omega) dX2_move_26 (fun H locs w => ?_)
      obtain ⟨f27, zz27, w, hR, fr, hz27⟩ : ∃ f9 z9, XW D A s.heap L f9 H locs ∧ RR cs L f9 pr sz (k) z9 ∧ FR f0 f9 pr sz ∧ (∀ j, 0 ≤ j → j < k → z9 j = (uI z pg ((z pg) - 1)) j) := ⟨_, _, w, hR.row _, fr.up2, ag_u hz⟩
      refine x_al_n X hl 0 rfl rfl dX2_move_27 ?_
      refine x_get X w hR.mp hR.fp fq_X2_move_9 rfl dX2_move_28 ?_
      refine x_il_n X hl 2 rfl rfl dX2_move_31 ?_
      refine x_dup2 X rfl rfl dX2_move_32 ?_
      refine x_ialdv (v := z pt) X w hR.ms hR.fs (by omega) ((hz27 pt (by omega) (by omega)).trans (uI_n _ _ (by omega))) dX2_move_33 ?_
      refine x_iconst X dX2_move_34 ?_
      refine x_iadd X dX2_move_35 ?_
      refine x_iast X w hR.ms hR.fs (by omega) dX2_move_36 (fun H locs w => ?_)
      obtain ⟨f37, zz37, w, hR, fr, hz37⟩ : ∃ f9 z9, XW D A s.heap L f9 H locs ∧ RR cs L f9 pr sz (k) z9 ∧ FR f0 f9 pr sz ∧ (∀ j, 0 ≤ j → j < k → z9 j = (uI (uI z pg ((z pg) - 1)) pt ((z pt) + 1)) j) := ⟨_, _, w, hR.row _, fr.up2, ag_u hz27⟩
      refine x_al_n X hl 0 rfl rfl dX2_move_37 ?_
      refine x_get X w hR.mp hR.fp fq_X2_move_9 rfl dX2_move_38 ?_
      refine x_il_n X hl 1 rfl rfl dX2_move_41 ?_
      refine x_ialdv (v := (z pg) - 1) X w hR.ms hR.fs (by omega) ((hz37 pg (by omega) (by omega)).trans ((uI_n _ _ (by omega)).trans (uI_s _ _ _))) dX2_move_42 ?_
      refine x_if_ne (tgt := 51) X (by omega) (by decide) dX2_move_43 (fun hb43 => ?_) (fun hb43 => ?_)
      · refine x_vret X w hr hlk ⟨by decide, by decide⟩ dX2_move_51 ?_
        unfold mvK mvZ; rw [if_neg hb43, if_neg hb43]
        exact ⟨rfl, rfl, fr, _, hR, hz37⟩
      · refine x_al_n X hl 0 rfl rfl dX2_move_46 ?_
        refine x_il_n X hl 1 rfl rfl dX2_move_47 ?_
        refine x_callV (As := [.int (iI pg)]) (rest := []) (c1 := 0) (s1 := 0) X w hA (c_X2_remove l D cs L f37 pr sz k (uI (uI z pg ((z pg) - 1)) pt ((z pt) + 1)) pg ⟨_, hR, hz37⟩ (by omega)) k_X2_move_X2_remove (by decide) hR.mp hR.fp rfl rfl rfl hl rfl (Nat.le_of_ble_eq_true rfl) (by decide) rfl rfl dX2_move_48 (fun v L1 f1 H locs w hp => ?_)
        obtain ⟨rfl, rfl, hfr, zz48, hR, hz48⟩ := hp
        have fr := fr.tr hfr
        show W p l e _ s m _ below meth c _ _ _ _ _ (F0 m 51 ls [])
        refine x_vret X w hr hlk ⟨by decide, by decide⟩ dX2_move_51 ?_
        unfold mvK mvZ; rw [if_pos hb43, if_pos hb43]
        exact ⟨rfl, rfl, fr, _, hR, hz48⟩
    · exfalso; omega
  · exfalso; omega

theorem k_X2_borrowOrJoin_X2_sizeOf : XV wsX2_borrowOrJoin RX2 23 RX2 yX2_sizeOf cX2_sizeOf 2 (some .int) wsX2_sizeOf 1 := ⟨gX2_borrowOrJoin_X2_sizeOf, ⟨_, rfl⟩, rfl, by decide, by decide, by decide +kernel⟩
theorem k_X2_borrowOrJoin_X2_has : XV wsX2_borrowOrJoin RX2 19 RX2 yX2_has cX2_has 2 (some .boolean) wsX2_has 1 := ⟨gX2_borrowOrJoin_X2_has, ⟨_, rfl⟩, rfl, by decide, by decide, by decide +kernel⟩
theorem k_X2_borrowOrJoin_X2_move : XV wsX2_borrowOrJoin RX2 34 RX2 yX2_move cX2_move 3 none wsX2_move 2 := ⟨gX2_borrowOrJoin_X2_move, ⟨_, rfl⟩, rfl, by decide, by decide, by decide +kernel⟩
set_option maxHeartbeats 4000000 in
set_option maxRecDepth 100000 in
theorem c_X2_borrowOrJoin (l : Launch) (D : va_G) (cs : ClassId × ClassId × ClassId) (L : List Nat) (f0 : Nat → va_E) (pr sz : Nat) (k : Int) (z : Int → Int) (pg : Int) (hP : PP cs L f0 pr sz k z) (hpg : (1 < k ∧ k ≤ 80) ∧ 0 ≤ pg ∧ pg < k) (hz4 : ∀ j, 0 ≤ j → j < k → 0 ≤ z j ∧ z j ≤ 4) : C0 l yX2_borrowOrJoin wsX2_borrowOrJoin ({ frames := 4, cells := 0, slots := 0, locals := 77 } : Room) D cs [.ref pr, .int (iI pg)] L f0 (fun v L1 f1 => v = none ∧ L = L1 ∧ FR f0 f1 pr sz ∧ PP cs L1 f1 pr sz (mvK z k (bjA z k pg)) (mvZ z (bjA z k pg) (bjB z k pg))) := by
  refine C0.of (cc := cX2_borrowOrJoin) (maxL := 2) (ret := none) (by decide) rfl (Nat.le_of_ble_eq_true rfl) ?_
  intro p e s m below meth c X hr hlk hin A hA w ls hl
  have hl : lv_has ls 2 [(0, .ref pr), (1, .int (iI pg))] := hl
  obtain ⟨zz, hR, hz⟩ := hP
  have fr : FR f0 f0 pr sz := FR.rf _ _ _
  have hq8 := hz4 (pg + 1)
  have hq9 := hz4 (pg - 1)
  refine x_al_n X hl 0 rfl rfl dX2_borrowOrJoin_0 ?_
  refine x_il_n X hl 1 rfl rfl dX2_borrowOrJoin_1 ?_
  refine x_iconst X dX2_borrowOrJoin_2 ?_
  refine x_iadd X dX2_borrowOrJoin_3 ?_
  refine x_callV (As := [.int (iI (pg + 1))]) (rest := []) (c1 := 0) (s1 := 0) X w hA (c_X2_sizeOf l D cs L f0 pr sz k z (pg + 1) ⟨_, hR, hz⟩ (by omega)) k_X2_borrowOrJoin_X2_sizeOf (by decide) hR.mp hR.fp rfl rfl rfl hl rfl (Nat.le_of_ble_eq_true rfl) (by decide) rfl rfl dX2_borrowOrJoin_4 (fun v L1 f1 H locs w hp => ?_)
  obtain ⟨rfl, rfl, hp⟩ := hp
  rcases hp with ⟨rfl, hq4⟩ | ⟨rfl, hq4⟩
  · show W p l e _ s m _ below meth c _ _ _ _ _ (F0 m 7 ls [.int (iI (z (pg + 1)))])
    refine x_iconst X dX2_borrowOrJoin_7 ?_
    refine x_icmp_lt (tgt := 22) X (by omega) (by decide) dX2_borrowOrJoin_8 (fun hb8 => ?_) (fun hb8 => ?_)
    · refine x_al_n X hl 0 rfl rfl dX2_borrowOrJoin_22 ?_
      refine x_il_n X hl 1 rfl rfl dX2_borrowOrJoin_23 ?_
      refine x_iconst X dX2_borrowOrJoin_24 ?_
      refine x_isub X dX2_borrowOrJoin_25 ?_
      refine x_callV (As := [.int (iI (pg - 1))]) (rest := []) (c1 := 0) (s1 := 0) X w hA (c_X2_sizeOf l D cs L f0 pr sz k z (pg - 1) ⟨_, hR, hz⟩ (by omega)) k_X2_borrowOrJoin_X2_sizeOf (by decide) hR.mp hR.fp rfl rfl rfl hl rfl (Nat.le_of_ble_eq_true rfl) (by decide) rfl rfl dX2_borrowOrJoin_26 (fun v L1 f1 H locs w hp => ?_)
      obtain ⟨rfl, rfl, hp⟩ := hp
      rcases hp with ⟨rfl, hq26⟩ | ⟨rfl, hq26⟩
      · show W p l e _ s m _ below meth c _ _ _ _ _ (F0 m 29 ls [.int (iI (z (pg - 1)))])
        refine x_iconst X dX2_borrowOrJoin_29 ?_
        refine x_icmp_lt (tgt := 44) X (by omega) (by decide) dX2_borrowOrJoin_30 (fun hb30 => ?_) (fun hb30 => ?_)
        · refine x_al_n X hl 0 rfl rfl dX2_borrowOrJoin_44 ?_
          refine x_il_n X hl 1 rfl rfl dX2_borrowOrJoin_45 ?_
          refine x_iconst X dX2_borrowOrJoin_46 ?_
          refine x_iadd X dX2_borrowOrJoin_47 ?_
          refine x_callV (As := [.int (iI (pg + 1))]) (rest := []) (c1 := 0) (s1 := 0) X w hA (c_X2_has l D cs L f0 pr sz k z (pg + 1) ⟨_, hR, hz⟩ (by omega)) k_X2_borrowOrJoin_X2_has (by decide) hR.mp hR.fp rfl rfl rfl hl rfl (Nat.le_of_ble_eq_true rfl) (by decide) rfl rfl dX2_borrowOrJoin_48 (fun v L1 f1 H locs w hp => ?_)
          obtain ⟨rfl, rfl, hp⟩ := hp
          rcases hp with ⟨rfl, hq48⟩ | ⟨rfl, hq48⟩
          · show W p l e _ s m _ below meth c _ _ _ _ _ (F0 m 51 ls [.int (iI 1)])
            refine x_ifF_eq (tgt := 65) X (by decide) (by decide) (by decide) dX2_borrowOrJoin_51 ?_
            refine x_al_n X hl 0 rfl rfl dX2_borrowOrJoin_54 ?_
            refine x_il_n X hl 1 rfl rfl dX2_borrowOrJoin_55 ?_
            refine x_il_n X hl 1 rfl rfl dX2_borrowOrJoin_56 ?_
            refine x_iconst X dX2_borrowOrJoin_57 ?_
            refine x_iadd X dX2_borrowOrJoin_58 ?_
            refine x_callV (As := [.int (iI pg), .int (iI (pg + 1))]) (rest := []) (c1 := 0) (s1 := 0) X w hA (c_X2_move l D cs L f0 pr sz k z pg (pg + 1) ⟨_, hR, hz⟩ (by omega) hz4) k_X2_borrowOrJoin_X2_move (by decide) hR.mp hR.fp rfl rfl rfl hl rfl (Nat.le_of_ble_eq_true rfl) (by decide) rfl rfl dX2_borrowOrJoin_59 (fun v L1 f1 H locs w hp => ?_)
            obtain ⟨rfl, rfl, hfr, zz59, hR, hz59⟩ := hp
            have fr := fr.tr hfr
            show W p l e _ s m _ below meth c _ _ _ _ _ (F0 m 62 ls [])
            refine x_goto (tgt := 73) X (by decide) dX2_borrowOrJoin_62 ?_
            refine x_vret X w hr hlk ⟨by decide, by decide⟩ dX2_borrowOrJoin_73 ?_
            have hc1 : ¬ (pg + 1 < k ∧ 3 ≤ z (pg + 1)) := by omega
            have hc2 : ¬ (0 < pg ∧ 3 ≤ z (pg - 1)) := by omega
            have hc3 : pg + 1 < k := by omega
            rw [(bjA_3 hc1 hc2 hc3).1, (bjA_3 hc1 hc2 hc3).2]
            exact ⟨rfl, rfl, fr, _, hR, hz59⟩
          · show W p l e _ s m _ below meth c _ _ _ _ _ (F0 m 51 ls [.int (iI 0)])
            refine x_ifT_eq (tgt := 65) X (by decide) (by decide) (by decide) dX2_borrowOrJoin_51 ?_
            refine x_al_n X hl 0 rfl rfl dX2_borrowOrJoin_65 ?_
            refine x_il_n X hl 1 rfl rfl dX2_borrowOrJoin_66 ?_
            refine x_il_n X hl 1 rfl rfl dX2_borrowOrJoin_67 ?_
            refine x_iconst X dX2_borrowOrJoin_68 ?_
            refine x_isub X dX2_borrowOrJoin_69 ?_
            refine x_callV (As := [.int (iI pg), .int (iI (pg - 1))]) (rest := []) (c1 := 0) (s1 := 0) X w hA (c_X2_move l D cs L f0 pr sz k z pg (pg - 1) ⟨_, hR, hz⟩ (by omega) hz4) k_X2_borrowOrJoin_X2_move (by decide) hR.mp hR.fp rfl rfl rfl hl rfl (Nat.le_of_ble_eq_true rfl) (by decide) rfl rfl dX2_borrowOrJoin_70 (fun v L1 f1 H locs w hp => ?_)
            obtain ⟨rfl, rfl, hfr, zz70, hR, hz70⟩ := hp
            have fr := fr.tr hfr
            show W p l e _ s m _ below meth c _ _ _ _ _ (F0 m 73 ls [])
            refine x_vret X w hr hlk ⟨by decide, by decide⟩ dX2_borrowOrJoin_73 ?_
            have hc1 : ¬ (pg + 1 < k ∧ 3 ≤ z (pg + 1)) := by omega
            have hc2 : ¬ (0 < pg ∧ 3 ≤ z (pg - 1)) := by omega
            have hc3 : ¬ pg + 1 < k := by omega
            rw [(bjA_4 hc1 hc2 hc3).1, (bjA_4 hc1 hc2 hc3).2]
            exact ⟨rfl, rfl, fr, _, hR, hz70⟩
        · refine x_al_n X hl 0 rfl rfl dX2_borrowOrJoin_33 ?_
          refine x_il_n X hl 1 rfl rfl dX2_borrowOrJoin_34 ?_
          refine x_iconst X dX2_borrowOrJoin_35 ?_
          refine x_isub X dX2_borrowOrJoin_36 ?_
          refine x_il_n X hl 1 rfl rfl dX2_borrowOrJoin_37 ?_
          refine x_callV (As := [.int (iI (pg - 1)), .int (iI pg)]) (rest := []) (c1 := 0) (s1 := 0) X w hA (c_X2_move l D cs L f0 pr sz k z (pg - 1) pg ⟨_, hR, hz⟩ (by omega) hz4) k_X2_borrowOrJoin_X2_move (by decide) hR.mp hR.fp rfl rfl rfl hl rfl (Nat.le_of_ble_eq_true rfl) (by decide) rfl rfl dX2_borrowOrJoin_38 (fun v L1 f1 H locs w hp => ?_)
          obtain ⟨rfl, rfl, hfr, zz38, hR, hz38⟩ := hp
          have fr := fr.tr hfr
          show W p l e _ s m _ below meth c _ _ _ _ _ (F0 m 41 ls [])
          refine x_goto (tgt := 73) X (by decide) dX2_borrowOrJoin_41 ?_
          refine x_vret X w hr hlk ⟨by decide, by decide⟩ dX2_borrowOrJoin_73 ?_
          have hc1 : ¬ (pg + 1 < k ∧ 3 ≤ z (pg + 1)) := by omega
          have hc2 : (0 < pg ∧ 3 ≤ z (pg - 1)) := by omega
          rw [(bjA_2 hc1 hc2).1, (bjA_2 hc1 hc2).2]
          exact ⟨rfl, rfl, fr, _, hR, hz38⟩
      · show W p l e _ s m _ below meth c _ _ _ _ _ (F0 m 29 ls [.int (iI 0)])
        refine x_iconst X dX2_borrowOrJoin_29 ?_
        refine x_icmpT_lt (tgt := 44) X (by decide) (by decide) (by decide) dX2_borrowOrJoin_30 ?_
        refine x_al_n X hl 0 rfl rfl dX2_borrowOrJoin_44 ?_
        refine x_il_n X hl 1 rfl rfl dX2_borrowOrJoin_45 ?_
        refine x_iconst X dX2_borrowOrJoin_46 ?_
        refine x_iadd X dX2_borrowOrJoin_47 ?_
        refine x_callV (As := [.int (iI (pg + 1))]) (rest := []) (c1 := 0) (s1 := 0) X w hA (c_X2_has l D cs L f0 pr sz k z (pg + 1) ⟨_, hR, hz⟩ (by omega)) k_X2_borrowOrJoin_X2_has (by decide) hR.mp hR.fp rfl rfl rfl hl rfl (Nat.le_of_ble_eq_true rfl) (by decide) rfl rfl dX2_borrowOrJoin_48 (fun v L1 f1 H locs w hp => ?_)
        obtain ⟨rfl, rfl, hp⟩ := hp
        rcases hp with ⟨rfl, hq48⟩ | ⟨rfl, hq48⟩
        · show W p l e _ s m _ below meth c _ _ _ _ _ (F0 m 51 ls [.int (iI 1)])
          refine x_ifF_eq (tgt := 65) X (by decide) (by decide) (by decide) dX2_borrowOrJoin_51 ?_
          refine x_al_n X hl 0 rfl rfl dX2_borrowOrJoin_54 ?_
          refine x_il_n X hl 1 rfl rfl dX2_borrowOrJoin_55 ?_
          refine x_il_n X hl 1 rfl rfl dX2_borrowOrJoin_56 ?_
          refine x_iconst X dX2_borrowOrJoin_57 ?_
          refine x_iadd X dX2_borrowOrJoin_58 ?_
          refine x_callV (As := [.int (iI pg), .int (iI (pg + 1))]) (rest := []) (c1 := 0) (s1 := 0) X w hA (c_X2_move l D cs L f0 pr sz k z pg (pg + 1) ⟨_, hR, hz⟩ (by omega) hz4) k_X2_borrowOrJoin_X2_move (by decide) hR.mp hR.fp rfl rfl rfl hl rfl (Nat.le_of_ble_eq_true rfl) (by decide) rfl rfl dX2_borrowOrJoin_59 (fun v L1 f1 H locs w hp => ?_)
          obtain ⟨rfl, rfl, hfr, zz59, hR, hz59⟩ := hp
          have fr := fr.tr hfr
          show W p l e _ s m _ below meth c _ _ _ _ _ (F0 m 62 ls [])
          refine x_goto (tgt := 73) X (by decide) dX2_borrowOrJoin_62 ?_
          refine x_vret X w hr hlk ⟨by decide, by decide⟩ dX2_borrowOrJoin_73 ?_
          have hc1 : ¬ (pg + 1 < k ∧ 3 ≤ z (pg + 1)) := by omega
          have hc2 : ¬ (0 < pg ∧ 3 ≤ z (pg - 1)) := by omega
          have hc3 : pg + 1 < k := by omega
          rw [(bjA_3 hc1 hc2 hc3).1, (bjA_3 hc1 hc2 hc3).2]
          exact ⟨rfl, rfl, fr, _, hR, hz59⟩
        · show W p l e _ s m _ below meth c _ _ _ _ _ (F0 m 51 ls [.int (iI 0)])
          refine x_ifT_eq (tgt := 65) X (by decide) (by decide) (by decide) dX2_borrowOrJoin_51 ?_
          refine x_al_n X hl 0 rfl rfl dX2_borrowOrJoin_65 ?_
          refine x_il_n X hl 1 rfl rfl dX2_borrowOrJoin_66 ?_
          refine x_il_n X hl 1 rfl rfl dX2_borrowOrJoin_67 ?_
          refine x_iconst X dX2_borrowOrJoin_68 ?_
          refine x_isub X dX2_borrowOrJoin_69 ?_
          refine x_callV (As := [.int (iI pg), .int (iI (pg - 1))]) (rest := []) (c1 := 0) (s1 := 0) X w hA (c_X2_move l D cs L f0 pr sz k z pg (pg - 1) ⟨_, hR, hz⟩ (by omega) hz4) k_X2_borrowOrJoin_X2_move (by decide) hR.mp hR.fp rfl rfl rfl hl rfl (Nat.le_of_ble_eq_true rfl) (by decide) rfl rfl dX2_borrowOrJoin_70 (fun v L1 f1 H locs w hp => ?_)
          obtain ⟨rfl, rfl, hfr, zz70, hR, hz70⟩ := hp
          have fr := fr.tr hfr
          show W p l e _ s m _ below meth c _ _ _ _ _ (F0 m 73 ls [])
          refine x_vret X w hr hlk ⟨by decide, by decide⟩ dX2_borrowOrJoin_73 ?_
          have hc1 : ¬ (pg + 1 < k ∧ 3 ≤ z (pg + 1)) := by omega
          have hc2 : ¬ (0 < pg ∧ 3 ≤ z (pg - 1)) := by omega
          have hc3 : ¬ pg + 1 < k := by omega
          rw [(bjA_4 hc1 hc2 hc3).1, (bjA_4 hc1 hc2 hc3).2]
          exact ⟨rfl, rfl, fr, _, hR, hz70⟩
    · refine x_al_n X hl 0 rfl rfl dX2_borrowOrJoin_11 ?_
      refine x_il_n X hl 1 rfl rfl dX2_borrowOrJoin_12 ?_
      refine x_iconst X dX2_borrowOrJoin_13 ?_
      refine x_iadd X dX2_borrowOrJoin_14 ?_
      refine x_il_n X hl 1 rfl rfl dX2_borrowOrJoin_15 ?_
      refine x_callV (As := [.int (iI (pg + 1)), .int (iI pg)]) (rest := []) (c1 := 0) (s1 := 0) X w hA (c_X2_move l D cs L f0 pr sz k z (pg + 1) pg ⟨_, hR, hz⟩ (by omega) hz4) k_X2_borrowOrJoin_X2_move (by decide) hR.mp hR.fp rfl rfl rfl hl rfl (Nat.le_of_ble_eq_true rfl) (by decide) rfl rfl dX2_borrowOrJoin_16 (fun v L1 f1 H locs w hp => ?_)
      obtain ⟨rfl, rfl, hfr, zz16, hR, hz16⟩ := hp
      have fr := fr.tr hfr
      show W p l e _ s m _ below meth c _ _ _ _ _ (F0 m 19 ls [])
      refine x_goto (tgt := 73) X (by decide) dX2_borrowOrJoin_19 ?_
      refine x_vret X w hr hlk ⟨by decide, by decide⟩ dX2_borrowOrJoin_73 ?_
      have hc1 : (pg + 1 < k ∧ 3 ≤ z (pg + 1)) := by omega
      rw [(bjA_1 hc1).1, (bjA_1 hc1).2]
      exact ⟨rfl, rfl, fr, _, hR, hz16⟩
  · show W p l e _ s m _ below meth c _ _ _ _ _ (F0 m 7 ls [.int (iI 0)])
    refine x_iconst X dX2_borrowOrJoin_7 ?_
    refine x_icmpT_lt (tgt := 22) X (by decide) (by decide) (by decide) dX2_borrowOrJoin_8 ?_
    refine x_al_n X hl 0 rfl rfl dX2_borrowOrJoin_22 ?_
    refine x_il_n X hl 1 rfl rfl dX2_borrowOrJoin_23 ?_
    refine x_iconst X dX2_borrowOrJoin_24 ?_
    refine x_isub X dX2_borrowOrJoin_25 ?_
    refine x_callV (As := [.int (iI (pg - 1))]) (rest := []) (c1 := 0) (s1 := 0) X w hA (c_X2_sizeOf l D cs L f0 pr sz k z (pg - 1) ⟨_, hR, hz⟩ (by omega)) k_X2_borrowOrJoin_X2_sizeOf (by decide) hR.mp hR.fp rfl rfl rfl hl rfl (Nat.le_of_ble_eq_true rfl) (by decide) rfl rfl dX2_borrowOrJoin_26 (fun v L1 f1 H locs w hp => ?_)
    obtain ⟨rfl, rfl, hp⟩ := hp
    rcases hp with ⟨rfl, hq26⟩ | ⟨rfl, hq26⟩
    · show W p l e _ s m _ below meth c _ _ _ _ _ (F0 m 29 ls [.int (iI (z (pg - 1)))])
      refine x_iconst X dX2_borrowOrJoin_29 ?_
      refine x_icmp_lt (tgt := 44) X (by omega) (by decide) dX2_borrowOrJoin_30 (fun hb30 => ?_) (fun hb30 => ?_)
      · refine x_al_n X hl 0 rfl rfl dX2_borrowOrJoin_44 ?_
        refine x_il_n X hl 1 rfl rfl dX2_borrowOrJoin_45 ?_
        refine x_iconst X dX2_borrowOrJoin_46 ?_
        refine x_iadd X dX2_borrowOrJoin_47 ?_
        refine x_callV (As := [.int (iI (pg + 1))]) (rest := []) (c1 := 0) (s1 := 0) X w hA (c_X2_has l D cs L f0 pr sz k z (pg + 1) ⟨_, hR, hz⟩ (by omega)) k_X2_borrowOrJoin_X2_has (by decide) hR.mp hR.fp rfl rfl rfl hl rfl (Nat.le_of_ble_eq_true rfl) (by decide) rfl rfl dX2_borrowOrJoin_48 (fun v L1 f1 H locs w hp => ?_)
        obtain ⟨rfl, rfl, hp⟩ := hp
        rcases hp with ⟨rfl, hq48⟩ | ⟨rfl, hq48⟩
        · show W p l e _ s m _ below meth c _ _ _ _ _ (F0 m 51 ls [.int (iI 1)])
          refine x_ifF_eq (tgt := 65) X (by decide) (by decide) (by decide) dX2_borrowOrJoin_51 ?_
          refine x_al_n X hl 0 rfl rfl dX2_borrowOrJoin_54 ?_
          refine x_il_n X hl 1 rfl rfl dX2_borrowOrJoin_55 ?_
          refine x_il_n X hl 1 rfl rfl dX2_borrowOrJoin_56 ?_
          refine x_iconst X dX2_borrowOrJoin_57 ?_
          refine x_iadd X dX2_borrowOrJoin_58 ?_
          refine x_callV (As := [.int (iI pg), .int (iI (pg + 1))]) (rest := []) (c1 := 0) (s1 := 0) X w hA (c_X2_move l D cs L f0 pr sz k z pg (pg + 1) ⟨_, hR, hz⟩ (by omega) hz4) k_X2_borrowOrJoin_X2_move (by decide) hR.mp hR.fp rfl rfl rfl hl rfl (Nat.le_of_ble_eq_true rfl) (by decide) rfl rfl dX2_borrowOrJoin_59 (fun v L1 f1 H locs w hp => ?_)
          obtain ⟨rfl, rfl, hfr, zz59, hR, hz59⟩ := hp
          have fr := fr.tr hfr
          show W p l e _ s m _ below meth c _ _ _ _ _ (F0 m 62 ls [])
          refine x_goto (tgt := 73) X (by decide) dX2_borrowOrJoin_62 ?_
          refine x_vret X w hr hlk ⟨by decide, by decide⟩ dX2_borrowOrJoin_73 ?_
          have hc1 : ¬ (pg + 1 < k ∧ 3 ≤ z (pg + 1)) := by omega
          have hc2 : ¬ (0 < pg ∧ 3 ≤ z (pg - 1)) := by omega
          have hc3 : pg + 1 < k := by omega
          rw [(bjA_3 hc1 hc2 hc3).1, (bjA_3 hc1 hc2 hc3).2]
          exact ⟨rfl, rfl, fr, _, hR, hz59⟩
        · show W p l e _ s m _ below meth c _ _ _ _ _ (F0 m 51 ls [.int (iI 0)])
          refine x_ifT_eq (tgt := 65) X (by decide) (by decide) (by decide) dX2_borrowOrJoin_51 ?_
          refine x_al_n X hl 0 rfl rfl dX2_borrowOrJoin_65 ?_
          refine x_il_n X hl 1 rfl rfl dX2_borrowOrJoin_66 ?_
          refine x_il_n X hl 1 rfl rfl dX2_borrowOrJoin_67 ?_
          refine x_iconst X dX2_borrowOrJoin_68 ?_
          refine x_isub X dX2_borrowOrJoin_69 ?_
          refine x_callV (As := [.int (iI pg), .int (iI (pg - 1))]) (rest := []) (c1 := 0) (s1 := 0) X w hA (c_X2_move l D cs L f0 pr sz k z pg (pg - 1) ⟨_, hR, hz⟩ (by omega) hz4) k_X2_borrowOrJoin_X2_move (by decide) hR.mp hR.fp rfl rfl rfl hl rfl (Nat.le_of_ble_eq_true rfl) (by decide) rfl rfl dX2_borrowOrJoin_70 (fun v L1 f1 H locs w hp => ?_)
          obtain ⟨rfl, rfl, hfr, zz70, hR, hz70⟩ := hp
          have fr := fr.tr hfr
          show W p l e _ s m _ below meth c _ _ _ _ _ (F0 m 73 ls [])
          refine x_vret X w hr hlk ⟨by decide, by decide⟩ dX2_borrowOrJoin_73 ?_
          have hc1 : ¬ (pg + 1 < k ∧ 3 ≤ z (pg + 1)) := by omega
          have hc2 : ¬ (0 < pg ∧ 3 ≤ z (pg - 1)) := by omega
          have hc3 : ¬ pg + 1 < k := by omega
          rw [(bjA_4 hc1 hc2 hc3).1, (bjA_4 hc1 hc2 hc3).2]
          exact ⟨rfl, rfl, fr, _, hR, hz70⟩
      · refine x_al_n X hl 0 rfl rfl dX2_borrowOrJoin_33 ?_
        refine x_il_n X hl 1 rfl rfl dX2_borrowOrJoin_34 ?_
        refine x_iconst X dX2_borrowOrJoin_35 ?_
        refine x_isub X dX2_borrowOrJoin_36 ?_
        refine x_il_n X hl 1 rfl rfl dX2_borrowOrJoin_37 ?_
        refine x_callV (As := [.int (iI (pg - 1)), .int (iI pg)]) (rest := []) (c1 := 0) (s1 := 0) X w hA (c_X2_move l D cs L f0 pr sz k z (pg - 1) pg ⟨_, hR, hz⟩ (by omega) hz4) k_X2_borrowOrJoin_X2_move (by decide) hR.mp hR.fp rfl rfl rfl hl rfl (Nat.le_of_ble_eq_true rfl) (by decide) rfl rfl dX2_borrowOrJoin_38 (fun v L1 f1 H locs w hp => ?_)
        obtain ⟨rfl, rfl, hfr, zz38, hR, hz38⟩ := hp
        have fr := fr.tr hfr
        show W p l e _ s m _ below meth c _ _ _ _ _ (F0 m 41 ls [])
        refine x_goto (tgt := 73) X (by decide) dX2_borrowOrJoin_41 ?_
        refine x_vret X w hr hlk ⟨by decide, by decide⟩ dX2_borrowOrJoin_73 ?_
        have hc1 : ¬ (pg + 1 < k ∧ 3 ≤ z (pg + 1)) := by omega
        have hc2 : (0 < pg ∧ 3 ≤ z (pg - 1)) := by omega
        rw [(bjA_2 hc1 hc2).1, (bjA_2 hc1 hc2).2]
        exact ⟨rfl, rfl, fr, _, hR, hz38⟩
    · show W p l e _ s m _ below meth c _ _ _ _ _ (F0 m 29 ls [.int (iI 0)])
      refine x_iconst X dX2_borrowOrJoin_29 ?_
      refine x_icmpT_lt (tgt := 44) X (by decide) (by decide) (by decide) dX2_borrowOrJoin_30 ?_
      refine x_al_n X hl 0 rfl rfl dX2_borrowOrJoin_44 ?_
      refine x_il_n X hl 1 rfl rfl dX2_borrowOrJoin_45 ?_
      refine x_iconst X dX2_borrowOrJoin_46 ?_
      refine x_iadd X dX2_borrowOrJoin_47 ?_
      refine x_callV (As := [.int (iI (pg + 1))]) (rest := []) (c1 := 0) (s1 := 0) X w hA (c_X2_has l D cs L f0 pr sz k z (pg + 1) ⟨_, hR, hz⟩ (by omega)) k_X2_borrowOrJoin_X2_has (by decide) hR.mp hR.fp rfl rfl rfl hl rfl (Nat.le_of_ble_eq_true rfl) (by decide) rfl rfl dX2_borrowOrJoin_48 (fun v L1 f1 H locs w hp => ?_)
      obtain ⟨rfl, rfl, hp⟩ := hp
      rcases hp with ⟨rfl, hq48⟩ | ⟨rfl, hq48⟩
      · show W p l e _ s m _ below meth c _ _ _ _ _ (F0 m 51 ls [.int (iI 1)])
        refine x_ifF_eq (tgt := 65) X (by decide) (by decide) (by decide) dX2_borrowOrJoin_51 ?_
        refine x_al_n X hl 0 rfl rfl dX2_borrowOrJoin_54 ?_
        refine x_il_n X hl 1 rfl rfl dX2_borrowOrJoin_55 ?_
        refine x_il_n X hl 1 rfl rfl dX2_borrowOrJoin_56 ?_
        refine x_iconst X dX2_borrowOrJoin_57 ?_
        refine x_iadd X dX2_borrowOrJoin_58 ?_
        refine x_callV (As := [.int (iI pg), .int (iI (pg + 1))]) (rest := []) (c1 := 0) (s1 := 0) X w hA (c_X2_move l D cs L f0 pr sz k z pg (pg + 1) ⟨_, hR, hz⟩ (by omega) hz4) k_X2_borrowOrJoin_X2_move (by decide) hR.mp hR.fp rfl rfl rfl hl rfl (Nat.le_of_ble_eq_true rfl) (by decide) rfl rfl dX2_borrowOrJoin_59 (fun v L1 f1 H locs w hp => ?_)
        obtain ⟨rfl, rfl, hfr, zz59, hR, hz59⟩ := hp
        have fr := fr.tr hfr
        show W p l e _ s m _ below meth c _ _ _ _ _ (F0 m 62 ls [])
        refine x_goto (tgt := 73) X (by decide) dX2_borrowOrJoin_62 ?_
        refine x_vret X w hr hlk ⟨by decide, by decide⟩ dX2_borrowOrJoin_73 ?_
        have hc1 : ¬ (pg + 1 < k ∧ 3 ≤ z (pg + 1)) := by omega
        have hc2 : ¬ (0 < pg ∧ 3 ≤ z (pg - 1)) := by omega
        have hc3 : pg + 1 < k := by omega
        rw [(bjA_3 hc1 hc2 hc3).1, (bjA_3 hc1 hc2 hc3).2]
        exact ⟨rfl, rfl, fr, _, hR, hz59⟩
      · show W p l e _ s m _ below meth c _ _ _ _ _ (F0 m 51 ls [.int (iI 0)])
        refine x_ifT_eq (tgt := 65) X (by decide) (by decide) (by decide) dX2_borrowOrJoin_51 ?_
        refine x_al_n X hl 0 rfl rfl dX2_borrowOrJoin_65 ?_
        refine x_il_n X hl 1 rfl rfl dX2_borrowOrJoin_66 ?_
        refine x_il_n X hl 1 rfl rfl dX2_borrowOrJoin_67 ?_
        refine x_iconst X dX2_borrowOrJoin_68 ?_
        refine x_isub X dX2_borrowOrJoin_69 ?_
        refine x_callV (As := [.int (iI pg), .int (iI (pg - 1))]) (rest := []) (c1 := 0) (s1 := 0) X w hA (c_X2_move l D cs L f0 pr sz k z pg (pg - 1) ⟨_, hR, hz⟩ (by omega) hz4) k_X2_borrowOrJoin_X2_move (by decide) hR.mp hR.fp rfl rfl rfl hl rfl (Nat.le_of_ble_eq_true rfl) (by decide) rfl rfl dX2_borrowOrJoin_70 (fun v L1 f1 H locs w hp => ?_)
        obtain ⟨rfl, rfl, hfr, zz70, hR, hz70⟩ := hp
        have fr := fr.tr hfr
        show W p l e _ s m _ below meth c _ _ _ _ _ (F0 m 73 ls [])
        refine x_vret X w hr hlk ⟨by decide, by decide⟩ dX2_borrowOrJoin_73 ?_
        have hc1 : ¬ (pg + 1 < k ∧ 3 ≤ z (pg + 1)) := by omega
        have hc2 : ¬ (0 < pg ∧ 3 ≤ z (pg - 1)) := by omega
        have hc3 : ¬ pg + 1 < k := by omega
        rw [(bjA_4 hc1 hc2 hc3).1, (bjA_4 hc1 hc2 hc3).2]
        exact ⟨rfl, rfl, fr, _, hR, hz70⟩

theorem k_X2_takeFrom_X2_has : XV wsX2_takeFrom RX2 19 RX2 yX2_has cX2_has 2 (some .boolean) wsX2_has 1 := ⟨gX2_takeFrom_X2_has, ⟨_, rfl⟩, rfl, by decide, by decide, by decide +kernel⟩
theorem iw_X2_takeFrom_X2 : ∀ w ∈ wsX20, w ∈ wsX2_takeFrom := by decide +kernel
theorem fq_X2_takeFrom_9 : XF wsX2_takeFrom RX2 9 2 0 := ⟨RX2, TX2, 2, iw_X2_takeFrom_X2, rfl, by decide, by decide +kernel⟩
theorem fq_X2_takeFrom_15 : XF wsX2_takeFrom RX2 15 2 1 := ⟨RX2, TX2, 2, iw_X2_takeFrom_X2, rfl, by decide, by decide +kernel⟩
theorem k_X2_takeFrom_X2_borrowOrJoin : XV wsX2_takeFrom RX2 31 RX2 yX2_borrowOrJoin cX2_borrowOrJoin 2 none wsX2_borrowOrJoin 1 := ⟨gX2_takeFrom_X2_borrowOrJoin, ⟨_, rfl⟩, rfl, by decide, by decide, by decide +kernel⟩
theorem k_X2_takeFrom_X2_remove : XV wsX2_takeFrom RX2 27 RX2 yX2_remove cX2_remove 3 none wsX2_remove 1 := ⟨gX2_takeFrom_X2_remove, ⟨_, rfl⟩, rfl, by decide, by decide, by decide +kernel⟩
set_option maxHeartbeats 4000000 in
set_option maxRecDepth 100000 in
theorem c_X2_takeFrom (l : Launch) (D : va_G) (cs : ClassId × ClassId × ClassId) (L : List Nat) (f0 : Nat → va_E) (pr sz : Nat) (k : Int) (z : Int → Int) (pg : Int) (hP : PP cs L f0 pr sz k z) (hpg : (0 ≤ k ∧ k ≤ 80) ∧ 0 ≤ pg ∧ pg < k) (hz4 : ∀ j, 0 ≤ j → j < k → 0 ≤ z j ∧ z j ≤ 4) : C0 l yX2_takeFrom wsX2_takeFrom ({ frames := 5, cells := 0, slots := 0, locals := 98 } : Room) D cs [.ref pr, .int (iI pg)] L f0 (fun v L1 f1 => v = none ∧ L = L1 ∧ FR f0 f1 pr sz ∧ PP cs L1 f1 pr sz (tkK z k pg) (tkZ z k pg)) := by
  refine C0.of (cc := cX2_takeFrom) (maxL := 2) (ret := none) (by decide) rfl (Nat.le_of_ble_eq_true rfl) ?_
  intro p e s m below meth c X hr hlk hin A hA w ls hl
  have hl : lv_has ls 2 [(0, .ref pr), (1, .int (iI pg))] := hl
  obtain ⟨zz, hR, hz⟩ := hP
  have fr : FR f0 f0 pr sz := FR.rf _ _ _
  have hq9 := hz4 pg (by omega) (by omega)
  refine x_al_n X hl 0 rfl rfl dX2_takeFrom_0 ?_
  refine x_il_n X hl 1 rfl rfl dX2_takeFrom_1 ?_
  refine x_callV (As := [.int (iI pg)]) (rest := []) (c1 := 0) (s1 := 0) X w hA (c_X2_has l D cs L f0 pr sz k z pg ⟨_, hR, hz⟩ (by omega)) k_X2_takeFrom_X2_has (by decide) hR.mp hR.fp rfl rfl rfl hl rfl (Nat.le_of_ble_eq_true rfl) (by decide) rfl rfl dX2_takeFrom_2 (fun v L1 f1 H locs w hp => ?_)
  obtain ⟨rfl, rfl, hp⟩ := hp
  rcases hp with ⟨rfl, hq2⟩ | ⟨rfl, hq2⟩
  · show W p l e _ s m _ below meth c _ _ _ _ _ (F0 m 5 ls [.int (iI 1)])
    refine x_ifT_ne (tgt := 9) X (by decide) (by decide) (by decide) dX2_takeFrom_5 ?_
    refine x_al_n X hl 0 rfl rfl dX2_takeFrom_9 ?_
    refine x_get X w hR.mp hR.fp fq_X2_takeFrom_9 rfl dX2_takeFrom_10 ?_
    refine x_il_n X hl 1 rfl rfl dX2_takeFrom_13 ?_
    refine x_dup2 X rfl rfl dX2_takeFrom_14 ?_
    refine x_ialdv (v := z pg) X w hR.ms hR.fs (by omega) (hz pg (by omega) (by omega)) dX2_takeFrom_15 ?_
    refine x_iconst X dX2_takeFrom_16 ?_
    refine x_isub X dX2_takeFrom_17 ?_
    refine x_iast X w hR.ms hR.fs (by omega) dX2_takeFrom_18 (fun H locs w => ?_)
    obtain ⟨f19, zz19, w, hR, fr, hz19⟩ : ∃ f9 z9, XW D A s.heap L f9 H locs ∧ RR cs L f9 pr sz (k) z9 ∧ FR f0 f9 pr sz ∧ (∀ j, 0 ≤ j → j < k → z9 j = (uI z pg ((z pg) - 1)) j) := ⟨_, _, w, hR.row _, fr.up2, ag_u hz⟩
    refine x_al_n X hl 0 rfl rfl dX2_takeFrom_19 ?_
    refine x_get X w hR.mp hR.fp fq_X2_takeFrom_9 rfl dX2_takeFrom_20 ?_
    refine x_il_n X hl 1 rfl rfl dX2_takeFrom_23 ?_
    refine x_ialdv (v := (z pg) - 1) X w hR.ms hR.fs (by omega) ((hz19 pg (by omega) (by omega)).trans (uI_s _ _ _)) dX2_takeFrom_24 ?_
    refine x_if_ne (tgt := 36) X (by omega) (by decide) dX2_takeFrom_25 (fun hb25 => ?_) (fun hb25 => ?_)
    · refine x_al_n X hl 0 rfl rfl dX2_takeFrom_36 ?_
      refine x_get X w hR.mp hR.fp fq_X2_takeFrom_9 rfl dX2_takeFrom_37 ?_
      refine x_il_n X hl 1 rfl rfl dX2_takeFrom_40 ?_
      refine x_ialdv (v := (z pg) - 1) X w hR.ms hR.fs (by omega) ((hz19 pg (by omega) (by omega)).trans (uI_s _ _ _)) dX2_takeFrom_41 ?_
      refine x_iconst X dX2_takeFrom_42 ?_
      refine x_icmp_ne (tgt := 59) X (by omega) (by decide) dX2_takeFrom_43 (fun hb43 => ?_) (fun hb43 => ?_)
      · refine x_vret X w hr hlk ⟨by decide, by decide⟩ dX2_takeFrom_59 ?_
        have hc1 : ¬ (z pg - 1 = 1 ∧ 1 < k) := by omega
        unfold tkK tkZ; rw [if_neg hb25, if_neg hb25, if_neg hc1, if_neg hc1]
        exact ⟨rfl, rfl, fr, _, hR, hz19⟩
      · refine x_al_n X hl 0 rfl rfl dX2_takeFrom_46 ?_
        refine x_get X w hR.mp hR.fp fq_X2_takeFrom_15 rfl dX2_takeFrom_47 ?_
        refine x_iconst X dX2_takeFrom_50 ?_
        refine x_icmp_le (tgt := 59) X (by omega) (by decide) dX2_takeFrom_51 (fun hb51 => ?_) (fun hb51 => ?_)
        · refine x_vret X w hr hlk ⟨by decide, by decide⟩ dX2_takeFrom_59 ?_
          have hc1 : ¬ (z pg - 1 = 1 ∧ 1 < k) := by omega
          unfold tkK tkZ; rw [if_neg hb25, if_neg hb25, if_neg hc1, if_neg hc1]
          exact ⟨rfl, rfl, fr, _, hR, hz19⟩
        · have hz4b : ∀ j, 0 ≤ j → j < k → 0 ≤ uI z pg (z pg - 1) j ∧ uI z pg (z pg - 1) j ≤ 4 := by
            intro j h1 h2
            by_cases h3 : j = pg
            · subst h3; rw [uI_s]; omega
            · rw [uI_n _ _ h3]; exact hz4 j h1 h2
          refine x_al_n X hl 0 rfl rfl dX2_takeFrom_54 ?_
          refine x_il_n X hl 1 rfl rfl dX2_takeFrom_55 ?_
          refine x_callV (As := [.int (iI pg)]) (rest := []) (c1 := 0) (s1 := 0) X w hA (c_X2_borrowOrJoin l D cs L f19 pr sz k (uI z pg ((z pg) - 1)) pg ⟨_, hR, hz19⟩ (by omega) hz4b) k_X2_takeFrom_X2_borrowOrJoin (by decide) hR.mp hR.fp rfl rfl rfl hl rfl (Nat.le_of_ble_eq_true rfl) (by decide) rfl rfl dX2_takeFrom_56 (fun v L1 f1 H locs w hp => ?_)
          obtain ⟨rfl, rfl, hfr, zz56, hR, hz56⟩ := hp
          have fr := fr.tr hfr
          show W p l e _ s m _ below meth c _ _ _ _ _ (F0 m 59 ls [])
          refine x_vret X w hr hlk ⟨by decide, by decide⟩ dX2_takeFrom_59 ?_
          have hc1 : z pg - 1 = 1 ∧ 1 < k := by omega
          unfold tkK tkZ; rw [if_neg hb25, if_neg hb25, if_pos hc1, if_pos hc1]
          exact ⟨rfl, rfl, fr, _, hR, hz56⟩
    · refine x_al_n X hl 0 rfl rfl dX2_takeFrom_28 ?_
      refine x_il_n X hl 1 rfl rfl dX2_takeFrom_29 ?_
      refine x_callV (As := [.int (iI pg)]) (rest := []) (c1 := 0) (s1 := 0) X w hA (c_X2_remove l D cs L f19 pr sz k (uI z pg ((z pg) - 1)) pg ⟨_, hR, hz19⟩ (by omega)) k_X2_takeFrom_X2_remove (by decide) hR.mp hR.fp rfl rfl rfl hl rfl (Nat.le_of_ble_eq_true rfl) (by decide) rfl rfl dX2_takeFrom_30 (fun v L1 f1 H locs w hp => ?_)
      obtain ⟨rfl, rfl, hfr, zz30, hR, hz30⟩ := hp
      have fr := fr.tr hfr
      show W p l e _ s m _ below meth c _ _ _ _ _ (F0 m 33 ls [])
      refine x_goto (tgt := 59) X (by decide) dX2_takeFrom_33 ?_
      refine x_vret X w hr hlk ⟨by decide, by decide⟩ dX2_takeFrom_59 ?_
      unfold tkK tkZ; rw [if_pos hb25, if_pos hb25]
      exact ⟨rfl, rfl, fr, _, hR, hz30⟩
  · exfalso; omega
