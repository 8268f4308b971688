/-! sums of pages, and what is done to a row of pages -/
def smN (z : Int → Int) : Nat → Int | 0 => 0 | n + 1 => smN z n + z (n : Int)
def sm (z : Int → Int) (p : Int) : Int := smN z p.toNat
theorem sm_0 (z : Int → Int) : sm z 0 = 0 := rfl
theorem sm_s (z : Int → Int) {p : Int} (h : 0 ≤ p) : sm z (p + 1) = sm z p + z p := by
  have e : (p + 1).toNat = p.toNat + 1 := by omega
  show smN z (p + 1).toNat = smN z p.toNat + z p
  rw [e]
  show smN z p.toNat + z ((p.toNat : Nat) : Int) = _
  rw [show ((p.toNat : Nat) : Int) = p by omega]
theorem sm_rg {z : Int → Int} {k M : Int} (hM : 0 ≤ M) (hz : ∀ j, 0 ≤ j → j < k → 0 ≤ z j ∧ z j ≤ M) : ∀ n : Nat, (n : Int) ≤ k → 0 ≤ sm z n ∧ sm z n ≤ M * n := by
  intro n
  induction n with
  | zero => intro _; exact ⟨Int.le_refl 0, by rw [show ((0 : Nat) : Int) = 0 from rfl, sm_0, Int.mul_zero]; exact Int.le_refl 0⟩
  | succ n ih =>
    intro h
    have h1 := ih (by omega)
    have h2 := hz n (by omega) (by omega)
    rw [show ((n + 1 : Nat) : Int) = (n : Int) + 1 by omega, sm_s z (by omega), Int.mul_add, Int.mul_one]
    omega
theorem sm_b {z : Int → Int} {k p : Int} (hz : ∀ j, 0 ≤ j → j < k → 0 ≤ z j ∧ z j ≤ 4) (h : 0 ≤ p ∧ p ≤ k) : 0 ≤ sm z p ∧ sm z p ≤ 4 * p := by
  have h1 := sm_rg (by omega) hz p.toNat (by omega)
  rw [show ((p.toNat : Nat) : Int) = p by omega] at h1
  exact h1
def del {α : Type} (z : Int → α) (p : Int) : Int → α := fun j => if j < p then z j else z (j + 1)
def ins {α : Type} (z : Int → α) (p : Int) (v : α) : Int → α := fun j => if j < p then z j else if j = p then v else z (j - 1)
def mvz (z : Int → Int) (a b : Int) : Int → Int := uI (uI z a (z a - 1)) b (uI z a (z a - 1) b + 1)
def bjA (z : Int → Int) (k p : Int) : Int := if p + 1 < k ∧ 3 ≤ z (p + 1) then p + 1 else if 0 < p ∧ 3 ≤ z (p - 1) then p - 1 else p
def bjB (z : Int → Int) (k p : Int) : Int := if p + 1 < k ∧ 3 ≤ z (p + 1) then p else if 0 < p ∧ 3 ≤ z (p - 1) then p else if p + 1 < k then p + 1 else p - 1
def mvK (z : Int → Int) (k a b : Int) : Int := if mvz z a b a = 0 then k - 1 else k
def mvZ (z : Int → Int) (a b : Int) : Int → Int := if mvz z a b a = 0 then del (mvz z a b) a else mvz z a b
def tk1 (z : Int → Int) (p : Int) : Int → Int := uI z p (z p - 1)
def tkK (z : Int → Int) (k p : Int) : Int := if tk1 z p p = 0 then k - 1 else if tk1 z p p = 1 ∧ 1 < k then mvK (tk1 z p) k (bjA (tk1 z p) k p) (bjB (tk1 z p) k p) else k
def tkZ (z : Int → Int) (k p : Int) : Int → Int := if tk1 z p p = 0 then del (tk1 z p) p else if tk1 z p p = 1 ∧ 1 < k then mvZ (tk1 z p) (bjA (tk1 z p) k p) (bjB (tk1 z p) k p) else tk1 z p
theorem tk1_p (z : Int → Int) (p : Int) : tk1 z p p = z p - 1 := uI_s _ _ _

theorem i_X2_has_X2 : ∀ w ∈ wsX20, w ∈ wsX2_has := by decide +kernel
theorem q_X2_has_15 : XF wsX2_has RX2 15 2 1 := ⟨RX2, TX2, 2, i_X2_has_X2, rfl, by decide, by decide +kernel⟩
theorem q_X2_has_9 : XF wsX2_has RX2 9 2 0 := ⟨RX2, TX2, 2, i_X2_has_X2, rfl, by decide, by decide +kernel⟩
set_option maxHeartbeats 4000000 in
set_option maxRecDepth 100000 in
theorem c_X2_has (l : Launch) (D : va_G) (cs : ClassId × ClassId × ClassId) (L : List Nat) (f0 : Nat → va_E) (pr sz : Nat) (k : Int) (z : Int → Int) (pg : Int) (hR : RR cs L f0 pr sz k z) (hk : 0 ≤ k ∧ k ≤ 80) (hp0 : -2147483648 ≤ pg ∧ pg < 2147483648) : C0 l yX2_has wsX2_has ({ frames := 0, cells := 0, slots := 0, locals := 0 } : Room) D cs [.ref pr, .int (iI (pg))] L f0 (fun v L1 f1 => L = L1 ∧ f0 = f1 ∧ ((v = some (.int (iI 1)) ∧ 0 ≤ pg ∧ pg < k) ∨ (v = some (.int (iI 0)) ∧ ¬ (0 ≤ pg ∧ pg < k)))) := by
  refine C0.of (cc := cX2_has) (maxL := 2) (ret := (some .boolean)) (by decide) rfl (by decide) ?_
  intro p e s m below meth c X hr hlk hin A hA w ls hl
  have hl : lv_has ls 2 [(0, .ref pr), (1, .int (iI (pg)))] := hl
  refine x_il_n X hl 1 rfl rfl dX2_has_0 ?_
  refine x_if_lt (tgt := 25) X (by omega) (by decide) dX2_has_1 (fun h1 => ?_) (fun h1 => ?_)
  · refine x_iconst X dX2_has_25 ?_
    refine x_zret X w hr hlk ⟨by decide, by decide⟩ (by omega) dX2_has_26 ?_
    exact ⟨rfl, rfl, Or.inr ⟨rfl, by omega⟩⟩
  · refine x_il_n X hl 1 rfl rfl dX2_has_4 ?_
    refine x_al_n X hl 0 rfl rfl dX2_has_5 ?_
    refine x_get X w hR.mp hR.fp q_X2_has_15 rfl dX2_has_6 ?_
    refine x_icmp_ge (tgt := 25) X (by omega) (by decide) dX2_has_9 (fun h2 => ?_) (fun h2 => ?_)
    · refine x_iconst X dX2_has_25 ?_
      refine x_zret X w hr hlk ⟨by decide, by decide⟩ (by omega) dX2_has_26 ?_
      exact ⟨rfl, rfl, Or.inr ⟨rfl, by omega⟩⟩
    · refine x_il_n X hl 1 rfl rfl dX2_has_12 ?_
      refine x_al_n X hl 0 rfl rfl dX2_has_13 ?_
      refine x_get X w hR.mp hR.fp q_X2_has_9 rfl dX2_has_14 ?_
      refine x_alenI X w hR.ms hR.fs dX2_has_17 ?_
      refine x_icmp_ge (tgt := 25) X (by omega) (by decide) dX2_has_18 (fun h3 => ?_) (fun h3 => ?_)
      · refine x_iconst X dX2_has_25 ?_
        refine x_zret X w hr hlk ⟨by decide, by decide⟩ (by omega) dX2_has_26 ?_
        exact ⟨rfl, rfl, Or.inr ⟨rfl, by omega⟩⟩
      · refine x_iconst X dX2_has_21 ?_
        refine x_goto (tgt := 26) X (by decide) dX2_has_22 ?_
        refine x_zret X w hr hlk ⟨by decide, by decide⟩ (by omega) dX2_has_26 ?_
        exact ⟨rfl, rfl, Or.inl ⟨rfl, by omega, by omega⟩⟩

theorem i_X2_count_X2 : ∀ w ∈ wsX20, w ∈ wsX2_count := by decide +kernel
theorem q_X2_count_15 : XF wsX2_count RX2 15 2 1 := ⟨RX2, TX2, 2, i_X2_count_X2, rfl, by decide, by decide +kernel⟩
set_option maxHeartbeats 4000000 in
set_option maxRecDepth 100000 in
theorem c_X2_count (l : Launch) (D : va_G) (cs : ClassId × ClassId × ClassId) (L : List Nat) (f0 : Nat → va_E) (pr sz : Nat) (k : Int) (z : Int → Int) (hR : RR cs L f0 pr sz k z) : C0 l yX2_count wsX2_count ({ frames := 0, cells := 0, slots := 0, locals := 0 } : Room) D cs [.ref pr] L f0 (fun v L1 f1 => L = L1 ∧ f0 = f1 ∧ v = some (.int (iI k))) := by
  refine C0.of (cc := cX2_count) (maxL := 1) (ret := (some .int)) (by decide) rfl (by decide) ?_
  intro p e s m below meth c X hr hlk hin A hA w ls hl
  have hl : lv_has ls 1 [(0, .ref pr)] := hl
  refine x_al_n X hl 0 rfl rfl dX2_count_0 ?_
  refine x_get X w hR.mp hR.fp q_X2_count_15 rfl dX2_count_1 ?_
  refine x_iret X w hr hlk ⟨by decide, by decide⟩ dX2_count_4 ?_
  exact ⟨rfl, rfl, rfl⟩

theorem k_X2_sizeOf_X2_has : XV wsX2_sizeOf RX2 19 RX2 yX2_has cX2_has 2 (some .boolean) wsX2_has 1 := ⟨gX2_sizeOf_X2_has, ⟨_, rfl⟩, rfl, by decide, by decide, by decide +kernel⟩
theorem i_X2_sizeOf_X2 : ∀ w ∈ wsX20, w ∈ wsX2_sizeOf := by decide +kernel
theorem q_X2_sizeOf_9 : XF wsX2_sizeOf RX2 9 2 0 := ⟨RX2, TX2, 2, i_X2_sizeOf_X2, rfl, by decide, by decide +kernel⟩
set_option maxHeartbeats 4000000 in
set_option maxRecDepth 100000 in
theorem c_X2_sizeOf (l : Launch) (D : va_G) (cs : ClassId × ClassId × ClassId) (L : List Nat) (f0 : Nat → va_E) (pr sz : Nat) (k : Int) (z : Int → Int) (pg : Int) (hR : RR cs L f0 pr sz k z) (hk : 0 ≤ k ∧ k ≤ 80) (hp0 : -2147483648 ≤ pg ∧ pg < 2147483648) : C0 l yX2_sizeOf wsX2_sizeOf ({ frames := 1, cells := 0, slots := 0, locals := 21 } : Room) D cs [.ref pr, .int (iI (pg))] L f0 (fun v L1 f1 => L = L1 ∧ f0 = f1 ∧ ((v = some (.int (iI (z pg))) ∧ 0 ≤ pg ∧ pg < k) ∨ (v = some (.int (iI 0)) ∧ ¬ (0 ≤ pg ∧ pg < k)))) := by
  refine C0.of (cc := cX2_sizeOf) (maxL := 2) (ret := (some .int)) (by decide) rfl (by decide) ?_
  intro p e s m below meth c X hr hlk hin A hA w ls hl
  have hl : lv_has ls 2 [(0, .ref pr), (1, .int (iI (pg)))] := hl
  refine x_al_n X hl 0 rfl rfl dX2_sizeOf_0 ?_
  refine x_il_n X hl 1 rfl rfl dX2_sizeOf_1 ?_
  refine x_callV (As := [.int (iI (pg))]) (rest := []) (c1 := 0) (s1 := 0) X w hA (c_X2_has l D cs L f0 pr sz k z pg hR (by omega) (by omega)) k_X2_sizeOf_X2_has (by decide) hR.mp hR.fp rfl rfl rfl hl rfl (by decide) (by decide) rfl rfl dX2_sizeOf_2 (fun v L1 f1 H locs w hp => ?_)
  obtain ⟨rfl, rfl, hp⟩ := hp
  rcases hp with ⟨rfl, h2, h3⟩ | ⟨rfl, h4⟩
  · show W p l e _ s m _ below meth c _ _ _ _ _ (F0 m 5 ls [.int (iI 1)])
    refine x_ifF_eq (tgt := 17) X (by decide) (by decide) (by decide) dX2_sizeOf_5 ?_
    refine x_al_n X hl 0 rfl rfl dX2_sizeOf_8 ?_
    refine x_get X w hR.mp hR.fp q_X2_sizeOf_9 rfl dX2_sizeOf_9 ?_
    refine x_il_n X hl 1 rfl rfl dX2_sizeOf_12 ?_
    refine x_iald X w hR.ms hR.fs (by omega) dX2_sizeOf_13 ?_
    refine x_goto (tgt := 18) X (by decide) dX2_sizeOf_14 ?_
    refine x_iret X w hr hlk ⟨by decide, by decide⟩ dX2_sizeOf_18 ?_
    exact ⟨rfl, rfl, Or.inl ⟨rfl, by omega, by omega⟩⟩
  · show W p l e _ s m _ below meth c _ _ _ _ _ (F0 m 5 ls [.int (iI 0)])
    refine x_ifT_eq (tgt := 17) X (by decide) (by decide) (by decide) dX2_sizeOf_5 ?_
    refine x_iconst X dX2_sizeOf_17 ?_
    refine x_iret X w hr hlk ⟨by decide, by decide⟩ dX2_sizeOf_18 ?_
    exact ⟨rfl, rfl, Or.inr ⟨rfl, by omega⟩⟩

theorem i_X2_beginOf_X2 : ∀ w ∈ wsX20, w ∈ wsX2_beginOf := by decide +kernel
theorem q_X2_beginOf_15 : XF wsX2_beginOf RX2 15 2 1 := ⟨RX2, TX2, 2, i_X2_beginOf_X2, rfl, by decide, by decide +kernel⟩
theorem k_X2_beginOf_X2_sizeOf : XV wsX2_beginOf RX2 23 RX2 yX2_sizeOf cX2_sizeOf 2 (some .int) wsX2_sizeOf 1 := ⟨gX2_beginOf_X2_sizeOf, ⟨_, rfl⟩, rfl, by decide, by decide, by decide +kernel⟩
set_option maxHeartbeats 4000000 in
set_option maxRecDepth 100000 in
theorem c_X2_beginOf (l : Launch) (D : va_G) (cs : ClassId × ClassId × ClassId) (L : List Nat) (f0 : Nat → va_E) (pr sz : Nat) (k : Int) (z : Int → Int) (pg : Int) (hR : RR cs L f0 pr sz k z) (hk : 0 ≤ k ∧ k ≤ 80) (hp0 : 0 ≤ pg ∧ pg ≤ k) : C0 l yX2_beginOf wsX2_beginOf ({ frames := 2, cells := 0, slots := 0, locals := 42 } : Room) D cs [.ref pr, .int (iI (pg))] L f0 (fun v L1 f1 => L = L1 ∧ f0 = f1 ∧ v = some (.int (iI (sm z pg)))) := by
  refine C0.of (cc := cX2_beginOf) (maxL := 4) (ret := (some .int)) (by decide) rfl (by decide) ?_
  intro p e s m below meth c X hr hlk hin A hA w ls hl
  have hl : lv_has ls 4 [(0, .ref pr), (1, .int (iI (pg)))] := hl
  refine x_iconst X dX2_beginOf_0 ?_
  refine x_is_n (lv' := [(2, .int (iI 0)), (0, .ref pr), (1, .int (iI (pg)))]) X hl rfl (by decide) rfl dX2_beginOf_1 (fun ls hl => ?_)
  refine x_iconst X dX2_beginOf_2 ?_
  refine x_is_n (lv' := [(3, .int (iI 0)), (2, .int (iI 0)), (0, .ref pr), (1, .int (iI (pg)))]) X hl rfl (by decide) rfl dX2_beginOf_3 (fun ls hl => ?_)
  have loop4 : ∀ (N9 : Nat) (i : Int) (H : Heap) (locs : List Loc) (ls : Array Slot), (pg - i).toNat < N9 → (0 ≤ i ∧ i ≤ pg) → XW D A s.heap L f0 H locs → lv_has ls 4 [(0, .ref pr), (1, .int (iI (pg))), (2, .int (iI (sm z i))), (3, .int (iI (i)))] → W p l e ({ frames := 2, cells := 0, slots := 0, locals := 42 } : Room) s m ([.ref pr, .int (iI (pg))] : List Value).toArray below meth c H locs 0 0 (MQ below (CQ D cs A (fun v L1 f1 => L = L1 ∧ f0 = f1 ∧ v = some (.int (iI (sm z pg))))) ([.ref pr, .int (iI (pg))] : List Value).toArray s 0 0 A) (F0 m 4 ls []) := by
    intro N9
    induction N9 with
    | zero => intro i H locs ls h9; exact absurd h9 (Nat.not_lt_zero _)
    | succ N9 ih4 =>
      intro i H locs ls h9 hi w hl
      refine x_il_n X hl 3 rfl rfl dX2_beginOf_4 ?_
      refine x_il_n X hl 1 rfl rfl dX2_beginOf_5 ?_
      refine x_icmp_ge (tgt := 31) X (by omega) (by decide) dX2_beginOf_6 (fun h1 => ?_) (fun h1 => ?_)
      · refine x_il_n X hl 2 rfl rfl dX2_beginOf_31 ?_
        refine x_iret X w hr hlk ⟨by decide, by decide⟩ dX2_beginOf_32 ?_
        have e9 : i = pg := by omega
        subst e9
        exact ⟨rfl, rfl, rfl⟩
      · refine x_il_n X hl 3 rfl rfl dX2_beginOf_9 ?_
        refine x_al_n X hl 0 rfl rfl dX2_beginOf_10 ?_
        refine x_get X w hR.mp hR.fp q_X2_beginOf_15 rfl dX2_beginOf_11 ?_
        refine x_icmp_ge (tgt := 31) X (by omega) (by decide) dX2_beginOf_14 (fun h2 => ?_) (fun h2 => ?_)
        · refine x_il_n X hl 2 rfl rfl dX2_beginOf_31 ?_
          refine x_iret X w hr hlk ⟨by decide, by decide⟩ dX2_beginOf_32 ?_
          have e9 : i = pg := by omega
          subst e9
          exact ⟨rfl, rfl, rfl⟩
        · refine x_il_n X hl 2 rfl rfl dX2_beginOf_17 ?_
          refine x_al_n X hl 0 rfl rfl dX2_beginOf_18 ?_
          refine x_il_n X hl 3 rfl rfl dX2_beginOf_19 ?_
          refine x_callV (As := [.int (iI (i))]) (rest := [.int (iI (sm z i))]) (c1 := 0) (s1 := 0) X w hA (c_X2_sizeOf l D cs L f0 pr sz k z i hR (by omega) (by omega)) k_X2_beginOf_X2_sizeOf (by decide) hR.mp hR.fp rfl rfl rfl hl rfl (by decide) (by decide) rfl rfl dX2_beginOf_20 (fun v L1 f1 H locs w hp => ?_)
          obtain ⟨rfl, rfl, hp⟩ := hp
          rcases hp with ⟨rfl, h4, h5⟩ | ⟨rfl, h6⟩
          · show W p l e _ s m _ below meth c _ _ _ _ _ (F0 m 23 ls [.int (iI (z i)), .int (iI (sm z i))])
            refine x_iadd X dX2_beginOf_23 ?_
            refine x_is_n (lv' := [(2, .int (iI ((sm z i) + (z i)))), (0, .ref pr), (1, .int (iI (pg))), (3, .int (iI (i)))]) X hl rfl (by decide) rfl dX2_beginOf_24 (fun ls hl => ?_)
            refine x_iinc (lv' := [(3, .int (iI (i + 1))), (2, .int (iI ((sm z i) + (z i)))), (0, .ref pr), (1, .int (iI (pg)))]) X hl 3 rfl (by decide) rfl dX2_beginOf_25 (fun ls hl => ?_)
            refine x_goto (tgt := 4) X (by decide) dX2_beginOf_28 ?_
            refine ih4 (i + 1) _ _ _ (by omega) (by omega) w (lv_sub hl [2, 3, 1, 0] rfl)
          · exfalso; omega
  refine loop4 _ 0 _ _ _ (Nat.lt_succ_self _) (by omega) w (lv_sub hl [2, 3, 1, 0] rfl)

theorem i_X2_pageWith_X2 : ∀ w ∈ wsX20, w ∈ wsX2_pageWith := by decide +kernel
theorem q_X2_pageWith_15 : XF wsX2_pageWith RX2 15 2 1 := ⟨RX2, TX2, 2, i_X2_pageWith_X2, rfl, by decide, by decide +kernel⟩
theorem k_X2_pageWith_X2_sizeOf : XV wsX2_pageWith RX2 23 RX2 yX2_sizeOf cX2_sizeOf 2 (some .int) wsX2_sizeOf 1 := ⟨gX2_pageWith_X2_sizeOf, ⟨_, rfl⟩, rfl, by decide, by decide, by decide +kernel⟩
set_option maxHeartbeats 4000000 in
set_option maxRecDepth 100000 in
theorem c_X2_pageWith (l : Launch) (D : va_G) (cs : ClassId × ClassId × ClassId) (L : List Nat) (f0 : Nat → va_E) (pr sz : Nat) (k : Int) (z : Int → Int) (pg : Int) (hR : RR cs L f0 pr sz k z) (hk : 0 ≤ k ∧ k ≤ 80) (hp0 : -2147483648 ≤ pg ∧ pg < 2147483648) (hz : ∀ j, 0 ≤ j → j < k → 0 ≤ z j ∧ z j ≤ 4) : C0 l yX2_pageWith wsX2_pageWith ({ frames := 2, cells := 0, slots := 0, locals := 42 } : Room) D cs [.ref pr, .int (iI (pg))] L f0 (fun v L1 f1 => L = L1 ∧ f0 = f1 ∧ ∃ q : Int, v = some (.int (iI q)) ∧ ((0 ≤ q ∧ q < k ∧ (0 ≤ pg ∧ pg < sm z (q + 1)) ∧ ∀ j, 0 ≤ j → j < q → sm z (j + 1) ≤ pg) ∨ (q = -1 ∧ (pg < 0 ∨ ∀ j, 0 ≤ j → j < k → sm z (j + 1) ≤ pg)))) := by
  refine C0.of (cc := cX2_pageWith) (maxL := 4) (ret := (some .int)) (by decide) rfl (by decide) ?_
  intro p e s m below meth c X hr hlk hin A hA w ls hl
  have hl : lv_has ls 4 [(0, .ref pr), (1, .int (iI (pg)))] := hl
  refine x_iconst X dX2_pageWith_0 ?_
  refine x_is_n (lv' := [(2, .int (iI 0)), (0, .ref pr), (1, .int (iI (pg)))]) X hl rfl (by decide) rfl dX2_pageWith_1 (fun ls hl => ?_)
  refine x_iconst X dX2_pageWith_2 ?_
  refine x_is_n (lv' := [(3, .int (iI 0)), (2, .int (iI 0)), (0, .ref pr), (1, .int (iI (pg)))]) X hl rfl (by decide) rfl dX2_pageWith_3 (fun ls hl => ?_)
  have loop4 : ∀ (N9 : Nat) (i : Int) (H : Heap) (locs : List Loc) (ls : Array Slot), (k - i).toNat < N9 → (0 ≤ i ∧ i ≤ k) → (0 ≤ pg → ∀ j, 0 ≤ j → j < i → sm z (j + 1) ≤ pg) → XW D A s.heap L f0 H locs → lv_has ls 4 [(0, .ref pr), (1, .int (iI (pg))), (2, .int (iI (sm z i))), (3, .int (iI (i)))] → W p l e ({ frames := 2, cells := 0, slots := 0, locals := 42 } : Room) s m ([.ref pr, .int (iI (pg))] : List Value).toArray below meth c H locs 0 0 (MQ below (CQ D cs A (fun v L1 f1 => L = L1 ∧ f0 = f1 ∧ ∃ q : Int, v = some (.int (iI q)) ∧ ((0 ≤ q ∧ q < k ∧ (0 ≤ pg ∧ pg < sm z (q + 1)) ∧ ∀ j, 0 ≤ j → j < q → sm z (j + 1) ≤ pg) ∨ (q = -1 ∧ (pg < 0 ∨ ∀ j, 0 ≤ j → j < k → sm z (j + 1) ≤ pg))))) ([.ref pr, .int (iI (pg))] : List Value).toArray s 0 0 A) (F0 m 4 ls []) := by
    intro N9
    induction N9 with
    | zero => intro i H locs ls h9; exact absurd h9 (Nat.not_lt_zero _)
    | succ N9 ih4 =>
      intro i H locs ls h9 hi hj w hl
      refine x_il_n X hl 3 rfl rfl dX2_pageWith_4 ?_
      refine x_al_n X hl 0 rfl rfl dX2_pageWith_5 ?_
      refine x_get X w hR.mp hR.fp q_X2_pageWith_15 rfl dX2_pageWith_6 ?_
      refine x_icmp_ge (tgt := 37) X (by omega) (by decide) dX2_pageWith_9 (fun h1 => ?_) (fun h1 => ?_)
      · refine x_iconst X dX2_pageWith_37 ?_
        refine x_iret X w hr hlk ⟨by decide, by decide⟩ dX2_pageWith_38 ?_
        exact ⟨rfl, rfl, -1, rfl, Or.inr ⟨rfl, by by_cases h9 : pg < 0; exact Or.inl h9; exact Or.inr fun j h1 h2 => hj (by omega) j h1 (by omega)⟩⟩
      · refine x_il_n X hl 2 rfl rfl dX2_pageWith_12 ?_
        refine x_al_n X hl 0 rfl rfl dX2_pageWith_13 ?_
        refine x_il_n X hl 3 rfl rfl dX2_pageWith_14 ?_
        refine x_callV (As := [.int (iI (i))]) (rest := [.int (iI (sm z i))]) (c1 := 0) (s1 := 0) X w hA (c_X2_sizeOf l D cs L f0 pr sz k z i hR (by omega) (by omega)) k_X2_pageWith_X2_sizeOf (by decide) hR.mp hR.fp rfl rfl rfl hl rfl (by decide) (by decide) rfl rfl dX2_pageWith_15 (fun v L1 f1 H locs w hp => ?_)
        obtain ⟨rfl, rfl, hp⟩ := hp
        rcases hp with ⟨rfl, h3, h4⟩ | ⟨rfl, h5⟩
        · show W p l e _ s m _ below meth c _ _ _ _ _ (F0 m 18 ls [.int (iI (z i)), .int (iI (sm z i))])
          refine x_iadd X dX2_pageWith_18 ?_
          refine x_is_n (lv' := [(2, .int (iI ((sm z i) + (z i)))), (0, .ref pr), (1, .int (iI (pg))), (3, .int (iI (i)))]) X hl rfl (by decide) rfl dX2_pageWith_19 (fun ls hl => ?_)
          have hb9 := sm_b hz (p := i + 1) (by omega)
          refine x_il_n X hl 2 rfl rfl dX2_pageWith_20 ?_
          refine x_if_lt (tgt := 31) X (by omega) (by decide) dX2_pageWith_21 (fun h6 => ?_) (fun h6 => ?_)
          · refine x_iinc (lv' := [(3, .int (iI (i + 1))), (2, .int (iI ((sm z i) + (z i)))), (0, .ref pr), (1, .int (iI (pg)))]) X hl 3 rfl (by decide) rfl dX2_pageWith_31 (fun ls hl => ?_)
            refine x_goto (tgt := 4) X (by decide) dX2_pageWith_34 ?_
            refine ih4 (i + 1) _ _ _ (by omega) (by omega) ?_ w (lv_sub hl [2, 3, 1, 0] rfl)
            · intro h8 j h1 h2
              by_cases h3 : j = i
              · subst h3; omega
              · exact hj h8 j h1 (by omega)
          · refine x_il_n X hl 2 rfl rfl dX2_pageWith_24 ?_
            refine x_il_n X hl 0 rfl rfl dX2_pageWith_25 ?_
            refine x_icmp_ge (tgt := 31) X (by omega) (by decide) dX2_pageWith_26 (fun h7 => ?_) (fun h7 => ?_)
            · refine x_iinc (lv' := [(3, .int (iI (i + 1))), (2, .int (iI ((sm z i) + (z i)))), (0, .ref pr), (1, .int (iI (pg)))]) X hl 3 rfl (by decide) rfl dX2_pageWith_31 (fun ls hl => ?_)
              refine x_goto (tgt := 4) X (by decide) dX2_pageWith_34 ?_
              refine ih4 (i + 1) _ _ _ (by omega) (by omega) ?_ w (lv_sub hl [2, 3, 1, 0] rfl)
              · intro h8 j h1 h2
                by_cases h3 : j = i
                · subst h3; omega
                · exact hj h8 j h1 (by omega)
            · refine x_il_n X hl 3 rfl rfl dX2_pageWith_29 ?_
              refine x_iret X w hr hlk ⟨by decide, by decide⟩ dX2_pageWith_30 ?_
              exact ⟨rfl, rfl, i, rfl, Or.inl ⟨by omega, by omega, by omega, hj (by omega)⟩⟩
        · exfalso; omega
  refine loop4 _ 0 _ _ _ (Nat.lt_succ_self _) (by omega) (fun _ j h1 h2 => absurd h2 (by omega)) w (lv_sub hl [2, 3, 1, 0] rfl)

theorem i_X2_addTo_X2 : ∀ w ∈ wsX20, w ∈ wsX2_addTo := by decide +kernel
theorem q_X2_addTo_15 : XF wsX2_addTo RX2 15 2 1 := ⟨RX2, TX2, 2, i_X2_addTo_X2, rfl, by decide, by decide +kernel⟩
theorem k_X2_addTo_X2_has : XV wsX2_addTo RX2 19 RX2 yX2_has cX2_has 2 (some .boolean) wsX2_has 1 := ⟨gX2_addTo_X2_has, ⟨_, rfl⟩, rfl, by decide, by decide, by decide +kernel⟩
theorem q_X2_addTo_9 : XF wsX2_addTo RX2 9 2 0 := ⟨RX2, TX2, 2, i_X2_addTo_X2, rfl, by decide, by decide +kernel⟩
theorem gp_X2_addTo_15 : XGn wsX2_addTo RX2 15 2 1 (tyX2 1) := ⟨RX2, TX2, 2, tyX2, i_X2_addTo_X2, rfl, by decide, by decide +kernel, tyX2_ok, nmX2, rfl, by decide +kernel⟩
set_option maxHeartbeats 4000000 in
set_option maxRecDepth 100000 in
theorem c_X2_addTo (l : Launch) (D : va_G) (cs : ClassId × ClassId × ClassId) (L : List Nat) (f0 : Nat → va_E) (pr sz : Nat) (k : Int) (z : Int → Int) (pg : Int) (hR : RR cs L f0 pr sz k z) (hk : 0 ≤ k ∧ k ≤ 80) (hp0 : -2147483648 ≤ pg ∧ pg < 2147483648) (hin : k = 0 ∨ (0 ≤ pg ∧ pg < k)) : C0 l yX2_addTo wsX2_addTo ({ frames := 1, cells := 0, slots := 0, locals := 21 } : Room) D cs [.ref pr, .int (iI (pg))] L f0 (fun v L1 f1 => L = L1 ∧ FR f0 f1 pr sz ∧ ∃ k1 z1, RR cs L f1 pr sz k1 z1 ∧ ((k = 0 ∧ k1 = 1 ∧ z1 0 = 1) ∨ (0 < k ∧ k1 = k ∧ z1 = uI z pg (z pg + 1)))) := by
  refine C0.of (cc := cX2_addTo) (maxL := 2) (ret := none) (by decide) rfl (by decide) ?_
  intro p e s m below meth c X hr hlk hin A hA w ls hl
  have hl : lv_has ls 2 [(0, .ref pr), (1, .int (iI (pg)))] := hl
  have fr : FR f0 f0 pr sz := FR.rf _ _ _
  refine x_al_n X hl 0 rfl rfl dX2_addTo_0 ?_
  refine x_get X w hR.mp hR.fp q_X2_addTo_15 rfl dX2_addTo_1 ?_
  refine x_if_ne (tgt := 22) X (by omega) (by decide) dX2_addTo_4 (fun h1 => ?_) (fun h1 => ?_)
  · refine x_al_n X hl 0 rfl rfl dX2_addTo_22 ?_
    refine x_il_n X hl 1 rfl rfl dX2_addTo_23 ?_
    refine x_callV (As := [.int (iI (pg))]) (rest := []) (c1 := 0) (s1 := 0) X w hA (c_X2_has l D cs L f0 pr sz k z pg hR (by omega) (by omega)) k_X2_addTo_X2_has (by decide) hR.mp hR.fp rfl rfl rfl hl rfl (by decide) (by decide) rfl rfl dX2_addTo_24 (fun v L1 f1 H locs w hp => ?_)
    obtain ⟨rfl, rfl, hp⟩ := hp
    rcases hp with ⟨rfl, h3, h4⟩ | ⟨rfl, h5⟩
    · show W p l e _ s m _ below meth c _ _ _ _ _ (F0 m 27 ls [.int (iI 1)])
      refine x_ifF_eq (tgt := 40) X (by decide) (by decide) (by decide) dX2_addTo_27 ?_
      refine x_al_n X hl 0 rfl rfl dX2_addTo_30 ?_
      refine x_get X w hR.mp hR.fp q_X2_addTo_9 rfl dX2_addTo_31 ?_
      refine x_il_n X hl 1 rfl rfl dX2_addTo_34 ?_
      refine x_dup2 X rfl rfl dX2_addTo_35 ?_
      refine x_iald X w hR.ms hR.fs (by omega) dX2_addTo_36 ?_
      refine x_iconst X dX2_addTo_37 ?_
      refine x_iadd X dX2_addTo_38 ?_
      refine x_iast X w hR.ms hR.fs (by omega) dX2_addTo_39 (fun H locs w => ?_)
      obtain ⟨f6, z7, w, hR, fr, e8⟩ : ∃ f9 z9, XW D A s.heap L f9 H locs ∧ RR cs L f9 pr sz (k) z9 ∧ FR f0 f9 pr sz ∧ z9 = uI z pg ((z pg) + 1) := ⟨_, _, w, hR.row _, fr.up2, rfl⟩
      refine x_vret X w hr hlk ⟨by decide, by decide⟩ dX2_addTo_40 ?_
      exact ⟨rfl, fr, k, z7, hR, Or.inr ⟨by omega, rfl, e8⟩⟩
    · show W p l e _ s m _ below meth c _ _ _ _ _ (F0 m 27 ls [.int (iI 0)])
      refine x_ifT_eq (tgt := 40) X (by decide) (by decide) (by decide) dX2_addTo_27 ?_
      refine x_vret X w hr hlk ⟨by decide, by decide⟩ dX2_addTo_40 ?_
      exfalso; omega
  · refine x_al_n X hl 0 rfl rfl dX2_addTo_7 ?_
    refine x_get X w hR.mp hR.fp q_X2_addTo_9 rfl dX2_addTo_8 ?_
    refine x_iconst X dX2_addTo_11 ?_
    refine x_iconst X dX2_addTo_12 ?_
    refine x_iast X w hR.ms hR.fs (by omega) dX2_addTo_13 (fun H locs w => ?_)
    obtain ⟨f9, z10, w, hR, fr, e11⟩ : ∃ f9 z9, XW D A s.heap L f9 H locs ∧ RR cs L f9 pr sz (k) z9 ∧ FR f0 f9 pr sz ∧ z9 = uI z 0 1 := ⟨_, _, w, hR.row _, fr.up2, rfl⟩
    refine x_al_n X hl 0 rfl rfl dX2_addTo_14 ?_
    refine x_iconst X dX2_addTo_15 ?_
    refine x_put X w hR.mp hR.fp gp_X2_addTo_15 rfl rfl (by decide) rfl dX2_addTo_16 (fun H locs w => ?_)
    obtain ⟨f12, w, hR, fr⟩ : ∃ f9, XW D A s.heap L f9 H locs ∧ RR cs L f9 pr sz (1) z10 ∧ FR f0 f9 pr sz := ⟨_, w, hR.cnt _, fr.up1⟩
    refine x_goto (tgt := 40) X (by decide) dX2_addTo_19 ?_
    refine x_vret X w hr hlk ⟨by decide, by decide⟩ dX2_addTo_40 ?_
    exact ⟨rfl, fr, 1, z10, hR, Or.inl ⟨by omega, rfl, by subst e11; exact uI_s _ _ _⟩⟩

theorem k_X2_split_X2_has : XV wsX2_split RX2 19 RX2 yX2_has cX2_has 2 (some .boolean) wsX2_has 1 := ⟨gX2_split_X2_has, ⟨_, rfl⟩, rfl, by decide, by decide, by decide +kernel⟩
theorem i_X2_split_X2 : ∀ w ∈ wsX20, w ∈ wsX2_split := by decide +kernel
theorem q_X2_split_15 : XF wsX2_split RX2 15 2 1 := ⟨RX2, TX2, 2, i_X2_split_X2, rfl, by decide, by decide +kernel⟩
theorem q_X2_split_9 : XF wsX2_split RX2 9 2 0 := ⟨RX2, TX2, 2, i_X2_split_X2, rfl, by decide, by decide +kernel⟩
theorem gp_X2_split_15 : XGn wsX2_split RX2 15 2 1 (tyX2 1) := ⟨RX2, TX2, 2, tyX2, i_X2_split_X2, rfl, by decide, by decide +kernel, tyX2_ok, nmX2, rfl, by decide +kernel⟩
set_option maxHeartbeats 4000000 in
set_option maxRecDepth 100000 in
theorem c_X2_split (l : Launch) (D : va_G) (cs : ClassId × ClassId × ClassId) (L : List Nat) (f0 : Nat → va_E) (pr sz : Nat) (k : Int) (z : Int → Int) (pg : Int) (hR : RR cs L f0 pr sz k z) (hk : 0 ≤ k ∧ k < 80) (hp0 : 0 ≤ pg ∧ pg < k) : C0 l yX2_split wsX2_split ({ frames := 1, cells := 0, slots := 0, locals := 21 } : Room) D cs [.ref pr, .int (iI (pg))] L f0 (fun v L1 f1 => L = L1 ∧ FR f0 f1 pr sz ∧ ∃ z1, RR cs L f1 pr sz (k + 1) z1 ∧ ∀ j, 0 ≤ j → j < k + 1 → z1 j = uI (ins z (pg + 1) 2) pg (z pg - 2) j) := by
  refine C0.of (cc := cX2_split) (maxL := 3) (ret := none) (by decide) rfl (by decide) ?_
  intro p e s m below meth c X hr hlk hin A hA w ls hl
  have hl : lv_has ls 3 [(0, .ref pr), (1, .int (iI (pg)))] := hl
  have fr : FR f0 f0 pr sz := FR.rf _ _ _
  refine x_al_n X hl 0 rfl rfl dX2_split_0 ?_
  refine x_il_n X hl 1 rfl rfl dX2_split_1 ?_
  refine x_callV (As := [.int (iI (pg))]) (rest := []) (c1 := 0) (s1 := 0) X w hA (c_X2_has l D cs L f0 pr sz k z pg hR (by omega) (by omega)) k_X2_split_X2_has (by decide) hR.mp hR.fp rfl rfl rfl hl rfl (by decide) (by decide) rfl rfl dX2_split_2 (fun v L1 f1 H locs w hp => ?_)
  obtain ⟨rfl, rfl, hp⟩ := hp
  rcases hp with ⟨rfl, h2, h3⟩ | ⟨rfl, h4⟩
  · show W p l e _ s m _ below meth c _ _ _ _ _ (F0 m 5 ls [.int (iI 1)])
    refine x_ifF_eq (tgt := 20) X (by decide) (by decide) (by decide) dX2_split_5 ?_
    refine x_al_n X hl 0 rfl rfl dX2_split_8 ?_
    refine x_get X w hR.mp hR.fp q_X2_split_15 rfl dX2_split_9 ?_
    refine x_al_n X hl 0 rfl rfl dX2_split_12 ?_
    refine x_get X w hR.mp hR.fp q_X2_split_9 rfl dX2_split_13 ?_
    refine x_alenI X w hR.ms hR.fs dX2_split_16 ?_
    refine x_icmpT_lt (tgt := 21) X (by omega) (by omega) (by decide) dX2_split_17 ?_
    refine x_al_n X hl 0 rfl rfl dX2_split_21 ?_
    refine x_get X w hR.mp hR.fp q_X2_split_15 rfl dX2_split_22 ?_
    refine x_is_n (lv' := [(2, .int (iI (k))), (0, .ref pr), (1, .int (iI (pg)))]) X hl rfl (by decide) rfl dX2_split_25 (fun ls hl => ?_)
    have loop26 : ∀ (N9 : Nat) (i : Int) (f1 : Nat → va_E) (z1 : Int → Int) (H : Heap) (locs : List Loc) (ls : Array Slot), (i - pg).toNat < N9 → (pg + 1 ≤ i ∧ i ≤ k) → (RR cs L f1 pr sz k z1) → (FR f0 f1 pr sz) → (∀ j, j ≤ i → z1 j = z j) → (∀ j, i < j → j ≤ k → z1 j = z (j - 1)) → XW D A s.heap L f1 H locs → lv_has ls 3 [(0, .ref pr), (1, .int (iI (pg))), (2, .int (iI (i)))] → W p l e ({ frames := 1, cells := 0, slots := 0, locals := 21 } : Room) s m ([.ref pr, .int (iI (pg))] : List Value).toArray below meth c H locs 0 0 (MQ below (CQ D cs A (fun v L1 f1 => L = L1 ∧ FR f0 f1 pr sz ∧ ∃ z1, RR cs L f1 pr sz (k + 1) z1 ∧ ∀ j, 0 ≤ j → j < k + 1 → z1 j = uI (ins z (pg + 1) 2) pg (z pg - 2) j)) ([.ref pr, .int (iI (pg))] : List Value).toArray s 0 0 A) (F0 m 26 ls []) := by
      intro N9
      induction N9 with
      | zero => intro i f1 z1 H locs ls h9; exact absurd h9 (Nat.not_lt_zero _)
      | succ N9 ih26 =>
        intro i f1 z1 H locs ls h9 hi hR fr h1 h2 w hl
        refine x_il_n X hl 2 rfl rfl dX2_split_26 ?_
        refine x_il_n X hl 1 rfl rfl dX2_split_27 ?_
        refine x_iconst X dX2_split_28 ?_
        refine x_iadd X dX2_split_29 ?_
        refine x_icmp_le (tgt := 53) X (by omega) (by decide) dX2_split_30 (fun h5 => ?_) (fun h5 => ?_)
        · refine x_al_n X hl 0 rfl rfl dX2_split_53 ?_
          refine x_get X w hR.mp hR.fp q_X2_split_9 rfl dX2_split_54 ?_
          refine x_il_n X hl 1 rfl rfl dX2_split_57 ?_
          refine x_iconst X dX2_split_58 ?_
          refine x_iadd X dX2_split_59 ?_
          refine x_iconst X dX2_split_60 ?_
          refine x_iast X w hR.ms hR.fs (by omega) dX2_split_61 (fun H locs w => ?_)
          obtain ⟨f6, z7, w, hR, fr, e8⟩ : ∃ f9 z9, XW D A s.heap L f9 H locs ∧ RR cs L f9 pr sz (k) z9 ∧ FR f0 f9 pr sz ∧ z9 = uI z1 (pg + 1) 2 := ⟨_, _, w, hR.row _, fr.up2, rfl⟩
          refine x_al_n X hl 0 rfl rfl dX2_split_62 ?_
          refine x_get X w hR.mp hR.fp q_X2_split_9 rfl dX2_split_63 ?_
          refine x_il_n X hl 1 rfl rfl dX2_split_66 ?_
          refine x_dup2 X rfl rfl dX2_split_67 ?_
          refine x_iald X w hR.ms hR.fs (by omega) dX2_split_68 ?_
          refine x_iconst X dX2_split_69 ?_
          refine x_isub X dX2_split_70 ?_
          refine x_iast X w hR.ms hR.fs (by omega) dX2_split_71 (fun H locs w => ?_)
          obtain ⟨f9, z10, w, hR, fr, e11⟩ : ∃ f9 z9, XW D A s.heap L f9 H locs ∧ RR cs L f9 pr sz (k) z9 ∧ FR f0 f9 pr sz ∧ z9 = uI z7 pg ((z7 pg) - 2) := ⟨_, _, w, hR.row _, fr.up2, rfl⟩
          refine x_al_n X hl 0 rfl rfl dX2_split_72 ?_
          refine x_dup X rfl dX2_split_73 ?_
          refine x_get X w hR.mp hR.fp q_X2_split_15 rfl dX2_split_74 ?_
          refine x_iconst X dX2_split_77 ?_
          refine x_iadd X dX2_split_78 ?_
          refine x_put X w hR.mp hR.fp gp_X2_split_15 rfl rfl (by decide) rfl dX2_split_79 (fun H locs w => ?_)
          obtain ⟨f12, w, hR, fr⟩ : ∃ f9, XW D A s.heap L f9 H locs ∧ RR cs L f9 pr sz (k + 1) z10 ∧ FR f0 f9 pr sz := ⟨_, w, hR.cnt _, fr.up1⟩
          refine x_vret X w hr hlk ⟨by decide, by decide⟩ dX2_split_82 ?_
          refine ⟨rfl, fr, _, hR, fun j h8 h9 => ?_⟩
          subst e11
          subst e8
          have q1 := h1 j; have q2 := h2 j; have q3 := h1 pg (by omega)
          simp only [uI, ins]
          split
          · rename_i q4; rw [if_neg (by omega)]; omega
          · split
            · rename_i q4 q5; rw [if_neg (by omega), if_pos (by omega)]
            · rename_i q4 q5; by_cases q6 : j < pg + 1
              · rw [if_pos q6]; exact q1 (by omega)
              · rw [if_neg q6, if_neg (by omega)]; exact q2 (by omega) (by omega)
        · refine x_al_n X hl 0 rfl rfl dX2_split_33 ?_
          refine x_get X w hR.mp hR.fp q_X2_split_9 rfl dX2_split_34 ?_
          refine x_il_n X hl 2 rfl rfl dX2_split_37 ?_
          refine x_al_n X hl 0 rfl rfl dX2_split_38 ?_
          refine x_get X w hR.mp hR.fp q_X2_split_9 rfl dX2_split_39 ?_
          refine x_il_n X hl 2 rfl rfl dX2_split_42 ?_
          refine x_iconst X dX2_split_43 ?_
          refine x_isub X dX2_split_44 ?_
          refine x_iald X w hR.ms hR.fs (by omega) dX2_split_45 ?_
          refine x_iast X w hR.ms hR.fs (by omega) dX2_split_46 (fun H locs w => ?_)
          obtain ⟨f13, z14, w, hR, fr, e15⟩ : ∃ f9 z9, XW D A s.heap L f9 H locs ∧ RR cs L f9 pr sz (k) z9 ∧ FR f0 f9 pr sz ∧ z9 = uI z1 i (z1 (i - 1)) := ⟨_, _, w, hR.row _, fr.up2, rfl⟩
          refine x_iinc (lv' := [(2, .int (iI (i + (-1)))), (0, .ref pr), (1, .int (iI (pg)))]) X hl 2 rfl (by decide) rfl dX2_split_47 (fun ls hl => ?_)
          refine x_goto (tgt := 26) X (by decide) dX2_split_50 ?_
          refine ih26 (i + (-1)) f13 z14 _ _ _ (by omega) (by omega) hR fr ?_ ?_ w (lv_sub hl [1, 2, 0] rfl)
          · intro j h8
            subst e15
            rw [uI_n _ _ (by omega)]; exact h1 j (by omega)
          · intro j h8 h9
            subst e15
            by_cases h7 : j = i
            · subst h7; rw [uI_s]; exact h1 _ (by omega)
            · rw [uI_n _ _ h7]; exact h2 j (by omega) h9
    refine loop26 _ k f0 z _ _ _ (Nat.lt_succ_self _) (by omega) hR fr (fun _ _ => rfl) (fun j h8 h9 => absurd h9 (by omega)) w (lv_sub hl [1, 2, 0] rfl)
  · show W p l e _ s m _ below meth c _ _ _ _ _ (F0 m 5 ls [.int (iI 0)])
    refine x_ifT_eq (tgt := 20) X (by decide) (by decide) (by decide) dX2_split_5 ?_
    refine x_vret X w hr hlk ⟨by decide, by decide⟩ dX2_split_20 ?_
    exfalso; omega

theorem k_X2_remove_X2_has : XV wsX2_remove RX2 19 RX2 yX2_has cX2_has 2 (some .boolean) wsX2_has 1 := ⟨gX2_remove_X2_has, ⟨_, rfl⟩, rfl, by decide, by decide, by decide +kernel⟩
theorem i_X2_remove_X2 : ∀ w ∈ wsX20, w ∈ wsX2_remove := by decide +kernel
theorem q_X2_remove_15 : XF wsX2_remove RX2 15 2 1 := ⟨RX2, TX2, 2, i_X2_remove_X2, rfl, by decide, by decide +kernel⟩
theorem gp_X2_remove_15 : XGn wsX2_remove RX2 15 2 1 (tyX2 1) := ⟨RX2, TX2, 2, tyX2, i_X2_remove_X2, rfl, by decide, by decide +kernel, tyX2_ok, nmX2, rfl, by decide +kernel⟩
theorem q_X2_remove_9 : XF wsX2_remove RX2 9 2 0 := ⟨RX2, TX2, 2, i_X2_remove_X2, rfl, by decide, by decide +kernel⟩
set_option maxHeartbeats 4000000 in
set_option maxRecDepth 100000 in
theorem c_X2_remove (l : Launch) (D : va_G) (cs : ClassId × ClassId × ClassId) (L : List Nat) (f0 : Nat → va_E) (pr sz : Nat) (k : Int) (z : Int → Int) (pg : Int) (hR : RR cs L f0 pr sz k z) (hk : 0 ≤ k ∧ k ≤ 80) (hp0 : 0 ≤ pg ∧ pg < k) : C0 l yX2_remove wsX2_remove ({ frames := 1, cells := 0, slots := 0, locals := 21 } : Room) D cs [.ref pr, .int (iI (pg))] L f0 (fun v L1 f1 => L = L1 ∧ FR f0 f1 pr sz ∧ ∃ z1, RR cs L f1 pr sz (k - 1) z1 ∧ ∀ j, 0 ≤ j → j < k - 1 → z1 j = del z pg j) := by
  refine C0.of (cc := cX2_remove) (maxL := 3) (ret := none) (by decide) rfl (by decide) ?_
  intro p e s m below meth c X hr hlk hin A hA w ls hl
  have hl : lv_has ls 3 [(0, .ref pr), (1, .int (iI (pg)))] := hl
  have fr : FR f0 f0 pr sz := FR.rf _ _ _
  refine x_al_n X hl 0 rfl rfl dX2_remove_0 ?_
  refine x_il_n X hl 1 rfl rfl dX2_remove_1 ?_
  refine x_callV (As := [.int (iI (pg))]) (rest := []) (c1 := 0) (s1 := 0) X w hA (c_X2_has l D cs L f0 pr sz k z pg hR (by omega) (by omega)) k_X2_remove_X2_has (by decide) hR.mp hR.fp rfl rfl rfl hl rfl (by decide) (by decide) rfl rfl dX2_remove_2 (fun v L1 f1 H locs w hp => ?_)
  obtain ⟨rfl, rfl, hp⟩ := hp
  rcases hp with ⟨rfl, h2, h3⟩ | ⟨rfl, h4⟩
  · show W p l e _ s m _ below meth c _ _ _ _ _ (F0 m 5 ls [.int (iI 1)])
    refine x_ifT_ne (tgt := 9) X (by decide) (by decide) (by decide) dX2_remove_5 ?_
    refine x_al_n X hl 0 rfl rfl dX2_remove_9 ?_
    refine x_dup X rfl dX2_remove_10 ?_
    refine x_get X w hR.mp hR.fp q_X2_remove_15 rfl dX2_remove_11 ?_
    refine x_iconst X dX2_remove_14 ?_
    refine x_isub X dX2_remove_15 ?_
    refine x_put X w hR.mp hR.fp gp_X2_remove_15 rfl rfl (by decide) rfl dX2_remove_16 (fun H locs w => ?_)
    obtain ⟨f5, w, hR, fr⟩ : ∃ f9, XW D A s.heap L f9 H locs ∧ RR cs L f9 pr sz (k - 1) z ∧ FR f0 f9 pr sz := ⟨_, w, hR.cnt _, fr.up1⟩
    refine x_il_n X hl 1 rfl rfl dX2_remove_19 ?_
    refine x_is_n (lv' := [(2, .int (iI (pg))), (0, .ref pr), (1, .int (iI (pg)))]) X hl rfl (by decide) rfl dX2_remove_20 (fun ls hl => ?_)
    have loop21 : ∀ (N9 : Nat) (i : Int) (f1 : Nat → va_E) (z1 : Int → Int) (H : Heap) (locs : List Loc) (ls : Array Slot), (k - i).toNat < N9 → (pg ≤ i ∧ i ≤ k - 1) → (RR cs L f1 pr sz (k - 1) z1) → (FR f0 f1 pr sz) → (∀ j, i ≤ j → z1 j = z j) → (∀ j, j < i → z1 j = del z pg j) → XW D A s.heap L f1 H locs → lv_has ls 3 [(0, .ref pr), (1, .int (iI (pg))), (2, .int (iI (i)))] → W p l e ({ frames := 1, cells := 0, slots := 0, locals := 21 } : Room) s m ([.ref pr, .int (iI (pg))] : List Value).toArray below meth c H locs 0 0 (MQ below (CQ D cs A (fun v L1 f1 => L = L1 ∧ FR f0 f1 pr sz ∧ ∃ z1, RR cs L f1 pr sz (k - 1) z1 ∧ ∀ j, 0 ≤ j → j < k - 1 → z1 j = del z pg j)) ([.ref pr, .int (iI (pg))] : List Value).toArray s 0 0 A) (F0 m 21 ls []) := by
      intro N9
      induction N9 with
      | zero => intro i f1 z1 H locs ls h9; exact absurd h9 (Nat.not_lt_zero _)
      | succ N9 ih21 =>
        intro i f1 z1 H locs ls h9 hi hR fr h1 h2 w hl
        refine x_il_n X hl 2 rfl rfl dX2_remove_21 ?_
        refine x_al_n X hl 0 rfl rfl dX2_remove_22 ?_
        refine x_get X w hR.mp hR.fp q_X2_remove_15 rfl dX2_remove_23 ?_
        refine x_icmp_ge (tgt := 49) X (by omega) (by decide) dX2_remove_26 (fun h6 => ?_) (fun h6 => ?_)
        · refine x_vret X w hr hlk ⟨by decide, by decide⟩ dX2_remove_49 ?_
          exact ⟨rfl, fr, _, hR, fun j h8 h9 => h2 j (by omega)⟩
        · refine x_al_n X hl 0 rfl rfl dX2_remove_29 ?_
          refine x_get X w hR.mp hR.fp q_X2_remove_9 rfl dX2_remove_30 ?_
          refine x_il_n X hl 2 rfl rfl dX2_remove_33 ?_
          refine x_al_n X hl 0 rfl rfl dX2_remove_34 ?_
          refine x_get X w hR.mp hR.fp q_X2_remove_9 rfl dX2_remove_35 ?_
          refine x_il_n X hl 2 rfl rfl dX2_remove_38 ?_
          refine x_iconst X dX2_remove_39 ?_
          refine x_iadd X dX2_remove_40 ?_
          refine x_iald X w hR.ms hR.fs (by omega) dX2_remove_41 ?_
          refine x_iast X w hR.ms hR.fs (by omega) dX2_remove_42 (fun H locs w => ?_)
          obtain ⟨f7, z8, w, hR, fr, e9⟩ : ∃ f9 z9, XW D A s.heap L f9 H locs ∧ RR cs L f9 pr sz (k - 1) z9 ∧ FR f0 f9 pr sz ∧ z9 = uI z1 i (z1 (i + 1)) := ⟨_, _, w, hR.row _, fr.up2, rfl⟩
          refine x_iinc (lv' := [(2, .int (iI (i + 1))), (0, .ref pr), (1, .int (iI (pg)))]) X hl 2 rfl (by decide) rfl dX2_remove_43 (fun ls hl => ?_)
          refine x_goto (tgt := 21) X (by decide) dX2_remove_46 ?_
          refine ih21 (i + 1) f7 z8 _ _ _ (by omega) (by omega) hR fr ?_ ?_ w (lv_sub hl [1, 2, 0] rfl)
          · intro j h8
            subst e9
            rw [uI_n _ _ (by omega)]; exact h1 j (by omega)
          · intro j h8
            subst e9
            by_cases h7 : j = i
            · subst h7; rw [uI_s]; simp only [del]; rw [if_neg (by omega)]; exact h1 _ (by omega)
            · rw [uI_n _ _ h7]; exact h2 j (by omega)
    refine loop21 _ pg f5 z _ _ _ (Nat.lt_succ_self _) (by omega) hR fr (fun _ _ => rfl) (fun j h8 => by simp only [del]; rw [if_pos h8]) w (lv_sub hl [1, 2, 0] rfl)
  · show W p l e _ s m _ below meth c _ _ _ _ _ (F0 m 5 ls [.int (iI 0)])
    refine x_ifF_ne (tgt := 9) X (by decide) (by decide) (by decide) dX2_remove_5 ?_
    refine x_vret X w hr hlk ⟨by decide, by decide⟩ dX2_remove_8 ?_
    exfalso; omega

theorem k_X2_move_X2_has : XV wsX2_move RX2 19 RX2 yX2_has cX2_has 2 (some .boolean) wsX2_has 1 := ⟨gX2_move_X2_has, ⟨_, rfl⟩, rfl, by decide, by decide, by decide +kernel⟩
theorem i_X2_move_X2 : ∀ w ∈ wsX20, w ∈ wsX2_move := by decide +kernel
theorem q_X2_move_9 : XF wsX2_move RX2 9 2 0 := ⟨RX2, TX2, 2, i_X2_move_X2, rfl, by decide, by decide +kernel⟩
theorem k_X2_move_X2_remove : XV wsX2_move RX2 27 RX2 yX2_remove cX2_remove 3 none wsX2_remove 1 := ⟨gX2_move_X2_remove, ⟨_, rfl⟩, rfl, by decide, by decide, by decide +kernel⟩
set_option maxHeartbeats 4000000 in
set_option maxRecDepth 100000 in
theorem c_X2_move (l : Launch) (D : va_G) (cs : ClassId × ClassId × ClassId) (L : List Nat) (f0 : Nat → va_E) (pr sz : Nat) (k : Int) (z : Int → Int) (pg pt : Int) (hR : RR cs L f0 pr sz k z) (hk : 0 ≤ k ∧ k ≤ 80) (hp0 : 0 ≤ pg ∧ pg < k) (hp1 : 0 ≤ pt ∧ pt < k) (hne : pg ≠ pt) (hz : ∀ j, 0 ≤ j → j < k → 0 ≤ z j ∧ z j ≤ 4) : C0 l yX2_move wsX2_move ({ frames := 2, cells := 0, slots := 0, locals := 43 } : Room) D cs [.ref pr, .int (iI (pg)), .int (iI (pt))] L f0 (fun v L1 f1 => L = L1 ∧ FR f0 f1 pr sz ∧ ∃ z1, RR cs L f1 pr sz (mvK z k pg pt) z1 ∧ ∀ j, 0 ≤ j → j < mvK z k pg pt → z1 j = mvZ z pg pt j) := by
  refine C0.of (cc := cX2_move) (maxL := 3) (ret := none) (by decide) rfl (by decide) ?_
  intro p e s m below meth c X hr hlk hin A hA w ls hl
  have hl : lv_has ls 3 [(0, .ref pr), (1, .int (iI (pg))), (2, .int (iI (pt)))] := hl
  have fr : FR f0 f0 pr sz := FR.rf _ _ _
  refine x_al_n X hl 0 rfl rfl dX2_move_0 ?_
  refine x_il_n X hl 1 rfl rfl dX2_move_1 ?_
  refine x_callV (As := [.int (iI (pg))]) (rest := []) (c1 := 0) (s1 := 0) X w hA (c_X2_has l D cs L f0 pr sz k z pg hR (by omega) (by omega)) k_X2_move_X2_has (by decide) hR.mp hR.fp rfl rfl rfl hl rfl (by decide) (by decide) rfl rfl dX2_move_2 (fun v L1 f1 H locs w hp => ?_)
  obtain ⟨rfl, rfl, hp⟩ := hp
  rcases hp with ⟨rfl, h2, h3⟩ | ⟨rfl, h4⟩
  · show W p l e _ s m _ below meth c _ _ _ _ _ (F0 m 5 ls [.int (iI 1)])
    refine x_ifF_eq (tgt := 16) X (by decide) (by decide) (by decide) dX2_move_5 ?_
    refine x_al_n X hl 0 rfl rfl dX2_move_8 ?_
    refine x_il_n X hl 2 rfl rfl dX2_move_9 ?_
    refine x_callV (As := [.int (iI (pt))]) (rest := []) (c1 := 0) (s1 := 0) X w hA (c_X2_has l D cs L f0 pr sz k z pt hR (by omega) (by omega)) k_X2_move_X2_has (by decide) hR.mp hR.fp rfl rfl rfl hl rfl (by decide) (by decide) rfl rfl dX2_move_10 (fun v L1 f1 H locs w hp => ?_)
    obtain ⟨rfl, rfl, hp⟩ := hp
    rcases hp with ⟨rfl, h6, h7⟩ | ⟨rfl, h8⟩
    · show W p l e _ s m _ below meth c _ _ _ _ _ (F0 m 13 ls [.int (iI 1)])
      refine x_ifT_ne (tgt := 17) X (by decide) (by decide) (by decide) dX2_move_13 ?_
      refine x_al_n X hl 0 rfl rfl dX2_move_17 ?_
      refine x_get X w hR.mp hR.fp q_X2_move_9 rfl dX2_move_18 ?_
      refine x_il_n X hl 1 rfl rfl dX2_move_21 ?_
      refine x_dup2 X rfl rfl dX2_move_22 ?_
      refine x_iald X w hR.ms hR.fs (by omega) dX2_move_23 ?_
      refine x_iconst X dX2_move_24 ?_
      refine x_isub X dX2_move_25 ?_
      refine x_iast X w hR.ms hR.fs (by omega) dX2_move_26 (fun H locs w => ?_)
      obtain ⟨f9, z10, w, hR, fr, e11⟩ : ∃ f9 z9, XW D A s.heap L f9 H locs ∧ RR cs L f9 pr sz (k) z9 ∧ FR f0 f9 pr sz ∧ z9 = uI z pg ((z pg) - 1) := ⟨_, _, w, hR.row _, fr.up2, rfl⟩
      refine x_al_n X hl 0 rfl rfl dX2_move_27 ?_
      refine x_get X w hR.mp hR.fp q_X2_move_9 rfl dX2_move_28 ?_
      refine x_il_n X hl 2 rfl rfl dX2_move_31 ?_
      refine x_dup2 X rfl rfl dX2_move_32 ?_
      refine x_iald X w hR.ms hR.fs (by omega) dX2_move_33 ?_
      refine x_iconst X dX2_move_34 ?_
      refine x_iadd X dX2_move_35 ?_
      refine x_iast X w hR.ms hR.fs (by omega) dX2_move_36 (fun H locs w => ?_)
      obtain ⟨f12, z13, w, hR, fr, e14⟩ : ∃ f9 z9, XW D A s.heap L f9 H locs ∧ RR cs L f9 pr sz (k) z9 ∧ FR f0 f9 pr sz ∧ z9 = uI z10 pt ((z10 pt) + 1) := ⟨_, _, w, hR.row _, fr.up2, rfl⟩
      refine x_al_n X hl 0 rfl rfl dX2_move_37 ?_
      refine x_get X w hR.mp hR.fp q_X2_move_9 rfl dX2_move_38 ?_
      refine x_il_n X hl 1 rfl rfl dX2_move_41 ?_
      refine x_iald X w hR.ms hR.fs (by omega) dX2_move_42 ?_
      have ez : z13 = mvz z pg pt := by subst e14; subst e11; rfl
      have eb : z13 pg = z pg - 1 := by rw [ez]; unfold mvz; rw [uI_n _ _ (by omega), uI_s]
      have q9 := hz pg (by omega) (by omega)
      refine x_if_ne (tgt := 51) X (by omega) (by decide) dX2_move_43 (fun h15 => ?_) (fun h15 => ?_)
      · refine x_vret X w hr hlk ⟨by decide, by decide⟩ dX2_move_51 ?_
        have h9 : ¬ mvz z pg pt pg = 0 := by rw [← ez]; exact h15
        have eK : mvK z k pg pt = k := if_neg h9
        have eZ : mvZ z pg pt = mvz z pg pt := if_neg h9
        exact ⟨rfl, fr, _, by rw [eK]; exact hR, fun j _ _ => by rw [eZ, ← ez]⟩
      · refine x_al_n X hl 0 rfl rfl dX2_move_46 ?_
        refine x_il_n X hl 1 rfl rfl dX2_move_47 ?_
        refine x_callV (As := [.int (iI (pg))]) (rest := []) (c1 := 0) (s1 := 0) X w hA (c_X2_remove l D cs L f12 pr sz k z13 pg hR (by omega) (by omega)) k_X2_move_X2_remove (by decide) hR.mp hR.fp rfl rfl rfl hl rfl (by decide) (by decide) rfl rfl dX2_move_48 (fun v L1 f1 H locs w hp => ?_)
        obtain ⟨rfl, hfr, z17, hR, hz18⟩ := hp
        have fr := fr.tr hfr
        show W p l e _ s m _ below meth c _ _ _ _ _ (F0 m 51 ls [])
        refine x_vret X w hr hlk ⟨by decide, by decide⟩ dX2_move_51 ?_
        have h9 : mvz z pg pt pg = 0 := by rw [← ez]; exact h15
        have eK : mvK z k pg pt = k - 1 := if_pos h9
        have eZ : mvZ z pg pt = del (mvz z pg pt) pg := if_pos h9
        refine ⟨rfl, fr, _, by rw [eK]; exact hR, fun j h6 h7 => ?_⟩
        rw [eK] at h7; rw [eZ, ← ez]; exact hz18 j h6 h7
    · show W p l e _ s m _ below meth c _ _ _ _ _ (F0 m 13 ls [.int (iI 0)])
      refine x_ifF_ne (tgt := 17) X (by decide) (by decide) (by decide) dX2_move_13 ?_
      refine x_vret X w hr hlk ⟨by decide, by decide⟩ dX2_move_16 ?_
      exfalso; omega
  · show W p l e _ s m _ below meth c _ _ _ _ _ (F0 m 5 ls [.int (iI 0)])
    refine x_ifT_eq (tgt := 16) X (by decide) (by decide) (by decide) dX2_move_5 ?_
    refine x_vret X w hr hlk ⟨by decide, by decide⟩ dX2_move_16 ?_
    exfalso; omega

theorem k_X2_borrowOrJoin_X2_sizeOf : XV wsX2_borrowOrJoin RX2 23 RX2 yX2_sizeOf cX2_sizeOf 2 (some .int) wsX2_sizeOf 1 := ⟨gX2_borrowOrJoin_X2_sizeOf, ⟨_, rfl⟩, rfl, by decide, by decide, by decide +kernel⟩
theorem k_X2_borrowOrJoin_X2_has : XV wsX2_borrowOrJoin RX2 19 RX2 yX2_has cX2_has 2 (some .boolean) wsX2_has 1 := ⟨gX2_borrowOrJoin_X2_has, ⟨_, rfl⟩, rfl, by decide, by decide, by decide +kernel⟩
theorem k_X2_borrowOrJoin_X2_move : XV wsX2_borrowOrJoin RX2 34 RX2 yX2_move cX2_move 3 none wsX2_move 2 := ⟨gX2_borrowOrJoin_X2_move, ⟨_, rfl⟩, rfl, by decide, by decide, by decide +kernel⟩
set_option maxHeartbeats 4000000 in
set_option maxRecDepth 100000 in
theorem c_X2_borrowOrJoin (l : Launch) (D : va_G) (cs : ClassId × ClassId × ClassId) (L : List Nat) (f0 : Nat → va_E) (pr sz : Nat) (k : Int) (z : Int → Int) (pg : Int) (hR : RR cs L f0 pr sz k z) (hk : 1 < k ∧ k ≤ 80) (hp0 : 0 ≤ pg ∧ pg < k) (hz : ∀ j, 0 ≤ j → j < k → 0 ≤ z j ∧ z j ≤ 4) : C0 l yX2_borrowOrJoin wsX2_borrowOrJoin ({ frames := 3, cells := 0, slots := 0, locals := 65 } : Room) D cs [.ref pr, .int (iI (pg))] L f0 (fun v L1 f1 => L = L1 ∧ FR f0 f1 pr sz ∧ ∃ z1, RR cs L f1 pr sz (mvK z k (bjA z k pg) (bjB z k pg)) z1 ∧ ∀ j, 0 ≤ j → j < mvK z k (bjA z k pg) (bjB z k pg) → z1 j = mvZ z (bjA z k pg) (bjB z k pg) j) := by
  refine C0.of (cc := cX2_borrowOrJoin) (maxL := 2) (ret := none) (by decide) rfl (by decide) ?_
  intro p e s m below meth c X hr hlk hin A hA w ls hl
  have hl : lv_has ls 2 [(0, .ref pr), (1, .int (iI (pg)))] := hl
  have fr : FR f0 f0 pr sz := FR.rf _ _ _
  have q8 := hz (pg + 1)
  have q9 := hz (pg - 1)
  refine x_al_n X hl 0 rfl rfl dX2_borrowOrJoin_0 ?_
  refine x_il_n X hl 1 rfl rfl dX2_borrowOrJoin_1 ?_
  refine x_iconst X dX2_borrowOrJoin_2 ?_
  refine x_iadd X dX2_borrowOrJoin_3 ?_
  refine x_callV (As := [.int (iI (pg + 1))]) (rest := []) (c1 := 0) (s1 := 0) X w hA (c_X2_sizeOf l D cs L f0 pr sz k z (pg + 1) hR (by omega) (by omega)) k_X2_borrowOrJoin_X2_sizeOf (by decide) hR.mp hR.fp rfl rfl rfl hl rfl (by decide) (by decide) rfl rfl dX2_borrowOrJoin_4 (fun v L1 f1 H locs w hp => ?_)
  obtain ⟨rfl, rfl, hp⟩ := hp
  rcases hp with ⟨rfl, h2, h3⟩ | ⟨rfl, h4⟩
  · show W p l e _ s m _ below meth c _ _ _ _ _ (F0 m 7 ls [.int (iI (z (pg + 1)))])
    refine x_iconst X dX2_borrowOrJoin_7 ?_
    refine x_icmp_lt (tgt := 22) X (by omega) (by decide) dX2_borrowOrJoin_8 (fun h5 => ?_) (fun h5 => ?_)
    · refine x_al_n X hl 0 rfl rfl dX2_borrowOrJoin_22 ?_
      refine x_il_n X hl 1 rfl rfl dX2_borrowOrJoin_23 ?_
      refine x_iconst X dX2_borrowOrJoin_24 ?_
      refine x_isub X dX2_borrowOrJoin_25 ?_
      refine x_callV (As := [.int (iI (pg - 1))]) (rest := []) (c1 := 0) (s1 := 0) X w hA (c_X2_sizeOf l D cs L f0 pr sz k z (pg - 1) hR (by omega) (by omega)) k_X2_borrowOrJoin_X2_sizeOf (by decide) hR.mp hR.fp rfl rfl rfl hl rfl (by decide) (by decide) rfl rfl dX2_borrowOrJoin_26 (fun v L1 f1 H locs w hp => ?_)
      obtain ⟨rfl, rfl, hp⟩ := hp
      rcases hp with ⟨rfl, h7, h8⟩ | ⟨rfl, h9⟩
      · show W p l e _ s m _ below meth c _ _ _ _ _ (F0 m 29 ls [.int (iI (z (pg - 1)))])
        refine x_iconst X dX2_borrowOrJoin_29 ?_
        refine x_icmp_lt (tgt := 44) X (by omega) (by decide) dX2_borrowOrJoin_30 (fun h10 => ?_) (fun h10 => ?_)
        · refine x_al_n X hl 0 rfl rfl dX2_borrowOrJoin_44 ?_
          refine x_il_n X hl 1 rfl rfl dX2_borrowOrJoin_45 ?_
          refine x_iconst X dX2_borrowOrJoin_46 ?_
          refine x_iadd X dX2_borrowOrJoin_47 ?_
          refine x_callV (As := [.int (iI (pg + 1))]) (rest := []) (c1 := 0) (s1 := 0) X w hA (c_X2_has l D cs L f0 pr sz k z (pg + 1) hR (by omega) (by omega)) k_X2_borrowOrJoin_X2_has (by decide) hR.mp hR.fp rfl rfl rfl hl rfl (by decide) (by decide) rfl rfl dX2_borrowOrJoin_48 (fun v L1 f1 H locs w hp => ?_)
          obtain ⟨rfl, rfl, hp⟩ := hp
          rcases hp with ⟨rfl, h12, h13⟩ | ⟨rfl, h14⟩
          · show W p l e _ s m _ below meth c _ _ _ _ _ (F0 m 51 ls [.int (iI 1)])
            refine x_ifF_eq (tgt := 65) X (by decide) (by decide) (by decide) dX2_borrowOrJoin_51 ?_
            refine x_al_n X hl 0 rfl rfl dX2_borrowOrJoin_54 ?_
            refine x_il_n X hl 1 rfl rfl dX2_borrowOrJoin_55 ?_
            refine x_il_n X hl 1 rfl rfl dX2_borrowOrJoin_56 ?_
            refine x_iconst X dX2_borrowOrJoin_57 ?_
            refine x_iadd X dX2_borrowOrJoin_58 ?_
            refine x_callV (As := [.int (iI (pg)), .int (iI (pg + 1))]) (rest := []) (c1 := 0) (s1 := 0) X w hA (c_X2_move l D cs L f0 pr sz k z pg (pg + 1) hR (by omega) (by omega) (by omega) (by omega) hz) k_X2_borrowOrJoin_X2_move (by decide) hR.mp hR.fp rfl rfl rfl hl rfl (by decide) (by decide) rfl rfl dX2_borrowOrJoin_59 (fun v L1 f1 H locs w hp => ?_)
            obtain ⟨rfl, hfr, z16, hR, hz17⟩ := hp
            have fr := fr.tr hfr
            show W p l e _ s m _ below meth c _ _ _ _ _ (F0 m 62 ls [])
            refine x_goto (tgt := 73) X (by decide) dX2_borrowOrJoin_62 ?_
            refine x_vret X w hr hlk ⟨by decide, by decide⟩ dX2_borrowOrJoin_73 ?_
            have eA : bjA z k pg = pg := by unfold bjA; split; omega; split; omega; omega
            have eB : bjB z k pg = pg + 1 := by unfold bjB; split; omega; split; omega; split; omega; omega
            rw [eA, eB]
            exact ⟨rfl, fr, _, hR, hz17⟩
          · show W p l e _ s m _ below meth c _ _ _ _ _ (F0 m 51 ls [.int (iI 0)])
            refine x_ifT_eq (tgt := 65) X (by decide) (by decide) (by decide) dX2_borrowOrJoin_51 ?_
            refine x_al_n X hl 0 rfl rfl dX2_borrowOrJoin_65 ?_
            refine x_il_n X hl 1 rfl rfl dX2_borrowOrJoin_66 ?_
            refine x_il_n X hl 1 rfl rfl dX2_borrowOrJoin_67 ?_
            refine x_iconst X dX2_borrowOrJoin_68 ?_
            refine x_isub X dX2_borrowOrJoin_69 ?_
            refine x_callV (As := [.int (iI (pg)), .int (iI (pg - 1))]) (rest := []) (c1 := 0) (s1 := 0) X w hA (c_X2_move l D cs L f0 pr sz k z pg (pg - 1) hR (by omega) (by omega) (by omega) (by omega) hz) k_X2_borrowOrJoin_X2_move (by decide) hR.mp hR.fp rfl rfl rfl hl rfl (by decide) (by decide) rfl rfl dX2_borrowOrJoin_70 (fun v L1 f1 H locs w hp => ?_)
            obtain ⟨rfl, hfr, z19, hR, hz20⟩ := hp
            have fr := fr.tr hfr
            show W p l e _ s m _ below meth c _ _ _ _ _ (F0 m 73 ls [])
            refine x_vret X w hr hlk ⟨by decide, by decide⟩ dX2_borrowOrJoin_73 ?_
            have eA : bjA z k pg = pg := by unfold bjA; split; omega; split; omega; omega
            have eB : bjB z k pg = pg - 1 := by unfold bjB; split; omega; split; omega; split; omega; omega
            rw [eA, eB]
            exact ⟨rfl, fr, _, hR, hz20⟩
        · refine x_al_n X hl 0 rfl rfl dX2_borrowOrJoin_33 ?_
          refine x_il_n X hl 1 rfl rfl dX2_borrowOrJoin_34 ?_
          refine x_iconst X dX2_borrowOrJoin_35 ?_
          refine x_isub X dX2_borrowOrJoin_36 ?_
          refine x_il_n X hl 1 rfl rfl dX2_borrowOrJoin_37 ?_
          refine x_callV (As := [.int (iI (pg - 1)), .int (iI (pg))]) (rest := []) (c1 := 0) (s1 := 0) X w hA (c_X2_move l D cs L f0 pr sz k z (pg - 1) pg hR (by omega) (by omega) (by omega) (by omega) hz) k_X2_borrowOrJoin_X2_move (by decide) hR.mp hR.fp rfl rfl rfl hl rfl (by decide) (by decide) rfl rfl dX2_borrowOrJoin_38 (fun v L1 f1 H locs w hp => ?_)
          obtain ⟨rfl, hfr, z22, hR, hz23⟩ := hp
          have fr := fr.tr hfr
          show W p l e _ s m _ below meth c _ _ _ _ _ (F0 m 41 ls [])
          refine x_goto (tgt := 73) X (by decide) dX2_borrowOrJoin_41 ?_
          refine x_vret X w hr hlk ⟨by decide, by decide⟩ dX2_borrowOrJoin_73 ?_
          have eA : bjA z k pg = pg - 1 := by unfold bjA; split; omega; split; omega; omega
          have eB : bjB z k pg = pg := by unfold bjB; split; omega; split; omega; split; omega; omega
          rw [eA, eB]
          exact ⟨rfl, fr, _, hR, hz23⟩
      · show W p l e _ s m _ below meth c _ _ _ _ _ (F0 m 29 ls [.int (iI 0)])
        refine x_iconst X dX2_borrowOrJoin_29 ?_
        refine x_icmpT_lt (tgt := 44) X (by decide) (by decide) (by decide) dX2_borrowOrJoin_30 ?_
        refine x_al_n X hl 0 rfl rfl dX2_borrowOrJoin_44 ?_
        refine x_il_n X hl 1 rfl rfl dX2_borrowOrJoin_45 ?_
        refine x_iconst X dX2_borrowOrJoin_46 ?_
        refine x_iadd X dX2_borrowOrJoin_47 ?_
        refine x_callV (As := [.int (iI (pg + 1))]) (rest := []) (c1 := 0) (s1 := 0) X w hA (c_X2_has l D cs L f0 pr sz k z (pg + 1) hR (by omega) (by omega)) k_X2_borrowOrJoin_X2_has (by decide) hR.mp hR.fp rfl rfl rfl hl rfl (by decide) (by decide) rfl rfl dX2_borrowOrJoin_48 (fun v L1 f1 H locs w hp => ?_)
        obtain ⟨rfl, rfl, hp⟩ := hp
        rcases hp with ⟨rfl, h25, h26⟩ | ⟨rfl, h27⟩
        · show W p l e _ s m _ below meth c _ _ _ _ _ (F0 m 51 ls [.int (iI 1)])
          refine x_ifF_eq (tgt := 65) X (by decide) (by decide) (by decide) dX2_borrowOrJoin_51 ?_
          refine x_al_n X hl 0 rfl rfl dX2_borrowOrJoin_54 ?_
          refine x_il_n X hl 1 rfl rfl dX2_borrowOrJoin_55 ?_
          refine x_il_n X hl 1 rfl rfl dX2_borrowOrJoin_56 ?_
          refine x_iconst X dX2_borrowOrJoin_57 ?_
          refine x_iadd X dX2_borrowOrJoin_58 ?_
          refine x_callV (As := [.int (iI (pg)), .int (iI (pg + 1))]) (rest := []) (c1 := 0) (s1 := 0) X w hA (c_X2_move l D cs L f0 pr sz k z pg (pg + 1) hR (by omega) (by omega) (by omega) (by omega) hz) k_X2_borrowOrJoin_X2_move (by decide) hR.mp hR.fp rfl rfl rfl hl rfl (by decide) (by decide) rfl rfl dX2_borrowOrJoin_59 (fun v L1 f1 H locs w hp => ?_)
          obtain ⟨rfl, hfr, z29, hR, hz30⟩ := hp
          have fr := fr.tr hfr
          show W p l e _ s m _ below meth c _ _ _ _ _ (F0 m 62 ls [])
          refine x_goto (tgt := 73) X (by decide) dX2_borrowOrJoin_62 ?_
          refine x_vret X w hr hlk ⟨by decide, by decide⟩ dX2_borrowOrJoin_73 ?_
          have eA : bjA z k pg = pg := by unfold bjA; split; omega; split; omega; omega
          have eB : bjB z k pg = pg + 1 := by unfold bjB; split; omega; split; omega; split; omega; omega
          rw [eA, eB]
          exact ⟨rfl, fr, _, hR, hz30⟩
        · show W p l e _ s m _ below meth c _ _ _ _ _ (F0 m 51 ls [.int (iI 0)])
          refine x_ifT_eq (tgt := 65) X (by decide) (by decide) (by decide) dX2_borrowOrJoin_51 ?_
          refine x_al_n X hl 0 rfl rfl dX2_borrowOrJoin_65 ?_
          refine x_il_n X hl 1 rfl rfl dX2_borrowOrJoin_66 ?_
          refine x_il_n X hl 1 rfl rfl dX2_borrowOrJoin_67 ?_
          refine x_iconst X dX2_borrowOrJoin_68 ?_
          refine x_isub X dX2_borrowOrJoin_69 ?_
          refine x_callV (As := [.int (iI (pg)), .int (iI (pg - 1))]) (rest := []) (c1 := 0) (s1 := 0) X w hA (c_X2_move l D cs L f0 pr sz k z pg (pg - 1) hR (by omega) (by omega) (by omega) (by omega) hz) k_X2_borrowOrJoin_X2_move (by decide) hR.mp hR.fp rfl rfl rfl hl rfl (by decide) (by decide) rfl rfl dX2_borrowOrJoin_70 (fun v L1 f1 H locs w hp => ?_)
          obtain ⟨rfl, hfr, z32, hR, hz33⟩ := hp
          have fr := fr.tr hfr
          show W p l e _ s m _ below meth c _ _ _ _ _ (F0 m 73 ls [])
          refine x_vret X w hr hlk ⟨by decide, by decide⟩ dX2_borrowOrJoin_73 ?_
          have eA : bjA z k pg = pg := by unfold bjA; split; omega; split; omega; omega
          have eB : bjB z k pg = pg - 1 := by unfold bjB; split; omega; split; omega; split; omega; omega
          rw [eA, eB]
          exact ⟨rfl, fr, _, hR, hz33⟩
    · refine x_al_n X hl 0 rfl rfl dX2_borrowOrJoin_11 ?_
      refine x_il_n X hl 1 rfl rfl dX2_borrowOrJoin_12 ?_
      refine x_iconst X dX2_borrowOrJoin_13 ?_
      refine x_iadd X dX2_borrowOrJoin_14 ?_
      refine x_il_n X hl 1 rfl rfl dX2_borrowOrJoin_15 ?_
      refine x_callV (As := [.int (iI (pg + 1)), .int (iI (pg))]) (rest := []) (c1 := 0) (s1 := 0) X w hA (c_X2_move l D cs L f0 pr sz k z (pg + 1) pg hR (by omega) (by omega) (by omega) (by omega) hz) k_X2_borrowOrJoin_X2_move (by decide) hR.mp hR.fp rfl rfl rfl hl rfl (by decide) (by decide) rfl rfl dX2_borrowOrJoin_16 (fun v L1 f1 H locs w hp => ?_)
      obtain ⟨rfl, hfr, z35, hR, hz36⟩ := hp
      have fr := fr.tr hfr
      show W p l e _ s m _ below meth c _ _ _ _ _ (F0 m 19 ls [])
      refine x_goto (tgt := 73) X (by decide) dX2_borrowOrJoin_19 ?_
      refine x_vret X w hr hlk ⟨by decide, by decide⟩ dX2_borrowOrJoin_73 ?_
      have eA : bjA z k pg = pg + 1 := by unfold bjA; split; omega; split; omega; omega
      have eB : bjB z k pg = pg := by unfold bjB; split; omega; split; omega; split; omega; omega
      rw [eA, eB]
      exact ⟨rfl, fr, _, hR, hz36⟩
  · show W p l e _ s m _ below meth c _ _ _ _ _ (F0 m 7 ls [.int (iI 0)])
    refine x_iconst X dX2_borrowOrJoin_7 ?_
    refine x_icmpT_lt (tgt := 22) X (by decide) (by decide) (by decide) dX2_borrowOrJoin_8 ?_
    refine x_al_n X hl 0 rfl rfl dX2_borrowOrJoin_22 ?_
    refine x_il_n X hl 1 rfl rfl dX2_borrowOrJoin_23 ?_
    refine x_iconst X dX2_borrowOrJoin_24 ?_
    refine x_isub X dX2_borrowOrJoin_25 ?_
    refine x_callV (As := [.int (iI (pg - 1))]) (rest := []) (c1 := 0) (s1 := 0) X w hA (c_X2_sizeOf l D cs L f0 pr sz k z (pg - 1) hR (by omega) (by omega)) k_X2_borrowOrJoin_X2_sizeOf (by decide) hR.mp hR.fp rfl rfl rfl hl rfl (by decide) (by decide) rfl rfl dX2_borrowOrJoin_26 (fun v L1 f1 H locs w hp => ?_)
    obtain ⟨rfl, rfl, hp⟩ := hp
    rcases hp with ⟨rfl, h38, h39⟩ | ⟨rfl, h40⟩
    · show W p l e _ s m _ below meth c _ _ _ _ _ (F0 m 29 ls [.int (iI (z (pg - 1)))])
      refine x_iconst X dX2_borrowOrJoin_29 ?_
      refine x_icmp_lt (tgt := 44) X (by omega) (by decide) dX2_borrowOrJoin_30 (fun h41 => ?_) (fun h41 => ?_)
      · refine x_al_n X hl 0 rfl rfl dX2_borrowOrJoin_44 ?_
        refine x_il_n X hl 1 rfl rfl dX2_borrowOrJoin_45 ?_
        refine x_iconst X dX2_borrowOrJoin_46 ?_
        refine x_iadd X dX2_borrowOrJoin_47 ?_
        refine x_callV (As := [.int (iI (pg + 1))]) (rest := []) (c1 := 0) (s1 := 0) X w hA (c_X2_has l D cs L f0 pr sz k z (pg + 1) hR (by omega) (by omega)) k_X2_borrowOrJoin_X2_has (by decide) hR.mp hR.fp rfl rfl rfl hl rfl (by decide) (by decide) rfl rfl dX2_borrowOrJoin_48 (fun v L1 f1 H locs w hp => ?_)
        obtain ⟨rfl, rfl, hp⟩ := hp
        rcases hp with ⟨rfl, h43, h44⟩ | ⟨rfl, h45⟩
        · show W p l e _ s m _ below meth c _ _ _ _ _ (F0 m 51 ls [.int (iI 1)])
          refine x_ifF_eq (tgt := 65) X (by decide) (by decide) (by decide) dX2_borrowOrJoin_51 ?_
          refine x_al_n X hl 0 rfl rfl dX2_borrowOrJoin_54 ?_
          refine x_il_n X hl 1 rfl rfl dX2_borrowOrJoin_55 ?_
          refine x_il_n X hl 1 rfl rfl dX2_borrowOrJoin_56 ?_
          refine x_iconst X dX2_borrowOrJoin_57 ?_
          refine x_iadd X dX2_borrowOrJoin_58 ?_
          refine x_callV (As := [.int (iI (pg)), .int (iI (pg + 1))]) (rest := []) (c1 := 0) (s1 := 0) X w hA (c_X2_move l D cs L f0 pr sz k z pg (pg + 1) hR (by omega) (by omega) (by omega) (by omega) hz) k_X2_borrowOrJoin_X2_move (by decide) hR.mp hR.fp rfl rfl rfl hl rfl (by decide) (by decide) rfl rfl dX2_borrowOrJoin_59 (fun v L1 f1 H locs w hp => ?_)
          obtain ⟨rfl, hfr, z47, hR, hz48⟩ := hp
          have fr := fr.tr hfr
          show W p l e _ s m _ below meth c _ _ _ _ _ (F0 m 62 ls [])
          refine x_goto (tgt := 73) X (by decide) dX2_borrowOrJoin_62 ?_
          refine x_vret X w hr hlk ⟨by decide, by decide⟩ dX2_borrowOrJoin_73 ?_
          have eA : bjA z k pg = pg := by unfold bjA; split; omega; split; omega; omega
          have eB : bjB z k pg = pg + 1 := by unfold bjB; split; omega; split; omega; split; omega; omega
          rw [eA, eB]
          exact ⟨rfl, fr, _, hR, hz48⟩
        · show W p l e _ s m _ below meth c _ _ _ _ _ (F0 m 51 ls [.int (iI 0)])
          refine x_ifT_eq (tgt := 65) X (by decide) (by decide) (by decide) dX2_borrowOrJoin_51 ?_
          refine x_al_n X hl 0 rfl rfl dX2_borrowOrJoin_65 ?_
          refine x_il_n X hl 1 rfl rfl dX2_borrowOrJoin_66 ?_
          refine x_il_n X hl 1 rfl rfl dX2_borrowOrJoin_67 ?_
          refine x_iconst X dX2_borrowOrJoin_68 ?_
          refine x_isub X dX2_borrowOrJoin_69 ?_
          refine x_callV (As := [.int (iI (pg)), .int (iI (pg - 1))]) (rest := []) (c1 := 0) (s1 := 0) X w hA (c_X2_move l D cs L f0 pr sz k z pg (pg - 1) hR (by omega) (by omega) (by omega) (by omega) hz) k_X2_borrowOrJoin_X2_move (by decide) hR.mp hR.fp rfl rfl rfl hl rfl (by decide) (by decide) rfl rfl dX2_borrowOrJoin_70 (fun v L1 f1 H locs w hp => ?_)
          obtain ⟨rfl, hfr, z50, hR, hz51⟩ := hp
          have fr := fr.tr hfr
          show W p l e _ s m _ below meth c _ _ _ _ _ (F0 m 73 ls [])
          refine x_vret X w hr hlk ⟨by decide, by decide⟩ dX2_borrowOrJoin_73 ?_
          have eA : bjA z k pg = pg := by unfold bjA; split; omega; split; omega; omega
          have eB : bjB z k pg = pg - 1 := by unfold bjB; split; omega; split; omega; split; omega; omega
          rw [eA, eB]
          exact ⟨rfl, fr, _, hR, hz51⟩
      · refine x_al_n X hl 0 rfl rfl dX2_borrowOrJoin_33 ?_
        refine x_il_n X hl 1 rfl rfl dX2_borrowOrJoin_34 ?_
        refine x_iconst X dX2_borrowOrJoin_35 ?_
        refine x_isub X dX2_borrowOrJoin_36 ?_
        refine x_il_n X hl 1 rfl rfl dX2_borrowOrJoin_37 ?_
        refine x_callV (As := [.int (iI (pg - 1)), .int (iI (pg))]) (rest := []) (c1 := 0) (s1 := 0) X w hA (c_X2_move l D cs L f0 pr sz k z (pg - 1) pg hR (by omega) (by omega) (by omega) (by omega) hz) k_X2_borrowOrJoin_X2_move (by decide) hR.mp hR.fp rfl rfl rfl hl rfl (by decide) (by decide) rfl rfl dX2_borrowOrJoin_38 (fun v L1 f1 H locs w hp => ?_)
        obtain ⟨rfl, hfr, z53, hR, hz54⟩ := hp
        have fr := fr.tr hfr
        show W p l e _ s m _ below meth c _ _ _ _ _ (F0 m 41 ls [])
        refine x_goto (tgt := 73) X (by decide) dX2_borrowOrJoin_41 ?_
        refine x_vret X w hr hlk ⟨by decide, by decide⟩ dX2_borrowOrJoin_73 ?_
        have eA : bjA z k pg = pg - 1 := by unfold bjA; split; omega; split; omega; omega
        have eB : bjB z k pg = pg := by unfold bjB; split; omega; split; omega; split; omega; omega
        rw [eA, eB]
        exact ⟨rfl, fr, _, hR, hz54⟩
    · show W p l e _ s m _ below meth c _ _ _ _ _ (F0 m 29 ls [.int (iI 0)])
      refine x_iconst X dX2_borrowOrJoin_29 ?_
      refine x_icmpT_lt (tgt := 44) X (by decide) (by decide) (by decide) dX2_borrowOrJoin_30 ?_
      refine x_al_n X hl 0 rfl rfl dX2_borrowOrJoin_44 ?_
      refine x_il_n X hl 1 rfl rfl dX2_borrowOrJoin_45 ?_
      refine x_iconst X dX2_borrowOrJoin_46 ?_
      refine x_iadd X dX2_borrowOrJoin_47 ?_
      refine x_callV (As := [.int (iI (pg + 1))]) (rest := []) (c1 := 0) (s1 := 0) X w hA (c_X2_has l D cs L f0 pr sz k z (pg + 1) hR (by omega) (by omega)) k_X2_borrowOrJoin_X2_has (by decide) hR.mp hR.fp rfl rfl rfl hl rfl (by decide) (by decide) rfl rfl dX2_borrowOrJoin_48 (fun v L1 f1 H locs w hp => ?_)
      obtain ⟨rfl, rfl, hp⟩ := hp
      rcases hp with ⟨rfl, h56, h57⟩ | ⟨rfl, h58⟩
      · show W p l e _ s m _ below meth c _ _ _ _ _ (F0 m 51 ls [.int (iI 1)])
        refine x_ifF_eq (tgt := 65) X (by decide) (by decide) (by decide) dX2_borrowOrJoin_51 ?_
        refine x_al_n X hl 0 rfl rfl dX2_borrowOrJoin_54 ?_
        refine x_il_n X hl 1 rfl rfl dX2_borrowOrJoin_55 ?_
        refine x_il_n X hl 1 rfl rfl dX2_borrowOrJoin_56 ?_
        refine x_iconst X dX2_borrowOrJoin_57 ?_
        refine x_iadd X dX2_borrowOrJoin_58 ?_
        refine x_callV (As := [.int (iI (pg)), .int (iI (pg + 1))]) (rest := []) (c1 := 0) (s1 := 0) X w hA (c_X2_move l D cs L f0 pr sz k z pg (pg + 1) hR (by omega) (by omega) (by omega) (by omega) hz) k_X2_borrowOrJoin_X2_move (by decide) hR.mp hR.fp rfl rfl rfl hl rfl (by decide) (by decide) rfl rfl dX2_borrowOrJoin_59 (fun v L1 f1 H locs w hp => ?_)
        obtain ⟨rfl, hfr, z60, hR, hz61⟩ := hp
        have fr := fr.tr hfr
        show W p l e _ s m _ below meth c _ _ _ _ _ (F0 m 62 ls [])
        refine x_goto (tgt := 73) X (by decide) dX2_borrowOrJoin_62 ?_
        refine x_vret X w hr hlk ⟨by decide, by decide⟩ dX2_borrowOrJoin_73 ?_
        have eA : bjA z k pg = pg := by unfold bjA; split; omega; split; omega; omega
        have eB : bjB z k pg = pg + 1 := by unfold bjB; split; omega; split; omega; split; omega; omega
        rw [eA, eB]
        exact ⟨rfl, fr, _, hR, hz61⟩
      · show W p l e _ s m _ below meth c _ _ _ _ _ (F0 m 51 ls [.int (iI 0)])
        refine x_ifT_eq (tgt := 65) X (by decide) (by decide) (by decide) dX2_borrowOrJoin_51 ?_
        refine x_al_n X hl 0 rfl rfl dX2_borrowOrJoin_65 ?_
        refine x_il_n X hl 1 rfl rfl dX2_borrowOrJoin_66 ?_
        refine x_il_n X hl 1 rfl rfl dX2_borrowOrJoin_67 ?_
        refine x_iconst X dX2_borrowOrJoin_68 ?_
        refine x_isub X dX2_borrowOrJoin_69 ?_
        refine x_callV (As := [.int (iI (pg)), .int (iI (pg - 1))]) (rest := []) (c1 := 0) (s1 := 0) X w hA (c_X2_move l D cs L f0 pr sz k z pg (pg - 1) hR (by omega) (by omega) (by omega) (by omega) hz) k_X2_borrowOrJoin_X2_move (by decide) hR.mp hR.fp rfl rfl rfl hl rfl (by decide) (by decide) rfl rfl dX2_borrowOrJoin_70 (fun v L1 f1 H locs w hp => ?_)
        obtain ⟨rfl, hfr, z63, hR, hz64⟩ := hp
        have fr := fr.tr hfr
        show W p l e _ s m _ below meth c _ _ _ _ _ (F0 m 73 ls [])
        refine x_vret X w hr hlk ⟨by decide, by decide⟩ dX2_borrowOrJoin_73 ?_
        have eA : bjA z k pg = pg := by unfold bjA; split; omega; split; omega; omega
        have eB : bjB z k pg = pg - 1 := by unfold bjB; split; omega; split; omega; split; omega; omega
        rw [eA, eB]
        exact ⟨rfl, fr, _, hR, hz64⟩

theorem k_X2_takeFrom_X2_has : XV wsX2_takeFrom RX2 19 RX2 yX2_has cX2_has 2 (some .boolean) wsX2_has 1 := ⟨gX2_takeFrom_X2_has, ⟨_, rfl⟩, rfl, by decide, by decide, by decide +kernel⟩
theorem i_X2_takeFrom_X2 : ∀ w ∈ wsX20, w ∈ wsX2_takeFrom := by decide +kernel
theorem q_X2_takeFrom_9 : XF wsX2_takeFrom RX2 9 2 0 := ⟨RX2, TX2, 2, i_X2_takeFrom_X2, rfl, by decide, by decide +kernel⟩
theorem q_X2_takeFrom_15 : XF wsX2_takeFrom RX2 15 2 1 := ⟨RX2, TX2, 2, i_X2_takeFrom_X2, rfl, by decide, by decide +kernel⟩
theorem k_X2_takeFrom_X2_borrowOrJoin : XV wsX2_takeFrom RX2 31 RX2 yX2_borrowOrJoin cX2_borrowOrJoin 2 none wsX2_borrowOrJoin 1 := ⟨gX2_takeFrom_X2_borrowOrJoin, ⟨_, rfl⟩, rfl, by decide, by decide, by decide +kernel⟩
theorem k_X2_takeFrom_X2_remove : XV wsX2_takeFrom RX2 27 RX2 yX2_remove cX2_remove 3 none wsX2_remove 1 := ⟨gX2_takeFrom_X2_remove, ⟨_, rfl⟩, rfl, by decide, by decide, by decide +kernel⟩
set_option maxHeartbeats 4000000 in
set_option maxRecDepth 100000 in
theorem c_X2_takeFrom (l : Launch) (D : va_G) (cs : ClassId × ClassId × ClassId) (L : List Nat) (f0 : Nat → va_E) (pr sz : Nat) (k : Int) (z : Int → Int) (pg : Int) (hR : RR cs L f0 pr sz k z) (hk : 0 ≤ k ∧ k ≤ 80) (hp0 : 0 ≤ pg ∧ pg < k) (hz : ∀ j, 0 ≤ j → j < k → 0 ≤ z j ∧ z j ≤ 4) : C0 l yX2_takeFrom wsX2_takeFrom ({ frames := 4, cells := 0, slots := 0, locals := 86 } : Room) D cs [.ref pr, .int (iI (pg))] L f0 (fun v L1 f1 => L = L1 ∧ FR f0 f1 pr sz ∧ ∃ z1, RR cs L f1 pr sz (tkK z k pg) z1 ∧ ∀ j, 0 ≤ j → j < tkK z k pg → z1 j = tkZ z k pg j) := by
  refine C0.of (cc := cX2_takeFrom) (maxL := 2) (ret := none) (by decide) rfl (by decide) ?_
  intro p e s m below meth c X hr hlk hin A hA w ls hl
  have hl : lv_has ls 2 [(0, .ref pr), (1, .int (iI (pg)))] := hl
  have fr : FR f0 f0 pr sz := FR.rf _ _ _
  refine x_al_n X hl 0 rfl rfl dX2_takeFrom_0 ?_
  refine x_il_n X hl 1 rfl rfl dX2_takeFrom_1 ?_
  refine x_callV (As := [.int (iI (pg))]) (rest := []) (c1 := 0) (s1 := 0) X w hA (c_X2_has l D cs L f0 pr sz k z pg hR (by omega) (by omega)) k_X2_takeFrom_X2_has (by decide) hR.mp hR.fp rfl rfl rfl hl rfl (by decide) (by decide) rfl rfl dX2_takeFrom_2 (fun v L1 f1 H locs w hp => ?_)
  obtain ⟨rfl, rfl, hp⟩ := hp
  rcases hp with ⟨rfl, h2, h3⟩ | ⟨rfl, h4⟩
  · show W p l e _ s m _ below meth c _ _ _ _ _ (F0 m 5 ls [.int (iI 1)])
    refine x_ifT_ne (tgt := 9) X (by decide) (by decide) (by decide) dX2_takeFrom_5 ?_
    refine x_al_n X hl 0 rfl rfl dX2_takeFrom_9 ?_
    refine x_get X w hR.mp hR.fp q_X2_takeFrom_9 rfl dX2_takeFrom_10 ?_
    refine x_il_n X hl 1 rfl rfl dX2_takeFrom_13 ?_
    refine x_dup2 X rfl rfl dX2_takeFrom_14 ?_
    refine x_iald X w hR.ms hR.fs (by omega) dX2_takeFrom_15 ?_
    refine x_iconst X dX2_takeFrom_16 ?_
    refine x_isub X dX2_takeFrom_17 ?_
    refine x_iast X w hR.ms hR.fs (by omega) dX2_takeFrom_18 (fun H locs w => ?_)
    obtain ⟨f5, z6, w, hR, fr, e7⟩ : ∃ f9 z9, XW D A s.heap L f9 H locs ∧ RR cs L f9 pr sz (k) z9 ∧ FR f0 f9 pr sz ∧ z9 = uI z pg ((z pg) - 1) := ⟨_, _, w, hR.row _, fr.up2, rfl⟩
    have ez : z6 = tk1 z pg := e7
    have eb : z6 pg = z pg - 1 := by rw [ez]; exact tk1_p z pg
    have q9 := hz pg (by omega) (by omega)
    have hz1 : ∀ j, 0 ≤ j → j < k → 0 ≤ z6 j ∧ z6 j ≤ 4 := by
      intro j h8 h9
      by_cases h7 : j = pg
      · subst h7; omega
      · rw [ez]; unfold tk1; rw [uI_n _ _ h7]; exact hz j h8 h9
    refine x_al_n X hl 0 rfl rfl dX2_takeFrom_19 ?_
    refine x_get X w hR.mp hR.fp q_X2_takeFrom_9 rfl dX2_takeFrom_20 ?_
    refine x_il_n X hl 1 rfl rfl dX2_takeFrom_23 ?_
    refine x_iald X w hR.ms hR.fs (by omega) dX2_takeFrom_24 ?_
    refine x_if_ne (tgt := 36) X (by omega) (by decide) dX2_takeFrom_25 (fun h8 => ?_) (fun h8 => ?_)
    · refine x_al_n X hl 0 rfl rfl dX2_takeFrom_36 ?_
      refine x_get X w hR.mp hR.fp q_X2_takeFrom_9 rfl dX2_takeFrom_37 ?_
      refine x_il_n X hl 1 rfl rfl dX2_takeFrom_40 ?_
      refine x_iald X w hR.ms hR.fs (by omega) dX2_takeFrom_41 ?_
      refine x_iconst X dX2_takeFrom_42 ?_
      refine x_icmp_ne (tgt := 59) X (by omega) (by decide) dX2_takeFrom_43 (fun h9 => ?_) (fun h9 => ?_)
      · refine x_vret X w hr hlk ⟨by decide, by decide⟩ dX2_takeFrom_59 ?_
        have h9 : ¬ tk1 z pg pg = 0 := by rw [← ez]; exact h8
        have h8 : ¬ (tk1 z pg pg = 1 ∧ 1 < k) := by rw [← ez]; omega
        have eK : tkK z k pg = k := (if_neg h9).trans (if_neg h8)
        have eZ : tkZ z k pg = tk1 z pg := (if_neg h9).trans (if_neg h8)
        rw [eK, eZ, ← ez]; exact ⟨rfl, fr, _, hR, fun _ _ _ => rfl⟩
      · refine x_al_n X hl 0 rfl rfl dX2_takeFrom_46 ?_
        refine x_get X w hR.mp hR.fp q_X2_takeFrom_15 rfl dX2_takeFrom_47 ?_
        refine x_iconst X dX2_takeFrom_50 ?_
        refine x_icmp_le (tgt := 59) X (by omega) (by decide) dX2_takeFrom_51 (fun h10 => ?_) (fun h10 => ?_)
        · refine x_vret X w hr hlk ⟨by decide, by decide⟩ dX2_takeFrom_59 ?_
          have h9 : ¬ tk1 z pg pg = 0 := by rw [← ez]; exact h8
          have h8 : ¬ (tk1 z pg pg = 1 ∧ 1 < k) := by rw [← ez]; omega
          have eK : tkK z k pg = k := (if_neg h9).trans (if_neg h8)
          have eZ : tkZ z k pg = tk1 z pg := (if_neg h9).trans (if_neg h8)
          rw [eK, eZ, ← ez]; exact ⟨rfl, fr, _, hR, fun _ _ _ => rfl⟩
        · refine x_al_n X hl 0 rfl rfl dX2_takeFrom_54 ?_
          refine x_il_n X hl 1 rfl rfl dX2_takeFrom_55 ?_
          refine x_callV (As := [.int (iI (pg))]) (rest := []) (c1 := 0) (s1 := 0) X w hA (c_X2_borrowOrJoin l D cs L f5 pr sz k z6 pg hR (by omega) (by omega) hz1) k_X2_takeFrom_X2_borrowOrJoin (by decide) hR.mp hR.fp rfl rfl rfl hl rfl (by decide) (by decide) rfl rfl dX2_takeFrom_56 (fun v L1 f1 H locs w hp => ?_)
          obtain ⟨rfl, hfr, z12, hR, hz13⟩ := hp
          have fr := fr.tr hfr
          show W p l e _ s m _ below meth c _ _ _ _ _ (F0 m 59 ls [])
          refine x_vret X w hr hlk ⟨by decide, by decide⟩ dX2_takeFrom_59 ?_
          have h9 : ¬ tk1 z pg pg = 0 := by rw [← ez]; exact h8
          have h8 : tk1 z pg pg = 1 ∧ 1 < k := by rw [← ez]; omega
          have eK : tkK z k pg = mvK (tk1 z pg) k (bjA (tk1 z pg) k pg) (bjB (tk1 z pg) k pg) := (if_neg h9).trans (if_pos h8)
          have eZ : tkZ z k pg = mvZ (tk1 z pg) (bjA (tk1 z pg) k pg) (bjB (tk1 z pg) k pg) := (if_neg h9).trans (if_pos h8)
          rw [eK, eZ, ← ez]; exact ⟨rfl, fr, _, hR, hz13⟩
    · refine x_al_n X hl 0 rfl rfl dX2_takeFrom_28 ?_
      refine x_il_n X hl 1 rfl rfl dX2_takeFrom_29 ?_
      refine x_callV (As := [.int (iI (pg))]) (rest := []) (c1 := 0) (s1 := 0) X w hA (c_X2_remove l D cs L f5 pr sz k z6 pg hR (by omega) (by omega)) k_X2_takeFrom_X2_remove (by decide) hR.mp hR.fp rfl rfl rfl hl rfl (by decide) (by decide) rfl rfl dX2_takeFrom_30 (fun v L1 f1 H locs w hp => ?_)
      obtain ⟨rfl, hfr, z15, hR, hz16⟩ := hp
      have fr := fr.tr hfr
      show W p l e _ s m _ below meth c _ _ _ _ _ (F0 m 33 ls [])
      refine x_goto (tgt := 59) X (by decide) dX2_takeFrom_33 ?_
      refine x_vret X w hr hlk ⟨by decide, by decide⟩ dX2_takeFrom_59 ?_
      have h9 : tk1 z pg pg = 0 := by rw [← ez]; exact h8
      have eK : tkK z k pg = k - 1 := if_pos h9
      have eZ : tkZ z k pg = del (tk1 z pg) pg := if_pos h9
      rw [eK, eZ, ← ez]; exact ⟨rfl, fr, _, hR, hz16⟩
  · show W p l e _ s m _ below meth c _ _ _ _ _ (F0 m 5 ls [.int (iI 0)])
    refine x_ifF_ne (tgt := 9) X (by decide) (by decide) (by decide) dX2_takeFrom_5 ?_
    refine x_vret X w hr hlk ⟨by decide, by decide⟩ dX2_takeFrom_8 ?_
    exfalso; omega
