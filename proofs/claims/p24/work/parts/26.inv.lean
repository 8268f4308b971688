/-! what holds of every register, kept by every call -/
section INVS
variable {σ : Sg}
theorem Inv.n (h : Inv σ) : 0 ≤ gN σ ∧ gN σ ≤ 80 := h.1
theorem Inv.r (h : Inv σ) : ∀ j, 0 ≤ j → j < gN σ → (0 ≤ gR σ j 0 ∧ gR σ j 0 ≤ 999) ∧ (1 ≤ gR σ j 1 ∧ gR σ j 1 ≤ 10000) ∧ (0 ≤ gR σ j 2 ∧ gR σ j 2 ≤ 9) ∧ (0 ≤ gR σ j 3 ∧ gR σ j 3 ≤ 5000) ∧ (-1 ≤ gR σ j 4 ∧ gR σ j 4 ≤ 5000) := h.2.1
theorem Inv.r0 (h : Inv σ) : ∀ j, 0 ≤ j → j < gN σ → 0 ≤ gR σ j 0 ∧ gR σ j 0 ≤ 999 := fun j a b => (h.r j a b).1
theorem Inv.r2 (h : Inv σ) : ∀ j, 0 ≤ j → j < gN σ → 0 ≤ gR σ j 2 ∧ gR σ j 2 ≤ 9 := fun j a b => (h.r j a b).2.2.1
theorem Inv.so (h : Inv σ) : so (gR σ) (gN σ) := h.2.2.1
theorem Inv.k (h : Inv σ) : 0 ≤ gK σ ∧ gK σ ≤ 80 := h.2.2.2.1
theorem Inv.z1 (h : Inv σ) : ∀ j, 0 ≤ j → j < gK σ → 1 ≤ gZ σ j ∧ gZ σ j ≤ 4 := h.2.2.2.2.1
theorem Inv.z4 (h : Inv σ) : ∀ j, 0 ≤ j → j < gK σ → 0 ≤ gZ σ j ∧ gZ σ j ≤ 4 := fun j a b => by have hq1 := h.z1 j a b; omega
theorem Inv.z0 (h : Inv σ) : ∀ j, 0 ≤ j → j < gK σ → 0 ≤ gZ σ j := fun j a b => (h.z4 j a b).1
theorem Inv.sm (h : Inv σ) : sm (gZ σ) (gK σ) = gN σ := h.2.2.2.2.2.1
theorem Inv.t (h : Inv σ) : 0 ≤ gT σ ∧ gT σ ≤ 5000 := h.2.2.2.2.2.2.1
theorem Inv.s (h : Inv σ) : -1 ≤ gS σ ∧ gS σ ≤ 80 := h.2.2.2.2.2.2.2.1
theorem Inv.w (h : Inv σ) : ∀ j, 0 ≤ j → j < 4 → -1 ≤ gW σ j ∧ gW σ j ≤ 999 := h.2.2.2.2.2.2.2.2
theorem Inv.pg (h : Inv σ) {p : Int} (hp : 0 ≤ p ∧ p < gN σ) : isPg (gZ σ) (gK σ) p (pw (gZ σ) (gK σ) p) := pw_is h.z0 h.k.1 (by rw [h.sm]; exact hp)
theorem Inv.pgr (h : Inv σ) {p : Int} (hp : 0 ≤ p ∧ p < gN σ) : 0 ≤ pw (gZ σ) (gK σ) p ∧ pw (gZ σ) (gK σ) p < gK σ := ⟨(h.pg hp).1, (h.pg hp).2.1⟩
end INVS
theorem k_le {z : Int → Int} {k : Int} (hk : 0 ≤ k) (hz : ∀ j, 0 ≤ j → j < k → 1 ≤ z j ∧ z j ≤ 4) : k ≤ sm z k := by
  have h1 := sm_st (a := 0) (b := k) (fun j a b => (hz j a b).1) ⟨by omega, hk, by omega⟩
  rw [sm_0] at h1; omega
theorem mv_ok {y : Int → Int} {k a b : Int} (hk : 0 ≤ k) (hy : ∀ j, 0 ≤ j → j < k → 1 ≤ y j ∧ y j ≤ 4) (ha : 0 ≤ a ∧ a < k) (hb : 0 ≤ b ∧ b < k) (hn : a ≠ b) (h3 : y b ≤ 3) :
    (0 ≤ mvK y k a ∧ mvK y k a ≤ k) ∧ (∀ j, 0 ≤ j → j < mvK y k a → 1 ≤ mvZ y a b j ∧ mvZ y a b j ≤ 4) ∧ sm (mvZ y a b) (mvK y k a) = sm y k := by
  have hya := hy a ha.1 ha.2
  have hyb := hy b hb.1 hb.2
  have e1 : mvz y a b a = y a - 1 := by unfold mvz; rw [uI_n _ _ hn, uI_s]
  have hs : sm (mvz y a b) k = sm y k := by
    unfold mvz
    rw [sm_u _ _ hb.1 hk, sm_u _ _ ha.1 hk, if_pos ha.2, if_pos hb.2, uI_n _ _ (Ne.symm hn)]; omega
  have hm : ∀ j, 0 ≤ j → j < k → j ≠ a → 1 ≤ mvz y a b j ∧ mvz y a b j ≤ 4 := by
    intro j h1 h2 h4
    have hyj := hy j h1 h2
    unfold mvz
    by_cases h5 : j = b
    · rw [h5, uI_s]; omega
    · rw [uI_n _ _ h5, uI_n _ _ h4]; exact hyj
  by_cases h0 : y a - 1 = 0
  · have eK : mvK y k a = k - 1 := if_pos h0
    have eZ : mvZ y a b = del (mvz y a b) a := if_pos h0
    rw [eK, eZ]
    refine ⟨by omega, fun j h1 h2 => ?_, ?_⟩
    · show 1 ≤ (if j < a then mvz y a b j else mvz y a b (j + 1)) ∧ (if j < a then mvz y a b j else mvz y a b (j + 1)) ≤ 4
      by_cases h4 : j < a
      · rw [if_pos h4]; exact hm j h1 (by omega) (by omega)
      · rw [if_neg h4]; exact hm (j + 1) (by omega) (by omega) (by omega)
    · rw [sm_d _ ha.1 (by omega), e1]
      by_cases h4 : k - 1 ≤ a
      · rw [if_pos h4]
        have h5 := sm_s (mvz y a b) (p := k - 1) (by omega)
        rw [show k - 1 + 1 = k by omega, show k - 1 = a by omega, e1, hs] at h5
        rw [show k - 1 = a by omega]; omega
      · rw [if_neg h4, show k - 1 + 1 = k by omega, hs]; omega
  · have eK : mvK y k a = k := if_neg h0
    have eZ : mvZ y a b = mvz y a b := if_neg h0
    rw [eK, eZ]
    refine ⟨by omega, fun j h1 h2 => ?_, hs⟩
    by_cases h4 : j = a
    · rw [h4, e1]; omega
    · exact hm j h1 h2 h4
theorem bj_ok {y : Int → Int} {k p : Int} (hk : 1 < k) (hy : ∀ j, 0 ≤ j → j < k → 1 ≤ y j ∧ y j ≤ 4) (hp : 0 ≤ p ∧ p < k) (h1 : y p = 1) :
    (0 ≤ bjA y k p ∧ bjA y k p < k) ∧ (0 ≤ bjB y k p ∧ bjB y k p < k) ∧ bjA y k p ≠ bjB y k p ∧ y (bjB y k p) ≤ 3 := by
  unfold bjA bjB
  by_cases c1 : p + 1 < k ∧ 3 ≤ y (p + 1)
  · rw [if_pos c1, if_pos c1]; omega
  · rw [if_neg c1, if_neg c1]
    by_cases c2 : 0 < p ∧ 3 ≤ y (p - 1)
    · rw [if_pos c2, if_pos c2]; omega
    · rw [if_neg c2, if_neg c2]
      by_cases c3 : p + 1 < k
      · rw [if_pos c3]; omega
      · rw [if_neg c3]
        have h2 : 0 < p := by omega
        have h3 : ¬ 3 ≤ y (p - 1) := fun h => c2 ⟨h2, h⟩
        omega
theorem tk_ok {z : Int → Int} {k p : Int} (hz : ∀ j, 0 ≤ j → j < k → 1 ≤ z j ∧ z j ≤ 4) (hp : 0 ≤ p ∧ p < k) :
    (0 ≤ tkK z k p ∧ tkK z k p ≤ k) ∧ (∀ j, 0 ≤ j → j < tkK z k p → 1 ≤ tkZ z k p j ∧ tkZ z k p j ≤ 4) ∧ sm (tkZ z k p) (tkK z k p) = sm z k - 1 := by
  have hzp := hz p hp.1 hp.2
  have e1 : tk1 z p p = z p - 1 := uI_s _ _ _
  have e2 : ∀ j, j ≠ p → tk1 z p j = z j := fun j h => uI_n _ _ h
  have hs : sm (tk1 z p) k = sm z k - 1 := by
    unfold tk1
    rw [sm_u _ _ hp.1 (by omega), if_pos hp.2]; omega
  by_cases h0 : z p - 1 = 0
  · have eK : tkK z k p = k - 1 := if_pos h0
    have eZ : tkZ z k p = del (tk1 z p) p := if_pos h0
    rw [eK, eZ]
    refine ⟨by omega, fun j h1 h2 => ?_, ?_⟩
    · show 1 ≤ (if j < p then tk1 z p j else tk1 z p (j + 1)) ∧ (if j < p then tk1 z p j else tk1 z p (j + 1)) ≤ 4
      by_cases h4 : j < p
      · rw [if_pos h4, e2 j (by omega)]; exact hz j h1 (by omega)
      · rw [if_neg h4, e2 (j + 1) (by omega)]; exact hz (j + 1) (by omega) (by omega)
    · rw [sm_d _ hp.1 (by omega), e1]
      by_cases h4 : k - 1 ≤ p
      · rw [if_pos h4]
        have h5 := sm_s (tk1 z p) (p := k - 1) (by omega)
        rw [show k - 1 + 1 = k by omega, show k - 1 = p by omega, e1, hs] at h5
        rw [show k - 1 = p by omega]; omega
      · rw [if_neg h4, show k - 1 + 1 = k by omega, hs]; omega
  · have hy : ∀ j, 0 ≤ j → j < k → 1 ≤ tk1 z p j ∧ tk1 z p j ≤ 4 := by
      intro j h1 h2
      by_cases h4 : j = p
      · rw [h4, e1]; omega
      · rw [e2 j h4]; exact hz j h1 h2
    by_cases hc : z p - 1 = 1 ∧ 1 < k
    · have eK : tkK z k p = mvK (tk1 z p) k (bjA (tk1 z p) k p) := (if_neg h0).trans (if_pos hc)
      have eZ : tkZ z k p = mvZ (tk1 z p) (bjA (tk1 z p) k p) (bjB (tk1 z p) k p) := (if_neg h0).trans (if_pos hc)
      have hb := bj_ok hc.2 hy hp (by rw [e1]; exact hc.1)
      rw [eK, eZ, ← hs]
      exact mv_ok (by omega) hy hb.1 hb.2.1 hb.2.2.1 hb.2.2.2
    · have eK : tkK z k p = k := (if_neg h0).trans (if_neg hc)
      have eZ : tkZ z k p = tk1 z p := (if_neg h0).trans (if_neg hc)
      rw [eK, eZ]
      exact ⟨by omega, hy, hs⟩
theorem so_d {R : Rc} {n p : Int} (h : so R n) (hp : 0 ≤ p) : so (del R p) (n - 1) := by
  intro i j h1 h2 h3
  show (if i < p then R i else R (i + 1)) 0 < (if j < p then R j else R (j + 1)) 0
  by_cases c1 : i < p
  · rw [if_pos c1]
    by_cases c2 : j < p
    · rw [if_pos c2]; exact h i j h1 h2 (by omega)
    · rw [if_neg c2]; exact h i (j + 1) h1 (by omega) (by omega)
  · rw [if_neg c1, if_neg (by omega)]; exact h (i + 1) (j + 1) (by omega) (by omega) (by omega)
theorem Inv.take {σ : Sg} (h : Inv σ) {p : Int} (hp : 0 ≤ p ∧ p < gN σ) : Inv (oTake p σ) := by
  have hn := h.n; have hk := h.k; have hs := h.s
  have ht := tk_ok h.z1 (h.pgr hp)
  refine ⟨⟨by show 0 ≤ gN σ - 1; omega, by show gN σ - 1 ≤ 80; omega⟩, fun j h1 h2 => ?_, so_d h.so hp.1, ⟨ht.1.1, by have h3 := ht.1.2; show tkK _ _ _ ≤ 80; omega⟩, ht.2.1, ?_, h.t, ?_, h.w⟩
  · have h2 : j < gN σ - 1 := h2
    show (0 ≤ (if j < p then gR σ j else gR σ (j + 1)) 0 ∧ (if j < p then gR σ j else gR σ (j + 1)) 0 ≤ 999) ∧ (1 ≤ (if j < p then gR σ j else gR σ (j + 1)) 1 ∧ (if j < p then gR σ j else gR σ (j + 1)) 1 ≤ 10000) ∧ (0 ≤ (if j < p then gR σ j else gR σ (j + 1)) 2 ∧ (if j < p then gR σ j else gR σ (j + 1)) 2 ≤ 9) ∧ (0 ≤ (if j < p then gR σ j else gR σ (j + 1)) 3 ∧ (if j < p then gR σ j else gR σ (j + 1)) 3 ≤ 5000) ∧ (-1 ≤ (if j < p then gR σ j else gR σ (j + 1)) 4 ∧ (if j < p then gR σ j else gR σ (j + 1)) 4 ≤ 5000)
    by_cases c1 : j < p
    · rw [if_pos c1]; exact h.r j h1 (by omega)
    · rw [if_neg c1]; exact h.r (j + 1) (by omega) (by omega)
  · exact ht.2.2.trans (by rw [h.sm]; rfl)
  · show -1 ≤ (if _ ≤ gS σ then (-1 : Int) else gS σ) ∧ (if _ ≤ gS σ then (-1 : Int) else gS σ) ≤ 80
    split <;> omega
theorem Inv.add {σ : Sg} (h : Inv σ) (b : Bool) (v : Int) : Inv (oAdd b v σ) := h
theorem Inv.day {σ : Sg} (h : Inv σ) (ht : gT σ < 5000) : Inv (oDay σ) :=
  ⟨h.n, h.r, h.so, h.k, h.z1, h.sm, ⟨by have hq := h.t; show 0 ≤ gT σ + 1; omega, by show gT σ + 1 ≤ 5000; omega⟩, h.s, h.w⟩
theorem Inv.setS {σ : Sg} (h : Inv σ) {v : Int} (hv : -1 ≤ v ∧ v ≤ 80) : Inv (oSetS v σ) := ⟨h.n, h.r, h.so, h.k, h.z1, h.sm, h.t, hv, h.w⟩
theorem Inv.setW {σ : Sg} (h : Inv σ) {i v : Int} (hv : -1 ≤ v ∧ v ≤ 999) : Inv (oSetW (uI (gW σ) i v) σ) := by
  refine ⟨h.n, h.r, h.so, h.k, h.z1, h.sm, h.t, h.s, fun j h1 h2 => ?_⟩
  show -1 ≤ uI (gW σ) i v j ∧ uI (gW σ) i v j ≤ 999
  by_cases c : j = i
  · rw [c, uI_s]; exact hv
  · rw [uI_n _ _ c]; exact h.w j h1 h2
theorem Inv.setR {σ : Sg} (h : Inv σ) {i v : Int} (hv : -1 ≤ v ∧ v ≤ 5000) (hi : 0 ≤ i ∧ i < gN σ) : Inv (oSetR (uI (gR σ) i (uN (gR σ i) 4 v)) σ) := by
  have e0 : ∀ j, uI (gR σ) i (uN (gR σ i) 4 v) j 0 = gR σ j 0 := by
    intro j
    by_cases c : j = i
    · rw [c, uI_s]; rfl
    · rw [uI_n _ _ c]
  refine ⟨h.n, fun j h1 h2 => ?_, fun a b h1 h2 h3 => ?_, h.k, h.z1, h.sm, h.t, h.s, h.w⟩
  · have hr := h.r j h1 h2
    show (0 ≤ uI (gR σ) i (uN (gR σ i) 4 v) j 0 ∧ uI (gR σ) i (uN (gR σ i) 4 v) j 0 ≤ 999) ∧ (1 ≤ uI (gR σ) i (uN (gR σ i) 4 v) j 1 ∧ uI (gR σ) i (uN (gR σ i) 4 v) j 1 ≤ 10000) ∧ (0 ≤ uI (gR σ) i (uN (gR σ i) 4 v) j 2 ∧ uI (gR σ) i (uN (gR σ i) 4 v) j 2 ≤ 9) ∧ (0 ≤ uI (gR σ) i (uN (gR σ i) 4 v) j 3 ∧ uI (gR σ) i (uN (gR σ i) 4 v) j 3 ≤ 5000) ∧ (-1 ≤ uI (gR σ) i (uN (gR σ i) 4 v) j 4 ∧ uI (gR σ) i (uN (gR σ i) 4 v) j 4 ≤ 5000)
    by_cases c : j = i
    · subst c; rw [uI_s]; exact ⟨hr.1, hr.2.1, hr.2.2.1, hr.2.2.2.1, hv⟩
    · rw [uI_n _ _ c]; exact hr
  · show uI (gR σ) i (uN (gR σ i) 4 v) a 0 < uI (gR σ) i (uN (gR σ i) 4 v) b 0
    rw [e0, e0]; exact h.so a b h1 h2 h3
theorem Inv.mv {σ : Sg} (h : Inv σ) (h1 : gS σ + 1 < gK σ) (h0 : 0 ≤ gS σ) (h4 : ¬ 4 ≤ gZ σ (gS σ)) : Inv (oMv σ) := by
  have hk := h.k
  have hm := mv_ok (a := gS σ + 1) (b := gS σ) h.k.1 h.z1 (by omega) (by omega) (by omega) (by omega)
  exact ⟨h.n, h.r, h.so, ⟨hm.1.1, by have h3 := hm.1.2; show mvK _ _ _ ≤ 80; omega⟩, hm.2.1, hm.2.2.trans h.sm, h.t, h.s, h.w⟩
theorem Inv.sw {σ : Sg} (h : Inv σ) (h0 : 0 ≤ gS σ) : Inv (oSw σ).2 := by
  unfold oSw
  have hk := h.k
  by_cases c1 : gS σ + 1 < gK σ
  · rw [if_pos c1]
    by_cases c2 : 4 ≤ gZ σ (gS σ)
    · rw [if_pos c2]; exact h.setS (by omega)
    · rw [if_neg c2]; exact h.mv c1 h0 c2
  · rw [if_neg c1]; exact h.setS (by omega)
theorem Inv.steps : ∀ (d : Nat) {σ : Sg}, Inv σ → Inv (oSteps d σ).2
  | 0, _, h => h
  | d + 1, σ, h => by
    show Inv (if gS σ = -1 then ((0 : Int), σ) else ((oSw σ).1 + (oSteps d (oSw σ).2).1, (oSteps d (oSw σ).2).2)).2
    by_cases c : gS σ = -1
    · rw [if_pos c]; exact h
    · rw [if_neg c]
      have hs := h.s
      exact Inv.steps d (h.sw (by omega))
theorem Inv.loop {P : (Nat → Int) → Bool} {b : Bool} : ∀ (m : Nat) {p : Int} {σ : Sg}, Inv σ → 0 ≤ p → p + m = gN σ → Inv (oLoop P b m p σ).2
  | 0, _, _, h, _, _ => h
  | m + 1, p, σ, h, h0, h1 => by
    show Inv (if P (gR σ p) = true then ((oLoop P b m p (oTake p (oAdd b (gR σ p 1) σ))).1 + 1, (oLoop P b m p (oTake p (oAdd b (gR σ p 1) σ))).2) else oLoop P b m (p + 1) σ).2
    by_cases c : P (gR σ p) = true
    · rw [if_pos c]
      exact Inv.loop m ((h.add b (gR σ p 1)).take (p := p) ⟨h0, by show p < gN σ; omega⟩) h0 (by show p + (m : Int) = gN σ - 1; omega)
    · rw [if_neg c]
      exact Inv.loop m h (by omega) (by omega)
theorem loop_T {P : (Nat → Int) → Bool} {b : Bool} : ∀ (m : Nat) {p : Int} {σ : Sg}, gT (oLoop P b m p σ).2 = gT σ
  | 0, _, _ => rfl
  | m + 1, p, σ => by
    show gT (if P (gR σ p) = true then ((oLoop P b m p (oTake p (oAdd b (gR σ p 1) σ))).1 + 1, (oLoop P b m p (oTake p (oAdd b (gR σ p 1) σ))).2) else oLoop P b m (p + 1) σ).2 = _
    by_cases c : P (gR σ p) = true
    · rw [if_pos c]; exact (loop_T m).trans rfl
    · rw [if_neg c]; exact loop_T m
theorem Inv.ov {σ : Sg} (h : Inv σ) : Inv (oOv σ).2 := by
  have hn := h.n
  exact Inv.loop _ h (by omega) (by omega)
theorem Inv.days : ∀ (d : Nat) {σ : Sg}, Inv σ → gT σ + d ≤ 5000 → Inv (oDays d σ).2
  | 0, _, h, _ => h
  | d + 1, σ, h, ht => Inv.days d (h.day (by omega)).ov (by
      have h3 : gT (oOv (oDay σ)).2 = gT σ + 1 := (loop_T _).trans rfl
      rw [h3]; omega)
theorem pp1_r {p n : Int} (hp : 0 ≤ p ∧ p ≤ n) (hn : 1 ≤ n) : 0 ≤ pp1 p ∧ pp1 p < n := by
  unfold pp1
  by_cases c : 1 ≤ p
  · rw [if_pos c]; omega
  · rw [if_neg c]; omega
/-- a page of 4 split: its sums, its sizes -/
theorem sp_ok {z : Int → Int} {k q : Int} (hz : ∀ j, 0 ≤ j → j < k → 1 ≤ z j ∧ z j ≤ 4) (hq : 0 ≤ q ∧ q < k) (h4 : 4 ≤ z q) :
    (∀ j, 0 ≤ j → j < k + 1 → 1 ≤ uI (ins z (q + 1) 2) q (z q - 2) j ∧ uI (ins z (q + 1) 2) q (z q - 2) j ≤ 4) ∧ sm (uI (ins z (q + 1) 2) q (z q - 2)) (k + 1) = sm z k ∧ sm (uI (ins z (q + 1) 2) q (z q - 2)) q = sm z q ∧ uI (ins z (q + 1) 2) q (z q - 2) q = 2 ∧ uI (ins z (q + 1) 2) q (z q - 2) (q + 1) = 2 := by
  have hzq := hz q hq.1 hq.2
  have e0 : ins z (q + 1) 2 q = z q := if_pos (by omega)
  have e1 : ins z (q + 1) 2 (q + 1) = 2 := (if_neg (by omega)).trans (if_pos rfl)
  refine ⟨fun j h1 h2 => ?_, ?_, ?_, ?_, ?_⟩
  · by_cases c : j = q
    · rw [c, uI_s]; omega
    · rw [uI_n _ _ c]
      show 1 ≤ (if j < q + 1 then z j else if j = q + 1 then 2 else z (j - 1)) ∧ (if j < q + 1 then z j else if j = q + 1 then 2 else z (j - 1)) ≤ 4
      by_cases c1 : j < q + 1
      · rw [if_pos c1]; exact hz j h1 (by omega)
      · rw [if_neg c1]
        by_cases c2 : j = q + 1
        · rw [if_pos c2]; omega
        · rw [if_neg c2]; exact hz (j - 1) (by omega) (by omega)
  · rw [sm_u _ _ hq.1 (by omega), if_pos (by omega), e0, sm_i _ _ (by omega) (by omega), if_neg (by omega), show k + 1 - 1 = k by omega]; omega
  · rw [sm_u _ _ hq.1 hq.1, if_neg (by omega), sm_i _ _ (by omega) hq.1, if_pos (by omega)]; omega
  · rw [uI_s]; omega
  · rw [uI_n _ _ (by omega), e1]
theorem inv_ins {σ : Sg} (h : Inv σ) {nu su sy : Int} (hnu : 0 ≤ nu ∧ nu ≤ 999) (hsu : 1 ≤ su ∧ su ≤ 10000) (hsy : 0 ≤ sy ∧ sy ≤ 9) (hf : qF nu σ = -1) (hn : gN σ < 80) : Inv (oIns nu su sy σ) := by
  have hn0 := h.n; have hk := h.k; have ht := h.t
  have hcu := cu_is (gR σ) (n := gN σ) nu hn0.1
  generalize hp : cu (gR σ) (gN σ) nu = p at hcu
  obtain ⟨hp0, hp1, hp2, hp3⟩ := hcu
  have hne : ∀ j, 0 ≤ j → j < gN σ → gR σ j 0 ≠ nu := by
    rcases fd_or (R := gR σ) (n := gN σ) (v := nu) with h1 | h1
    · exact absurd hf (by have h2 := h1.1; show fd (gR σ) (gN σ) nu ≠ -1; omega)
    · exact h1.2
  -- the pages
  have hpg : (0 ≤ adK (spK (gZ σ) (gK σ) p) ∧ adK (spK (gZ σ) (gK σ) p) ≤ 80) ∧ (∀ j, 0 ≤ j → j < adK (spK (gZ σ) (gK σ) p) → 1 ≤ adZ (spZ (gZ σ) (gK σ) p) (spK (gZ σ) (gK σ) p) p j ∧ adZ (spZ (gZ σ) (gK σ) p) (spK (gZ σ) (gK σ) p) p j ≤ 4) ∧ sm (adZ (spZ (gZ σ) (gK σ) p) (spK (gZ σ) (gK σ) p) p) (adK (spK (gZ σ) (gK σ) p)) = gN σ + 1 := by
    have hkn := k_le hk.1 h.z1
    rw [h.sm] at hkn
    by_cases c0 : gK σ = 0
    · have eK : spK (gZ σ) (gK σ) p = 0 := (if_neg (by omega)).trans c0
      have eZ : spZ (gZ σ) (gK σ) p = gZ σ := if_neg (by omega)
      have hs0 : gN σ = 0 := by rw [← h.sm, c0, sm_0]
      have eA : adK 0 = 1 := if_pos rfl
      have eB : adZ (gZ σ) 0 p = uI (gZ σ) 0 1 := if_pos rfl
      rw [eK, eZ, eA, eB]
      refine ⟨by omega, fun j h1 h2 => ?_, ?_⟩
      · have e : j = 0 := by omega
        rw [e, uI_s]; omega
      · rw [show (1 : Int) = 0 + 1 by omega, sm_s _ (by omega), sm_0, uI_s]; omega
    · have hpr := pp1_r (n := gN σ) ⟨hp0, hp1⟩ (by omega)
      have hq := h.pg hpr
      generalize hqe : pw (gZ σ) (gK σ) (pp1 p) = q at hq
      have key : ∀ (z1 : Int → Int) (k1 : Int), 0 < k1 → (∀ j, 0 ≤ j → j < k1 → 1 ≤ z1 j ∧ z1 j ≤ 4) → sm z1 k1 = gN σ → (isPg z1 k1 (pp1 p) (pw z1 k1 (pp1 p)) → z1 (pw z1 k1 (pp1 p)) ≤ 3) → (0 ≤ adK k1 ∧ adK k1 ≤ 80) ∧ (∀ j, 0 ≤ j → j < adK k1 → 1 ≤ adZ z1 k1 p j ∧ adZ z1 k1 p j ≤ 4) ∧ sm (adZ z1 k1 p) (adK k1) = gN σ + 1 := by
        intro z1 k1 h1 h2 h3 h4
        have hq1 := pw_is (z := z1) (k := k1) (fun j a b => by have h9 := h2 j a b; omega) (by omega) (p := pp1 p) (by rw [h3]; exact hpr)
        have h5 := h4 hq1
        have eA : adK k1 = k1 := if_neg (by omega)
        have eB : adZ z1 k1 p = uI z1 (pw z1 k1 (pp1 p)) (z1 (pw z1 k1 (pp1 p)) + 1) := if_neg (by omega)
        rw [eA, eB]
        generalize pw z1 k1 (pp1 p) = q1 at hq1 h5
        have h6 := h2 q1 hq1.1 hq1.2.1
        have h7 : ∀ j, 0 ≤ j → j < k1 → 1 ≤ uI z1 q1 (z1 q1 + 1) j ∧ uI z1 q1 (z1 q1 + 1) j ≤ 4 := by
          intro j a b
          by_cases c : j = q1
          · rw [c, uI_s]; omega
          · rw [uI_n _ _ c]; exact h2 j a b
        have h8 : sm (uI z1 q1 (z1 q1 + 1)) k1 = gN σ + 1 := by rw [sm_u _ _ hq1.1 (by omega), if_pos hq1.2.1, h3]; omega
        have h9 := k_le (by omega) h7
        exact ⟨by omega, h7, h8⟩
      by_cases c4 : 4 ≤ gZ σ q
      · have eK : spK (gZ σ) (gK σ) p = gK σ + 1 := if_pos (by rw [hqe]; exact ⟨by omega, c4⟩)
        have eZ : spZ (gZ σ) (gK σ) p = uI (ins (gZ σ) (q + 1) 2) q (gZ σ q - 2) := by
          have e9 : spZ (gZ σ) (gK σ) p = uI (ins (gZ σ) (pw (gZ σ) (gK σ) (pp1 p) + 1) 2) (pw (gZ σ) (gK σ) (pp1 p)) (gZ σ (pw (gZ σ) (gK σ) (pp1 p)) - 2) := if_pos (by rw [hqe]; exact ⟨by omega, c4⟩)
          rw [e9, hqe]
        obtain ⟨s1, s2, s3, s4, s5⟩ := sp_ok h.z1 ⟨hq.1, hq.2.1⟩ c4
        rw [eK, eZ]
        refine key _ _ (by omega) s1 (s2.trans h.sm) (fun hq1 => ?_)
        have hlo := isPg_lo hq
        have hqa := hq.1; have hqb := hq.2.1; have hqc := hq.2.2.1
        have hzq := h.z1 q hq.1 hq.2.1
        have hhi := hq.2.2.2.1
        rw [sm_s _ hq.1] at hhi
        generalize hze : uI (ins (gZ σ) (q + 1) 2) q (gZ σ q - 2) = z1 at hq1 s1 s2 s3 s4 s5
        generalize pw z1 (gK σ + 1) (pp1 p) = q1 at hq1
        have b1 : sm z1 (q + 1) = sm (gZ σ) q + 2 := by rw [sm_s _ hq.1, s3, s4]
        have b2 : sm z1 (q + 1 + 1) = sm (gZ σ) q + 4 := by rw [sm_s _ (by omega), b1, s5]; omega
        by_cases c5 : pp1 p < sm z1 (q + 1)
        · have e : q1 = q := isPg_u hq1 ⟨hq.1, by omega, hq.2.2.1, c5, fun j a b => by
            have h9 := sm_mo (z := z1) (k := gK σ + 1) (a := j + 1) (b := q) (fun j a b => by have h9 := s1 j a b; omega) (by omega)
            omega⟩
          rw [e, s4]; omega
        · have e : q1 = q + 1 := isPg_u hq1 ⟨by omega, by omega, hq.2.2.1, by omega, fun j a b => by
            have h9 := sm_mo (z := z1) (k := gK σ + 1) (a := j + 1) (b := q + 1) (fun j a b => by have h9 := s1 j a b; omega) (by omega)
            omega⟩
          rw [e, s5]; omega
      · have eK : spK (gZ σ) (gK σ) p = gK σ := if_neg (by rw [hqe]; omega)
        have eZ : spZ (gZ σ) (gK σ) p = gZ σ := if_neg (by rw [hqe]; omega)
        rw [eK, eZ]
        exact key _ _ (by omega) h.z1 h.sm (fun _ => by rw [hqe]; omega)
  unfold oIns
  rw [hp]
  refine ⟨⟨by show 0 ≤ gN σ + 1; omega, by show gN σ + 1 ≤ 80; omega⟩, fun j h1 h2 => ?_, fun i j h1 h2 h3 => ?_, hpg.1, hpg.2.1, hpg.2.2, h.t, h.s, h.w⟩
  · have h2 : j < gN σ + 1 := h2
    have key : ∀ g : Nat → Int, ins (gR σ) p (nR nu su sy (gT σ)) j = g → ((0 ≤ g 0 ∧ g 0 ≤ 999) ∧ (1 ≤ g 1 ∧ g 1 ≤ 10000) ∧ (0 ≤ g 2 ∧ g 2 ≤ 9) ∧ (0 ≤ g 3 ∧ g 3 ≤ 5000) ∧ (-1 ≤ g 4 ∧ g 4 ≤ 5000)) := by
      intro g hg
      have hg : (if j < p then gR σ j else if j = p then nR nu su sy (gT σ) else gR σ (j - 1)) = g := hg
      by_cases c1 : j < p
      · rw [if_pos c1] at hg; rw [← hg]; exact h.r j h1 (by omega)
      · rw [if_neg c1] at hg
        by_cases c2 : j = p
        · rw [if_pos c2] at hg; rw [← hg]; exact ⟨hnu, hsu, hsy, ht, by show (-1 : Int) ≤ -1; omega, by show (-1 : Int) ≤ 5000; omega⟩
        · rw [if_neg c2] at hg; rw [← hg]; exact h.r (j - 1) (by omega) (by omega)
    exact key _ rfl
  · have h3 : j < gN σ + 1 := h3
    show (if i < p then gR σ i else if i = p then nR nu su sy (gT σ) else gR σ (i - 1)) 0 < (if j < p then gR σ j else if j = p then nR nu su sy (gT σ) else gR σ (j - 1)) 0
    have so := h.so
    by_cases c1 : i < p
    · rw [if_pos c1]
      by_cases c2 : j < p
      · rw [if_pos c2]; exact so i j h1 h2 (by omega)
      · rw [if_neg c2]
        by_cases c3 : j = p
        · rw [if_pos c3]
          have a1 := hp2 i h1 c1; have a2 := hne i h1 (by omega)
          show gR σ i 0 < nu
          omega
        · rw [if_neg c3]; exact so i (j - 1) h1 (by omega) (by omega)
    · rw [if_neg c1]
      by_cases c3 : i = p
      · rw [if_pos c3, if_neg (by omega), if_neg (by omega)]
        have a1 := hp3 (by omega)
        have a2 := so.le (i := p) (j := j - 1) hp0 (by omega) (by omega)
        show nu < gR σ (j - 1) 0
        omega
      · rw [if_neg c3, if_neg (by omega), if_neg (by omega)]; exact so (i - 1) (j - 1) (by omega) (by omega) (by omega)
