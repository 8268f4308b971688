/-! the calls of the register once more: what they answer, how it grows; walks, sums, sweeps -/
/-! what is thrown changes nothing -/
theorem o3k {c1 c2 : Prop} [Decidable c1] [Decidable c2] {v : Int} {τ σ : Sg} (h : (if c1 then (if c2 then ((2 : Int), (0 : Int), σ) else (0, v, τ)) else (1, 0, σ)).1 ≠ 0) : (if c1 then (if c2 then ((2 : Int), (0 : Int), σ) else (0, v, τ)) else (1, 0, σ)).2.2 = σ := by
  by_cases a : c1
  · by_cases b : c2
    · rw [if_pos a, if_pos b]
    · rw [if_pos a, if_neg b] at h; exact absurd rfl h
  · rw [if_neg a]
theorem o2k {c1 : Prop} [Decidable c1] {v : Int} {τ σ : Sg} (h : (if c1 then ((0 : Int), v, τ) else (1, 0, σ)).1 ≠ 0) : (if c1 then ((0 : Int), v, τ) else (1, 0, σ)).2.2 = σ := by
  by_cases a : c1
  · rw [if_pos a] at h; exact absurd rfl h
  · rw [if_neg a]
theorem o2n {c1 : Prop} [Decidable c1] {v : Int} {τ σ : Sg} (h : (if c1 then ((0 : Int), v, τ) else (1, 0, σ)).1 = 2) : False := by
  by_cases a : c1
  · rw [if_pos a] at h; exact absurd h (by show ¬ (0 : Int) = 2; decide)
  · rw [if_neg a] at h; exact absurd h (by show ¬ (1 : Int) = 2; decide)

/-- an answer as the law says it -/
def tv (o : Int × Int × Sg) : Int := if o.1 = 0 then o.2.1 else -99999
theorem tv_0 {o : Int × Int × Sg} (h : o.1 = 0) : tv o = o.2.1 := if_pos h
theorem tv_t {o : Int × Int × Sg} (h : o.1 ≠ 0) : tv o = -99999 := if_neg h
/-- what throws leaves the register; a register it stays; the answer is no -99999; at most one record more -/
def good (σ : Sg) (o : Int × Int × Sg) : Prop := (o.1 = 0 ∨ o.2.2 = σ) ∧ Inv o.2.2 ∧ (-6000 ≤ o.2.1 ∧ o.2.1 ≤ 100000) ∧ gN o.2.2 ≤ gN σ + 1
theorem gd_3 {c1 c2 : Prop} [Decidable c1] [Decidable c2] {v : Int} {τ σ : Sg} (hI : Inv σ) (h : c1 → ¬ c2 → Inv τ ∧ (-6000 ≤ v ∧ v ≤ 100000) ∧ gN τ ≤ gN σ + 1) : good σ (if c1 then (if c2 then ((2 : Int), (0 : Int), σ) else (0, v, τ)) else (1, 0, σ)) := by
  by_cases a : c1
  · by_cases b : c2
    · rw [if_pos a, if_pos b]; exact ⟨Or.inr rfl, hI, (by decide : (-6000 : Int) ≤ 0 ∧ (0 : Int) ≤ 100000), (by show gN σ ≤ gN σ + 1; omega)⟩
    · rw [if_pos a, if_neg b]; exact ⟨Or.inl rfl, h a b⟩
  · rw [if_neg a]; exact ⟨Or.inr rfl, hI, (by decide : (-6000 : Int) ≤ 0 ∧ (0 : Int) ≤ 100000), (by show gN σ ≤ gN σ + 1; omega)⟩
theorem gd_2 {c1 : Prop} [Decidable c1] {v : Int} {τ σ : Sg} (hI : Inv σ) (h : c1 → Inv τ ∧ (-6000 ≤ v ∧ v ≤ 100000) ∧ gN τ ≤ gN σ + 1) : good σ (if c1 then ((0 : Int), v, τ) else (1, 0, σ)) := by
  by_cases a : c1
  · rw [if_pos a]; exact ⟨Or.inl rfl, h a⟩
  · rw [if_neg a]; exact ⟨Or.inr rfl, hI, (by decide : (-6000 : Int) ≤ 0 ∧ (0 : Int) ≤ 100000), (by show gN σ ≤ gN σ + 1; omega)⟩
theorem loop_b {P : (Nat → Int) → Bool} {b : Bool} : ∀ (m : Nat) {p : Int} {σ : Sg}, (0 ≤ (oLoop P b m p σ).1 ∧ (oLoop P b m p σ).1 ≤ m) ∧ gN (oLoop P b m p σ).2 ≤ gN σ
  | 0, _, σ => ⟨⟨Int.le_refl 0, Int.le_refl 0⟩, Int.le_refl (gN σ)⟩
  | m + 1, p, σ => by
    by_cases c : P (gR σ p) = true
    · rw [oLoop_t c]
      have h1 := loop_b (P := P) (b := b) m (p := p) (σ := oTake p (oAdd b (gR σ p 1) σ))
      have h2 : gN (oTake p (oAdd b (gR σ p 1) σ)) = gN σ - 1 := rfl
      rw [h2] at h1
      refine ⟨⟨?_, ?_⟩, ?_⟩
      · show 0 ≤ _ + (1 : Int); omega
      · show _ + (1 : Int) ≤ ((m + 1 : Nat) : Int); omega
      · show gN (oLoop P b m p (oTake p (oAdd b (gR σ p 1) σ))).2 ≤ gN σ; omega
    · rw [oLoop_f (by cases hb : P (gR σ p); rfl; exact absurd hb c)]
      have h1 := loop_b (P := P) (b := b) m (p := p + 1) (σ := σ)
      omega
theorem ov_b (σ : Sg) (hn : 0 ≤ gN σ) : (0 ≤ (oOv σ).1 ∧ (oOv σ).1 ≤ gN σ) ∧ gN (oOv σ).2 ≤ gN σ := by
  have h1 := loop_b (P := ovP (gT σ)) (b := true) (gN σ).toNat (p := 0) (σ := σ)
  have h2 : oOv σ = oLoop (ovP (gT σ)) true (gN σ).toNat 0 σ := rfl
  rw [← h2] at h1
  omega
theorem days_b : ∀ (d : Nat) {σ : Sg}, Inv σ → gT σ + d ≤ 5000 → (0 ≤ (oDays d σ).1 ∧ (oDays d σ).1 ≤ 80 * (d : Int)) ∧ gN (oDays d σ).2 ≤ gN σ
  | 0, σ, _, _ => ⟨⟨Int.le_refl 0, Int.le_refl 0⟩, Int.le_refl (gN σ)⟩
  | d + 1, σ, h, ht => by
    have hd := h.day (by omega)
    have h1 := ov_b (oDay σ) hd.n.1
    have h9 := hd.n
    have h3 : gT (oOv (oDay σ)).2 = gT σ + 1 := (loop_T _).trans rfl
    have h2 := days_b d hd.ov (by rw [h3]; omega)
    have h4 : gN (oDay σ) = gN σ := rfl
    refine ⟨⟨?_, ?_⟩, ?_⟩
    · show 0 ≤ (oOv (oDay σ)).1 + (oDays d (oOv (oDay σ)).2).1; omega
    · show (oOv (oDay σ)).1 + (oDays d (oOv (oDay σ)).2).1 ≤ 80 * ((d + 1 : Nat) : Int); omega
    · show gN (oDays d (oOv (oDay σ)).2).2 ≤ gN σ; omega
theorem sw_b (σ : Sg) : (0 ≤ (oSw σ).1 ∧ (oSw σ).1 ≤ 1) ∧ gN (oSw σ).2 = gN σ := by
  unfold oSw
  by_cases c1 : gS σ + 1 < gK σ
  · rw [if_pos c1]
    by_cases c2 : 4 ≤ gZ σ (gS σ)
    · rw [if_pos c2]; exact ⟨(by decide : (0 : Int) ≤ 0 ∧ (0 : Int) ≤ 1), rfl⟩
    · rw [if_neg c2]; exact ⟨(by decide : (0 : Int) ≤ 1 ∧ (1 : Int) ≤ 1), rfl⟩
  · rw [if_neg c1]; exact ⟨(by decide : (0 : Int) ≤ 0 ∧ (0 : Int) ≤ 1), rfl⟩
theorem steps_b : ∀ (d : Nat) {σ : Sg}, (0 ≤ (oSteps d σ).1 ∧ (oSteps d σ).1 ≤ d) ∧ gN (oSteps d σ).2 = gN σ
  | 0, σ => ⟨⟨Int.le_refl 0, Int.le_refl 0⟩, rfl⟩
  | d + 1, σ => by
    by_cases c : gS σ = -1
    · rw [oSteps_0 c]; exact ⟨⟨Int.le_refl 0, by show (0 : Int) ≤ ((d + 1 : Nat) : Int); omega⟩, rfl⟩
    · rw [oSteps_n c]
      have h1 := sw_b σ
      have h2 := steps_b d (σ := (oSw σ).2)
      refine ⟨⟨?_, ?_⟩, ?_⟩
      · show 0 ≤ (oSw σ).1 + (oSteps d (oSw σ).2).1; omega
      · show (oSw σ).1 + (oSteps d (oSw σ).2).1 ≤ ((d + 1 : Nat) : Int); omega
      · show gN (oSteps d (oSw σ).2).2 = gN σ; omega
section GOOD
variable {σ : Sg}
theorem qf_in {nu9 : Int} (h : ¬ qF nu9 σ = -1) : 0 ≤ qF nu9 σ ∧ qF nu9 σ < gN σ := ⟨(fd_in h).1, (fd_in h).2.1⟩
theorem wkV_b (hI : Inv σ) (rd : Int) : -1 ≤ wkV rd σ ∧ wkV rd σ ≤ 999 := by
  unfold wkV
  by_cases h9 : cu (gR σ) (gN σ) (gW σ rd) < gN σ
  · rw [if_pos h9]
    have h8 := cu_is (gR σ) (n := gN σ) (gW σ rd) hI.n.1
    have h7 := hI.r0 _ h8.1 h9; omega
  · rw [if_neg h9]; omega
theorem oPut_g (hI : Inv σ) (nu su sy : Int) : good σ (oPut nu su sy σ) := gd_3 hI (fun a b => by
  have h2 : Inv (oIns nu su sy σ) := inv_ins hI (by omega) (by omega) (by omega) (Classical.byContradiction fun h9 => b (Or.inl h9)) (by
    by_cases h9 : 80 ≤ gN σ
    · exact absurd (Or.inr h9) b
    · omega)
  have h3 := h2.k
  exact ⟨h2, by omega, Int.le_refl (gN σ + 1)⟩)
theorem oPay_g (hI : Inv σ) (nu : Int) : good σ (oPay nu σ) := gd_3 hI (fun a b => by
  have hq := qf_in (σ := σ) (nu9 := nu) (fun h9 => b (Or.inl h9))
  have h3 := (hI.r _ hq.1 hq.2).2.1
  exact ⟨Inv.take (hI.add false _) hq, by omega, by show gN σ - 1 ≤ gN σ + 1; omega⟩)
theorem oFor_g (hI : Inv σ) (nu : Int) : good σ (oFor nu σ) := gd_3 hI (fun a b => by
  have hq := qf_in (σ := σ) (nu9 := nu) (fun h9 => b (Or.inl h9))
  exact ⟨hI.setR (by have h9 := hI.t; omega) hq, by decide, by show gN σ ≤ gN σ + 1; omega⟩)
theorem oUnd_g (hI : Inv σ) (nu : Int) : good σ (oUnd nu σ) := gd_3 hI (fun a b => by
  have hq := qf_in (σ := σ) (nu9 := nu) (fun h9 => b (Or.inl h9))
  have h3 := (hI.r _ hq.1 hq.2).2.2.2.2
  have h4 := hI.t
  exact ⟨hI.setR (by omega) hq, by omega, by show gN σ ≤ gN σ + 1; omega⟩)
theorem oAmn_g (hI : Inv σ) (su dy : Int) : good σ (oAmn su dy σ) := gd_2 hI (fun a => by
  have h1 := loop_b (P := amP su dy) (b := false) (gN σ).toNat (p := 0) (σ := σ)
  have h2 := hI.n
  exact ⟨Inv.loop _ hI (by omega) (by omega), by omega, by omega⟩)
theorem oPas_g (hI : Inv σ) (d : Int) : good σ (oPas d σ) := gd_3 hI (fun a b => by
  have h1 := days_b d.toNat hI (by omega)
  exact ⟨Inv.days _ hI (by omega), by omega, by omega⟩)
theorem oSwe_g (hI : Inv σ) : good σ (oSwe σ) := gd_2 hI (fun _ => ⟨hI.setS (by omega), by decide, by show gN σ ≤ gN σ + 1; omega⟩)
theorem oSte_g (hI : Inv σ) (d : Int) : good σ (oSte d σ) := gd_3 hI (fun a b => by
  have h1 := steps_b d.toNat (σ := σ)
  exact ⟨Inv.steps _ hI, by omega, by omega⟩)
theorem oWal_g (hI : Inv σ) (rd : Int) : good σ (oWal rd σ) := gd_2 hI (fun a => by
  have h1 := wkV_b hI rd
  exact ⟨hI.setW h1, by omega, by show gN σ ≤ gN σ + 1; omega⟩)
theorem oFor_0 (nu : Int) : (oFor nu σ).2.1 = 0 := by
  unfold oFor
  by_cases a : 0 ≤ nu ∧ nu ≤ 999
  · rw [if_pos a]
    by_cases b : qF nu σ = -1 ∨ gR σ (qF nu σ) 4 ≠ -1
    · rw [if_pos b]
    · rw [if_neg b]
  · rw [if_neg a]
theorem oSwe_0 : (oSwe σ).2.1 = 0 := by
  unfold oSwe
  by_cases a : gS σ = -1
  · rw [if_pos a]
  · rw [if_neg a]
end GOOD
/-! a walk -/
noncomputable def nx (σ : Sg) (wv : Int) : Int := if cu (gR σ) (gN σ) wv < gN σ then gR σ (cu (gR σ) (gN σ) wv) 0 else -1
def swk (rd wv : Int) (σ : Sg) : Sg := oSetW (uI (gW σ) rd wv) σ
theorem uI_same {α : Type} (g : Int → α) (i : Int) : uI g i (g i) = g := funext (fun j => by
  by_cases c : j = i
  · rw [c, uI_s]
  · rw [uI_n _ _ c])
theorem uI_twice {α : Type} (g : Int → α) (i : Int) (a b : α) : uI (uI g i a) i b = uI g i b := funext (fun j => by
  by_cases c : j = i
  · rw [c, uI_s, uI_s]
  · rw [uI_n _ _ c, uI_n _ _ c, uI_n _ _ c])
section WALK
variable {σ : Sg} {rd wv : Int}
theorem swk_self (rd : Int) (σ : Sg) : swk rd (gW σ rd) σ = σ := by
  unfold swk
  rw [uI_same]; rfl
theorem swk_V (rd wv : Int) (σ : Sg) : wkV rd (swk rd wv σ) = nx σ wv := by
  show (if cu (gR σ) (gN σ) (uI (gW σ) rd wv rd) < gN σ then gR σ (cu (gR σ) (gN σ) (uI (gW σ) rd wv rd)) 0 else -1) = nx σ wv
  rw [uI_s]; rfl
theorem swk_S (rd wv v : Int) (σ : Sg) : oSetW (uI (gW (swk rd wv σ)) rd v) (swk rd wv σ) = swk rd v σ := by
  show oSetW (uI (uI (gW σ) rd wv) rd v) σ = swk rd v σ
  rw [uI_twice]; rfl
theorem Inv.swk (hI : Inv σ) (hv : -1 ≤ wv ∧ wv ≤ 999) : Inv (swk rd wv σ) := hI.setW hv
theorem cu_at {R : Rc} {n c : Int} (hs : so R n) (h : 0 ≤ c ∧ c < n) : cu R n (R c 0) = c + 1 :=
  cu_eq ⟨by omega, by omega, fun j h1 h2 => hs.le h1 (by omega) h.2, fun h1 => hs c (c + 1) h.1 (by omega) h1⟩
theorem cu_m1 {R : Rc} {n : Int} (hn : 0 ≤ n) (h : ∀ j, 0 ≤ j → j < n → 0 ≤ R j 0) : cu R n (-1) = 0 :=
  cu_eq ⟨by omega, hn, fun j h1 h2 => by omega, fun h1 => by have h2 := h 0 (by omega) h1; omega⟩
theorem nx_b (hI : Inv σ) (wv : Int) : -1 ≤ nx σ wv ∧ nx σ wv ≤ 999 := by
  unfold nx
  by_cases h9 : cu (gR σ) (gN σ) wv < gN σ
  · rw [if_pos h9]
    have h8 := cu_is (gR σ) (n := gN σ) wv hI.n.1
    have h7 := hI.r0 _ h8.1 h9; omega
  · rw [if_neg h9]; omega
/-- the next record: its place, its case above the last one -/
theorem nx_in (hI : Inv σ) (h : cu (gR σ) (gN σ) wv < gN σ) : nx σ wv = gR σ (cu (gR σ) (gN σ) wv) 0 ∧ 0 ≤ nx σ wv ∧ wv < nx σ wv ∧ cu (gR σ) (gN σ) (nx σ wv) = cu (gR σ) (gN σ) wv + 1 ∧ qF (nx σ wv) σ = cu (gR σ) (gN σ) wv := by
  have h8 := cu_is (gR σ) (n := gN σ) wv hI.n.1
  have e : nx σ wv = gR σ (cu (gR σ) (gN σ) wv) 0 := if_pos h
  have h7 := hI.r0 _ h8.1 h
  rw [e]
  exact ⟨rfl, h7.1, h8.2.2.2 h, cu_at hI.so ⟨h8.1, h⟩, fd_eq hI.so ⟨h8.1, h, rfl⟩⟩
theorem nx_out (h : ¬ cu (gR σ) (gN σ) wv < gN σ) : nx σ wv = -1 := if_neg h
theorem nx_lt (hI : Inv σ) (h : 0 ≤ nx σ wv) : cu (gR σ) (gN σ) wv < gN σ := Classical.byContradiction (fun h9 => by rw [nx_out h9] at h; omega)
theorem cu_b (hI : Inv σ) (wv : Int) : 0 ≤ cu (gR σ) (gN σ) wv ∧ cu (gR σ) (gN σ) wv ≤ gN σ := by
  have h8 := cu_is (gR σ) (n := gN σ) wv hI.n.1
  exact ⟨h8.1, h8.2.1⟩
theorem cu_0 (hI : Inv σ) : cu (gR σ) (gN σ) (-1) = 0 := cu_m1 hI.n.1 (fun j a b => (hI.r0 j a b).1)
noncomputable def itr (σ : Sg) (wv : Int) : Nat → Int | 0 => wv | k + 1 => nx σ (itr σ wv k)
theorem itr_s (σ : Sg) (wv : Int) (k : Nat) : itr σ wv (k + 1) = nx σ (itr σ wv k) := rfl
theorem itr_b (hI : Inv σ) (h : -1 ≤ wv ∧ wv ≤ 999) : ∀ k, -1 ≤ itr σ wv k ∧ itr σ wv k ≤ 999
  | 0 => h
  | k + 1 => nx_b hI _
end WALK
/-! sums -/
def hd (R : Rc) (q : Int) : Int := sm (fun j => R j 1) q
def lst (R : Rc) (q : Int) : Int := if q = 0 then -1 else R (q - 1) 0
def al (R : Rc) (n t : Int) : Int := sm (fun s => hs R s n) t
theorem hd_0 (R : Rc) : hd R 0 = 0 := rfl
theorem hd_s (R : Rc) {q : Int} (h : 0 ≤ q) : hd R (q + 1) = hd R q + R q 1 := sm_s _ h
theorem lst_0 (R : Rc) : lst R 0 = -1 := rfl
theorem lst_s (R : Rc) {q : Int} (h : 0 ≤ q) : lst R (q + 1) = R q 0 := by
  unfold lst
  rw [if_neg (by omega), show q + 1 - 1 = q by omega]
theorem al_0 (R : Rc) (n : Int) : al R n 0 = 0 := rfl
theorem al_s (R : Rc) (n : Int) {t : Int} (h : 0 ≤ t) : al R n (t + 1) = al R n t + hs R t n := sm_s _ h
theorem sm_z {t : Int} (h : 0 ≤ t) : sm (fun _ => 0) t = 0 := up_i (P := fun t => sm (fun _ => 0) t = 0) (sm_0 _) (fun q hq ih => by rw [sm_s _ hq, ih]; rfl) h
theorem sm_ad (a : Int → Int) (c v : Int) {t : Int} (h : 0 ≤ t) : sm (fun s => a s + if c = s then v else 0) t = sm a t + if 0 ≤ c ∧ c < t then v else 0 := by
  refine up_i (P := fun t => sm (fun s => a s + if c = s then v else 0) t = sm a t + if 0 ≤ c ∧ c < t then v else 0) (by rw [sm_0, sm_0, if_neg (by omega)]; rfl) (fun q hq ih => ?_) h
  rw [sm_s _ hq, sm_s _ hq, ih]
  by_cases e : c = q
  · rw [if_pos e, if_neg (by omega), if_pos (by omega)]; omega
  · rw [if_neg e]
    by_cases e2 : 0 ≤ c ∧ c < q
    · rw [if_pos e2, if_pos (by omega)]; omega
    · rw [if_neg e2, if_neg (by omega)]; omega
/-- the sums by sureties make up all that is held -/
theorem al_10 {R : Rc} {n : Int} (hn : 0 ≤ n) (h : ∀ j, 0 ≤ j → j < n → 0 ≤ R j 2 ∧ R j 2 ≤ 9) : al R n 10 = hd R n := by
  refine up_i (P := fun p => p ≤ n → al R p 10 = hd R p) (fun _ => ?_) (fun q hq ih hk => ?_) hn (Int.le_refl n)
  · exact sm_z (by omega)
  · have h2 := h q hq (by omega)
    rw [hd_s R hq, ← ih (by omega)]
    have e : (fun s => hs R s (q + 1)) = fun s => hs R s q + if R q 2 = s then R q 1 else 0 := funext (fun s => hs_s R s hq)
    show sm (fun s => hs R s (q + 1)) 10 = _
    rw [e, sm_ad _ _ _ (by omega), if_pos (by omega)]; rfl
section PLACE
variable {σ : Sg} {pg pl : Int}
/-- a place of a page: which record it is -/
theorem pl_in (hI : Inv σ) (hp : 0 ≤ pg ∧ pg < gK σ) (hl : 0 ≤ pl ∧ pl < gZ σ pg) : (0 ≤ sm (gZ σ) pg + pl ∧ sm (gZ σ) pg + pl < gN σ) ∧ pw (gZ σ) (gK σ) (sm (gZ σ) pg + pl) = pg := by
  have h1 := sm_b hI.z4 (p := pg) (by omega)
  have h2 := sm_s (gZ σ) hp.1
  have h3 := sm_mo hI.z0 (a := pg + 1) (b := gK σ) (by omega)
  rw [hI.sm] at h3
  refine ⟨by omega, pw_eq ⟨hp.1, hp.2, by omega, by omega, fun j a b => ?_⟩⟩
  have h4 := sm_mo hI.z0 (a := j + 1) (b := pg) (by omega)
  omega
theorem qf_at (hI : Inv σ) {q : Int} (h : 0 ≤ q ∧ q < gN σ) : qF (gR σ q 0) σ = q := fd_eq hI.so ⟨h.1, h.2, rfl⟩
theorem lst_lt (hI : Inv σ) {q : Int} (h : 0 ≤ q ∧ q < gN σ) : lst (gR σ) q < gR σ q 0 := by
  unfold lst
  by_cases e : q = 0
  · have h1 := hI.r0 q h.1 h.2
    rw [if_pos e]; omega
  · rw [if_neg e]; exact hI.so (q - 1) q (by omega) (by omega) h.2
theorem lst_b (hI : Inv σ) {q : Int} (h : 0 ≤ q ∧ q ≤ gN σ) : -1 ≤ lst (gR σ) q ∧ lst (gR σ) q ≤ 999 := by
  unfold lst
  by_cases e : q = 0
  · rw [if_pos e]; omega
  · rw [if_neg e]
    have h1 := hI.r0 (q - 1) (by omega) (by omega); omega
theorem kn_0 (hI : Inv σ) : gK σ ≤ gN σ ∧ gN σ ≤ 4 * gK σ := by
  have h1 := k_le hI.k.1 hI.z1
  have h2 := sm_b hI.z4 (p := gK σ) ⟨hI.k.1, Int.le_refl _⟩
  rw [hI.sm] at h1 h2; omega
end PLACE
/-! a sweep to its end -/
def SW (fi : Int) (σ : Sg) : Prop := (gS σ = -1 → ∀ j, fi ≤ j → j + 1 < gK σ → gZ σ j = 4) ∧ (gS σ ≠ -1 → fi ≤ gS σ ∧ ∀ j, fi ≤ j → j < gS σ → j < gK σ → gZ σ j = 4)
def msr (σ : Sg) : Nat := if gS σ = -1 then 0 else if gS σ + 1 < gK σ then (5 * (gK σ - gS σ) + 4 - gZ σ (gS σ)).toNat + 2 else 1
theorem msr_1 {σ : Sg} (h : gS σ ≠ -1) : 1 ≤ msr σ := by
  unfold msr
  rw [if_neg h]
  by_cases c : gS σ + 1 < gK σ
  · rw [if_pos c]; omega
  · rw [if_neg c]; omega
theorem mv_at {z : Int → Int} {c j : Int} (hj : j ≤ c) : mvZ z (c + 1) c j = if j = c then z c + 1 else z j := by
  have e : mvz z (c + 1) c j = if j = c then z c + 1 else z j := by
    unfold mvz
    by_cases q : j = c
    · rw [if_pos q, q, uI_s]
    · rw [if_neg q, uI_n _ _ q, uI_n _ _ (by omega)]
  unfold mvZ
  by_cases q : z (c + 1) - 1 = 0
  · rw [if_pos q]
    show (if j < c + 1 then mvz z (c + 1) c j else _) = _
    rw [if_pos (by omega), e]
  · rw [if_neg q, e]
theorem mvK_b {z : Int → Int} {k a : Int} : mvK z k a ≤ k := by
  unfold mvK
  by_cases q : z a - 1 = 0
  · rw [if_pos q]; omega
  · rw [if_neg q]; omega
theorem sw_step {σ : Sg} {fi : Int} (hI : Inv σ) (h : SW fi σ) (h0 : gS σ ≠ -1) (hf : 0 ≤ fi) : SW fi (oSw σ).2 ∧ msr (oSw σ).2 < msr σ := by
  obtain ⟨h1, h2⟩ := h.2 h0
  have hs := hI.s
  by_cases c1 : gS σ + 1 < gK σ
  · have hz := hI.z1 (gS σ) (by omega) (by omega)
    have hm : msr σ = (5 * (gK σ - gS σ) + 4 - gZ σ (gS σ)).toNat + 2 := (if_neg h0).trans (if_pos c1)
    by_cases c2 : 4 ≤ gZ σ (gS σ)
    · have e : (oSw σ).2 = oSetS (gS σ + 1) σ := by unfold oSw; rw [if_pos c1, if_pos c2]
      rw [e]
      have eS : gS (oSetS (gS σ + 1) σ) = gS σ + 1 := rfl
      refine ⟨⟨fun h9 => by rw [eS] at h9; omega, fun _ => ⟨by rw [eS]; omega, fun j a b d => ?_⟩⟩, ?_⟩
      · have b : j < gS σ + 1 := b
        show gZ σ j = 4
        by_cases q : j = gS σ
        · rw [q]; omega
        · exact h2 j a (by omega) d
      · rw [hm]
        have hz2 := hI.z1 (gS σ + 1) (by omega) c1
        show (if gS σ + 1 = -1 then 0 else if gS σ + 1 + 1 < gK σ then (5 * (gK σ - (gS σ + 1)) + 4 - gZ σ (gS σ + 1)).toNat + 2 else 1) < _
        rw [if_neg (by omega)]
        by_cases c3 : gS σ + 1 + 1 < gK σ
        · rw [if_pos c3]; omega
        · rw [if_neg c3]; omega
    · have e : (oSw σ).2 = oMv σ := by unfold oSw; rw [if_pos c1, if_neg c2]
      rw [e]
      have hk := mvK_b (z := gZ σ) (k := gK σ) (a := gS σ + 1)
      refine ⟨⟨fun h9 => absurd h9 h0, fun _ => ⟨h1, fun j a b d => ?_⟩⟩, ?_⟩
      · have b : j < gS σ := b
        have d : j < mvK (gZ σ) (gK σ) (gS σ + 1) := d
        show mvZ (gZ σ) (gS σ + 1) (gS σ) j = 4
        rw [mv_at (by omega), if_neg (by omega)]
        exact h2 j a b (by omega)
      · rw [hm]
        show (if gS σ = -1 then 0 else if gS σ + 1 < mvK (gZ σ) (gK σ) (gS σ + 1) then (5 * (mvK (gZ σ) (gK σ) (gS σ + 1) - gS σ) + 4 - mvZ (gZ σ) (gS σ + 1) (gS σ) (gS σ)).toNat + 2 else 1) < _
        rw [if_neg h0, mv_at (Int.le_refl _), if_pos rfl]
        by_cases c3 : gS σ + 1 < mvK (gZ σ) (gK σ) (gS σ + 1)
        · rw [if_pos c3]; omega
        · rw [if_neg c3]; omega
  · have e : (oSw σ).2 = oSetS (-1) σ := by unfold oSw; rw [if_neg c1]
    rw [e]
    refine ⟨⟨fun _ j a b => ?_, fun h9 => absurd rfl h9⟩, ?_⟩
    · have b : j + 1 < gK σ := b
      exact h2 j a (by omega) (by omega)
    · have h9 := msr_1 h0
      show (if (-1 : Int) = -1 then 0 else _) < _
      rw [if_pos rfl]; omega
theorem sw_st {fi : Int} (hf : 0 ≤ fi) : ∀ (d : Nat) {σ : Sg}, Inv σ → SW fi σ → SW fi (oSteps d σ).2 ∧ msr (oSteps d σ).2 ≤ msr σ
  | 0, σ, _, h => ⟨h, Nat.le_refl _⟩
  | d + 1, σ, hI, h => by
    by_cases c : gS σ = -1
    · rw [oSteps_0 c]; exact ⟨h, Nat.le_refl _⟩
    · rw [oSteps_n c]
      have hs := hI.s
      have h1 := sw_step hI h c hf
      have h2 := sw_st hf d (hI.sw (by omega)) h1.1
      exact ⟨h2.1, Nat.le_trans h2.2 (Nat.le_of_lt h1.2)⟩
theorem sw_st1 {fi : Int} (hf : 0 ≤ fi) (d : Nat) {σ : Sg} (hI : Inv σ) (h : SW fi σ) (h0 : gS σ ≠ -1) : SW fi (oSteps (d + 1) σ).2 ∧ msr (oSteps (d + 1) σ).2 < msr σ := by
  have hs := hI.s
  have h1 := sw_step hI h h0 hf
  have h2 := sw_st hf d (hI.sw (by omega)) h1.1
  rw [oSteps_n h0]
  exact ⟨h2.1, Nat.lt_of_le_of_lt h2.2 h1.2⟩
/-! one turn of the law: what it calls -/
