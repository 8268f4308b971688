/-! the register as numbers: sums of pages, rows, what is done to them -/
theorem up_i {P : Int → Prop} (h0 : P 0) (hs : ∀ p, 0 ≤ p → P p → P (p + 1)) {p : Int} (h : 0 ≤ p) : P p := by
  have h2 : ∀ n : Nat, P (n : Int) := by
    intro n
    induction n with
    | zero => exact h0
    | succ n ih =>
      have h9 := hs (n : Int) (by omega) ih
      rw [show ((n + 1 : Nat) : Int) = (n : Int) + 1 by omega]
      exact h9
  have h3 := h2 p.toNat
  rw [show ((p.toNat : Nat) : Int) = p by omega] at h3
  exact h3
def smN (z : Int → Int) : Nat → Int | 0 => 0 | n + 1 => smN z n + z (n : Int)
def sm (z : Int → Int) (p : Int) : Int := smN z p.toNat
theorem sm_0 (z : Int → Int) : sm z 0 = 0 := rfl
theorem sm_s (z : Int → Int) {p : Int} (h : 0 ≤ p) : sm z (p + 1) = sm z p + z p := by
  have e : (p + 1).toNat = p.toNat + 1 := by omega
  show smN z (p + 1).toNat = smN z p.toNat + z p
  rw [e]
  show smN z p.toNat + z ((p.toNat : Nat) : Int) = _
  rw [show ((p.toNat : Nat) : Int) = p by omega]
theorem sm_b {z : Int → Int} {k p : Int} (hz : ∀ j, 0 ≤ j → j < k → 0 ≤ z j ∧ z j ≤ 4) (h : 0 ≤ p ∧ p ≤ k) : 0 ≤ sm z p ∧ sm z p ≤ 4 * p := by
  refine up_i (P := fun p => p ≤ k → 0 ≤ sm z p ∧ sm z p ≤ 4 * p) (fun _ => by rw [sm_0]; omega) (fun q hq ih hk => ?_) h.1 h.2
  have h1 := ih (by omega)
  have h2 := hz q hq (by omega)
  rw [sm_s z hq]; omega
theorem sm_mo {z : Int → Int} {k a b : Int} (hz : ∀ j, 0 ≤ j → j < k → 0 ≤ z j) (h : 0 ≤ a ∧ a ≤ b ∧ b ≤ k) : sm z a ≤ sm z b := by
  have h9 : a ≤ b → b ≤ k → sm z a ≤ sm z b := up_i (P := fun p => a ≤ p → p ≤ k → sm z a ≤ sm z p) ?_ (fun q hq ih h1 h2 => ?_) (show 0 ≤ b by omega)
  · exact h9 h.2.1 h.2.2
  · intro h1 _
    by_cases e : a = 0
    · rw [e]; exact Int.le_refl _
    · omega
  · by_cases e : a = q + 1
    · rw [e]; exact Int.le_refl _
    · have h3 := ih (by omega) (by omega)
      have h4 := hz q hq (by omega)
      rw [sm_s z hq]; omega
theorem sm_st {z : Int → Int} {k a b : Int} (hz : ∀ j, 0 ≤ j → j < k → 1 ≤ z j) (h : 0 ≤ a ∧ a ≤ b ∧ b ≤ k) : sm z a + (b - a) ≤ sm z b := by
  have h9 : a ≤ b → b ≤ k → sm z a + (b - a) ≤ sm z b := up_i (P := fun p => a ≤ p → p ≤ k → sm z a + (p - a) ≤ sm z p) ?_ (fun q hq ih h1 h2 => ?_) (show 0 ≤ b by omega)
  · exact h9 h.2.1 h.2.2
  · intro h1 _
    by_cases e : a = 0
    · rw [e]; omega
    · omega
  · by_cases e : a = q + 1
    · rw [e]; omega
    · have h3 := ih (by omega) (by omega)
      have h4 := hz q hq (by omega)
      rw [sm_s z hq]; omega
theorem sm_cg {z y : Int → Int} {p : Int} (hp : 0 ≤ p) (h : ∀ j, 0 ≤ j → j < p → z j = y j) : sm z p = sm y p := by
  refine up_i (P := fun q => q ≤ p → sm z q = sm y q) (fun _ => by rw [sm_0, sm_0]) (fun q hq ih hk => ?_) hp (Int.le_refl p)
  rw [sm_s z hq, sm_s y hq, ih (by omega), h q hq (by omega)]
def del {α : Type} (z : Int → α) (p : Int) : Int → α := fun j => if j < p then z j else z (j + 1)
def ins {α : Type} (z : Int → α) (p : Int) (v : α) : Int → α := fun j => if j < p then z j else if j = p then v else z (j - 1)
theorem sm_u (z : Int → Int) {i : Int} (v : Int) (hi : 0 ≤ i) {p : Int} (hp : 0 ≤ p) : sm (uI z i v) p = sm z p + (if i < p then v - z i else 0) := by
  refine up_i (P := fun p => sm (uI z i v) p = sm z p + (if i < p then v - z i else 0)) (by rw [sm_0, sm_0, if_neg (by omega)]; omega) (fun q hq ih => ?_) hp
  rw [sm_s _ hq, sm_s z hq, ih]
  by_cases h1 : q = i
  · subst h1; rw [uI_s, if_neg (by omega), if_pos (by omega)]; omega
  · rw [uI_n _ _ h1]
    by_cases h2 : i < q
    · rw [if_pos h2, if_pos (by omega)]; omega
    · rw [if_neg h2, if_neg (by omega)]; omega
theorem sm_d (z : Int → Int) {i : Int} (hi : 0 ≤ i) {p : Int} (hp : 0 ≤ p) : sm (del z i) p = if p ≤ i then sm z p else sm z (p + 1) - z i := by
  refine up_i (P := fun p => sm (del z i) p = if p ≤ i then sm z p else sm z (p + 1) - z i) (by rw [sm_0, sm_0, if_pos hi]) (fun q hq ih => ?_) hp
  rw [sm_s _ hq, ih]
  by_cases h1 : q < i
  · rw [if_pos (by omega), if_pos (by omega), sm_s z hq]
    show _ + (if q < i then z q else z (q + 1)) = _
    rw [if_pos h1]
  · rw [if_neg (by omega : ¬ q + 1 ≤ i), sm_s z (show 0 ≤ q + 1 by omega)]
    show _ + (if q < i then z q else z (q + 1)) = _
    rw [if_neg h1]
    by_cases h2 : q = i
    · subst h2; rw [if_pos (by omega), sm_s z hq]; omega
    · rw [if_neg (by omega)]; omega
theorem sm_i (z : Int → Int) {i : Int} (v : Int) (hi : 0 ≤ i) {p : Int} (hp : 0 ≤ p) : sm (ins z i v) p = if p ≤ i then sm z p else sm z (p - 1) + v := by
  refine up_i (P := fun p => sm (ins z i v) p = if p ≤ i then sm z p else sm z (p - 1) + v) (by rw [sm_0, sm_0, if_pos hi]) (fun q hq ih => ?_) hp
  rw [sm_s _ hq, ih]
  show _ + (if q < i then z q else if q = i then v else z (q - 1)) = _
  by_cases h1 : q < i
  · rw [if_pos (by omega), if_pos h1, if_pos (by omega), sm_s z hq]
  · rw [if_neg h1, if_neg (by omega : ¬ q + 1 ≤ i), show q + 1 - 1 = q by omega]
    by_cases h2 : q = i
    · rw [if_pos h2, if_pos (by omega)]
    · rw [if_neg h2, if_neg (by omega)]
      have h3 := sm_s z (show 0 ≤ q - 1 by omega)
      rw [show q - 1 + 1 = q by omega] at h3
      omega
/-! which page a place is on; where a case would go; where it is -/
def isPg (z : Int → Int) (k p q : Int) : Prop := 0 ≤ q ∧ q < k ∧ 0 ≤ p ∧ p < sm z (q + 1) ∧ ∀ j, 0 ≤ j → j < q → sm z (j + 1) ≤ p
noncomputable def pw (z : Int → Int) (k p : Int) : Int := @dite Int (∃ q, isPg z k p q) (Classical.propDecidable _) (fun h => Classical.choose h) (fun _ => -1)
theorem isPg_u {z : Int → Int} {k p q r : Int} (h : isPg z k p q) (g : isPg z k p r) : q = r := by
  obtain ⟨h1, h2, h3, h4, h5⟩ := h
  obtain ⟨g1, g2, g3, g4, g5⟩ := g
  by_cases h6 : q < r
  · have h7 := g5 q h1 h6; omega
  · by_cases h8 : r < q
    · have h7 := h5 r g1 h8; omega
    · omega
theorem pw_eq {z : Int → Int} {k p q : Int} (h : isPg z k p q) : pw z k p = q := by
  have e : ∃ q, isPg z k p q := ⟨q, h⟩
  unfold pw
  rw [dif_pos e]
  exact isPg_u (Classical.choose_spec e) h
theorem pw_no {z : Int → Int} {k p : Int} (h : ∀ q, ¬ isPg z k p q) : pw z k p = -1 := by
  unfold pw
  rw [dif_neg (fun e => e.elim h)]
theorem pg_ex {z : Int → Int} {k p : Int} (hz : ∀ j, 0 ≤ j → j < k → 0 ≤ z j) (hk : 0 ≤ k) (hp : 0 ≤ p ∧ p < sm z k) : ∃ q, isPg z k p q := by
  have h9 := up_i (P := fun r => r ≤ k → p < sm z r → ∃ q, isPg z r p q) (fun _ h => by rw [sm_0] at h; omega) (fun r hr ih hk h => ?_) hk
  · exact h9 (Int.le_refl k) hp.2
  · by_cases h1 : p < sm z r
    · obtain ⟨q, a, b, c, d, e⟩ := ih (by omega) h1
      exact ⟨q, a, by omega, c, d, e⟩
    · refine ⟨r, hr, by omega, hp.1, h, fun j h2 h3 => ?_⟩
      have h4 := sm_mo (k := k) hz (a := j + 1) (b := r) (by omega)
      omega
theorem pw_is {z : Int → Int} {k p : Int} (hz : ∀ j, 0 ≤ j → j < k → 0 ≤ z j) (hk : 0 ≤ k) (hp : 0 ≤ p ∧ p < sm z k) : isPg z k p (pw z k p) := by
  obtain ⟨q, h⟩ := pg_ex hz hk hp
  rw [pw_eq h]; exact h
theorem isPg_lo {z : Int → Int} {k p q : Int} (h : isPg z k p q) : sm z q ≤ p := by
  obtain ⟨h1, h2, h3, h4, h5⟩ := h
  by_cases h6 : q = 0
  · rw [h6, sm_0]; exact h3
  · have h7 := h5 (q - 1) (by omega) (by omega)
    rw [show q - 1 + 1 = q by omega] at h7; exact h7
abbrev Rc : Type := Int → Nat → Int
def isCu (R : Rc) (n v p : Int) : Prop := 0 ≤ p ∧ p ≤ n ∧ (∀ j, 0 ≤ j → j < p → R j 0 ≤ v) ∧ (p < n → v < R p 0)
noncomputable def cu (R : Rc) (n v : Int) : Int := @dite Int (∃ q, isCu R n v q) (Classical.propDecidable _) (fun h => Classical.choose h) (fun _ => 0)
theorem isCu_u {R : Rc} {n v q r : Int} (h : isCu R n v q) (g : isCu R n v r) : q = r := by
  obtain ⟨h1, h2, h3, h4⟩ := h
  obtain ⟨g1, g2, g3, g4⟩ := g
  by_cases h6 : q < r
  · have h7 := g3 q h1 h6; have h8 := h4 (by omega); omega
  · by_cases h8 : r < q
    · have h7 := h3 r g1 h8; have h8 := g4 (by omega); omega
    · omega
theorem cu_eq {R : Rc} {n v q : Int} (h : isCu R n v q) : cu R n v = q := by
  have e : ∃ q, isCu R n v q := ⟨q, h⟩
  unfold cu
  rw [dif_pos e]
  exact isCu_u (Classical.choose_spec e) h
theorem cu_ex (R : Rc) {n : Int} (v : Int) (hn : 0 ≤ n) : ∃ q, isCu R n v q := by
  refine up_i (P := fun r => ∃ q, isCu R r v q) ⟨0, by omega, by omega, fun j h1 h2 => by omega, fun h => by omega⟩ (fun r hr ih => ?_) hn
  obtain ⟨q, a, b, c, d⟩ := ih
  by_cases h1 : q < r
  · exact ⟨q, a, by omega, c, fun _ => d h1⟩
  · have h2 : q = r := by omega
    subst h2
    by_cases h3 : R q 0 ≤ v
    · refine ⟨q + 1, by omega, by omega, fun j h4 h5 => ?_, fun h => by omega⟩
      by_cases h6 : j = q
      · rw [h6]; exact h3
      · exact c j h4 (by omega)
    · exact ⟨q, a, by omega, c, fun _ => by omega⟩
theorem cu_is (R : Rc) {n : Int} (v : Int) (hn : 0 ≤ n) : isCu R n v (cu R n v) := by
  obtain ⟨q, h⟩ := cu_ex R v hn
  rw [cu_eq h]; exact h
def so (R : Rc) (n : Int) : Prop := ∀ i j, 0 ≤ i → i < j → j < n → R i 0 < R j 0
theorem so.le {R : Rc} {n : Int} (h : so R n) {i j : Int} (h1 : 0 ≤ i) (h2 : i ≤ j) (h3 : j < n) : R i 0 ≤ R j 0 := by
  by_cases e : i = j
  · rw [e]; exact Int.le_refl _
  · have h4 := h i j h1 (by omega) h3; omega
theorem so.inj {R : Rc} {n : Int} (h : so R n) {i j : Int} (h1 : 0 ≤ i ∧ i < n) (h2 : 0 ≤ j ∧ j < n) (h3 : R i 0 = R j 0) : i = j := by
  by_cases e : i < j
  · have h4 := h i j h1.1 e h2.2; omega
  · by_cases e2 : j < i
    · have h4 := h j i h2.1 e2 h1.2; omega
    · omega
def isFd (R : Rc) (n v j : Int) : Prop := 0 ≤ j ∧ j < n ∧ R j 0 = v
noncomputable def fd (R : Rc) (n v : Int) : Int := @dite Int (∃ q, isFd R n v q) (Classical.propDecidable _) (fun h => Classical.choose h) (fun _ => -1)
theorem fd_eq {R : Rc} {n v q : Int} (hs : so R n) (h : isFd R n v q) : fd R n v = q := by
  have e : ∃ q, isFd R n v q := ⟨q, h⟩
  unfold fd
  rw [dif_pos e]
  have g := Classical.choose_spec e
  exact hs.inj ⟨g.1, g.2.1⟩ ⟨h.1, h.2.1⟩ (g.2.2.trans h.2.2.symm)
theorem fd_no {R : Rc} {n v : Int} (h : ∀ j, 0 ≤ j → j < n → R j 0 ≠ v) : fd R n v = -1 := by
  unfold fd
  rw [dif_neg (fun e => e.elim (fun j q => h j q.1 q.2.1 q.2.2))]
theorem fd_or {R : Rc} {n v : Int} : isFd R n v (fd R n v) ∨ (fd R n v = -1 ∧ ∀ j, 0 ≤ j → j < n → R j 0 ≠ v) := by
  by_cases e : ∃ q, isFd R n v q
  · left
    unfold fd
    rw [dif_pos e]
    exact Classical.choose_spec e
  · exact Or.inr ⟨fd_no (fun j a b c => e ⟨j, a, b, c⟩), fun j a b c => e ⟨j, a, b, c⟩⟩
theorem fd_rg {R : Rc} {n v : Int} (hn : 0 ≤ n) : -1 ≤ fd R n v ∧ fd R n v < n + 1 := by
  rcases fd_or (R := R) (n := n) (v := v) with h | h
  · have := h.1; have := h.2.1; omega
  · omega
theorem fd_in {R : Rc} {n v : Int} (h : fd R n v ≠ -1) : 0 ≤ fd R n v ∧ fd R n v < n ∧ R (fd R n v) 0 = v := by
  rcases fd_or (R := R) (n := n) (v := v) with g | g
  · exact g
  · exact absurd g.1 h
/-- where 'cu' stands, a case is or isn't -/
theorem cu_fd {R : Rc} {n v p : Int} (hs : so R n) (h : isCu R n v p) : (1 ≤ p ∧ R (p - 1) 0 = v ∧ fd R n v = p - 1) ∨ ((p = 0 ∨ R (p - 1) 0 ≠ v) ∧ fd R n v = -1) := by
  obtain ⟨h1, h2, h3, h4⟩ := h
  by_cases e : 1 ≤ p ∧ R (p - 1) 0 = v
  · exact Or.inl ⟨e.1, e.2, fd_eq hs ⟨by omega, by omega, e.2⟩⟩
  · refine Or.inr ⟨?_, fd_no (fun j a b c => ?_)⟩
    · by_cases q : p = 0
      · exact Or.inl q
      · exact Or.inr (fun c => e ⟨by omega, c⟩)
    · by_cases q : j < p
      · have h5 := hs.le (i := j) (j := p - 1) a (by omega) (by omega)
        have h6 := h3 (p - 1) (by omega) (by omega)
        exact e ⟨by omega, by omega⟩
      · have h5 := hs.le (i := p) (j := j) h1 (by omega) b
        have h6 := h4 (by omega)
        omega
def hsN (R : Rc) (s : Int) : Nat → Int | 0 => 0 | n + 1 => hsN R s n + if R (n : Int) 2 = s then R (n : Int) 1 else 0
def hs (R : Rc) (s n : Int) : Int := hsN R s n.toNat
theorem hs_0 (R : Rc) (s : Int) : hs R s 0 = 0 := rfl
theorem hs_s (R : Rc) (s : Int) {p : Int} (h : 0 ≤ p) : hs R s (p + 1) = hs R s p + if R p 2 = s then R p 1 else 0 := by
  have e : (p + 1).toNat = p.toNat + 1 := by omega
  show hsN R s (p + 1).toNat = hsN R s p.toNat + _
  rw [e]
  show hsN R s p.toNat + (if R ((p.toNat : Nat) : Int) 2 = s then R ((p.toNat : Nat) : Int) 1 else 0) = _
  rw [show ((p.toNat : Nat) : Int) = p by omega]
/-! moves of records between pages -/
def mvz (z : Int → Int) (a b : Int) : Int → Int := uI (uI z a (z a - 1)) b (z b + 1)
def mvK (z : Int → Int) (k a : Int) : Int := if z a - 1 = 0 then k - 1 else k
def mvZ (z : Int → Int) (a b : Int) : Int → Int := if z a - 1 = 0 then del (mvz z a b) a else mvz z a b
def bjA (z : Int → Int) (k p : Int) : Int := if p + 1 < k ∧ 3 ≤ z (p + 1) then p + 1 else if 0 < p ∧ 3 ≤ z (p - 1) then p - 1 else p
def bjB (z : Int → Int) (k p : Int) : Int := if p + 1 < k ∧ 3 ≤ z (p + 1) then p else if 0 < p ∧ 3 ≤ z (p - 1) then p else if p + 1 < k then p + 1 else p - 1
def tk1 (z : Int → Int) (p : Int) : Int → Int := uI z p (z p - 1)
def tkK (z : Int → Int) (k p : Int) : Int := if z p - 1 = 0 then k - 1 else if z p - 1 = 1 ∧ 1 < k then mvK (tk1 z p) k (bjA (tk1 z p) k p) else k
def tkZ (z : Int → Int) (k p : Int) : Int → Int := if z p - 1 = 0 then del (tk1 z p) p else if z p - 1 = 1 ∧ 1 < k then mvZ (tk1 z p) (bjA (tk1 z p) k p) (bjB (tk1 z p) k p) else tk1 z p
def pp1 (p : Int) : Int := if 1 ≤ p then p - 1 else 0
noncomputable def spK (z : Int → Int) (k p : Int) : Int := if 0 < k ∧ 4 ≤ z (pw z k (pp1 p)) then k + 1 else k
noncomputable def spZ (z : Int → Int) (k p : Int) : Int → Int := if 0 < k ∧ 4 ≤ z (pw z k (pp1 p)) then uI (ins z (pw z k (pp1 p) + 1) 2) (pw z k (pp1 p)) (z (pw z k (pp1 p)) - 2) else z
def adK (k : Int) : Int := if k = 0 then 1 else k
noncomputable def adZ (z : Int → Int) (k p : Int) : Int → Int := if k = 0 then uI z 0 1 else uI z (pw z k (pp1 p)) (z (pw z k (pp1 p)) + 1)
def nR (a b c d : Int) : Nat → Int := fun i => match i with | 0 => a | 1 => b | 2 => c | 3 => d | _ => -1
def uN (g : Nat → Int) (i : Nat) (v : Int) : Nat → Int := fun j => if j = i then v else g j
/-- the register: how many records, the records, how many pages, their sizes, today, what was kept, what was paid back, the sweep, the readers -/
abbrev Sg : Type := Int × Rc × Int × (Int → Int) × Int × Int × Int × Int × (Int → Int)
def gN (σ : Sg) : Int := σ.1
def gR (σ : Sg) : Rc := σ.2.1
def gK (σ : Sg) : Int := σ.2.2.1
def gZ (σ : Sg) : Int → Int := σ.2.2.2.1
def gT (σ : Sg) : Int := σ.2.2.2.2.1
def gP (σ : Sg) : Int := σ.2.2.2.2.2.1
def gB (σ : Sg) : Int := σ.2.2.2.2.2.2.1
def gS (σ : Sg) : Int := σ.2.2.2.2.2.2.2.1
def gW (σ : Sg) : Int → Int := σ.2.2.2.2.2.2.2.2
def Inv (σ : Sg) : Prop :=
  (0 ≤ gN σ ∧ gN σ ≤ 80) ∧ (∀ j, 0 ≤ j → j < gN σ → (0 ≤ gR σ j 0 ∧ gR σ j 0 ≤ 999) ∧ (1 ≤ gR σ j 1 ∧ gR σ j 1 ≤ 10000) ∧ (0 ≤ gR σ j 2 ∧ gR σ j 2 ≤ 9) ∧ (0 ≤ gR σ j 3 ∧ gR σ j 3 ≤ 5000) ∧ (-1 ≤ gR σ j 4 ∧ gR σ j 4 ≤ 5000)) ∧
  so (gR σ) (gN σ) ∧ (0 ≤ gK σ ∧ gK σ ≤ 80) ∧ (∀ j, 0 ≤ j → j < gK σ → 1 ≤ gZ σ j ∧ gZ σ j ≤ 4) ∧ sm (gZ σ) (gK σ) = gN σ ∧ (0 ≤ gT σ ∧ gT σ ≤ 5000) ∧ (-1 ≤ gS σ ∧ gS σ ≤ 80) ∧ (∀ j, 0 ≤ j → j < 4 → -1 ≤ gW σ j ∧ gW σ j ≤ 999)
noncomputable def oTake (p : Int) (σ : Sg) : Sg :=
  (gN σ - 1, del (gR σ) p, tkK (gZ σ) (gK σ) (pw (gZ σ) (gK σ) p), tkZ (gZ σ) (gK σ) (pw (gZ σ) (gK σ) p), gT σ, gP σ, gB σ, if tkK (gZ σ) (gK σ) (pw (gZ σ) (gK σ) p) ≤ gS σ then -1 else gS σ, gW σ)
def oAdd (b : Bool) (v : Int) (σ : Sg) : Sg := (gN σ, gR σ, gK σ, gZ σ, gT σ, if b = true then gP σ + v else gP σ, if b = true then gB σ else gB σ + v, gS σ, gW σ)
/-- taking out, from a place on, all records of a kind: m are left to be looked at -/
noncomputable def oLoop (P : (Nat → Int) → Bool) (b : Bool) : Nat → Int → Sg → Int × Sg
  | 0, _, σ => (0, σ)
  | m + 1, p, σ => if P (gR σ p) = true then ((oLoop P b m p (oTake p (oAdd b (gR σ p 1) σ))).1 + 1, (oLoop P b m p (oTake p (oAdd b (gR σ p 1) σ))).2) else oLoop P b m (p + 1) σ
def amP (su dy : Int) (r : Nat → Int) : Bool := decide (r 4 = -1 ∧ r 1 ≤ su ∧ r 3 ≤ dy)
def ovP (t : Int) (r : Nat → Int) : Bool := decide (r 4 ≠ -1 ∧ t > r 4 + 14)
def oDay (σ : Sg) : Sg := (gN σ, gR σ, gK σ, gZ σ, gT σ + 1, gP σ, gB σ, gS σ, gW σ)
noncomputable def oOv (σ : Sg) : Int × Sg := oLoop (ovP (gT σ)) true (gN σ).toNat 0 σ
noncomputable def oDays : Nat → Sg → Int × Sg
  | 0, σ => (0, σ)
  | d + 1, σ => ((oOv (oDay σ)).1 + (oDays d (oOv (oDay σ)).2).1, (oDays d (oOv (oDay σ)).2).2)
def oSetS (v : Int) (σ : Sg) : Sg := (gN σ, gR σ, gK σ, gZ σ, gT σ, gP σ, gB σ, v, gW σ)
def oMv (σ : Sg) : Sg := (gN σ, gR σ, mvK (gZ σ) (gK σ) (gS σ + 1), mvZ (gZ σ) (gS σ + 1) (gS σ), gT σ, gP σ, gB σ, gS σ, gW σ)
/-- one step of the sweep: 1 if it moves a record -/
def oSw (σ : Sg) : Int × Sg := if gS σ + 1 < gK σ then (if 4 ≤ gZ σ (gS σ) then (0, oSetS (gS σ + 1) σ) else (1, oMv σ)) else (0, oSetS (-1) σ)
def oSteps : Nat → Sg → Int × Sg
  | 0, σ => (0, σ)
  | d + 1, σ => if gS σ = -1 then (0, σ) else ((oSw σ).1 + (oSteps d (oSw σ).2).1, (oSteps d (oSw σ).2).2)
def oSetR (R : Rc) (σ : Sg) : Sg := (gN σ, R, gK σ, gZ σ, gT σ, gP σ, gB σ, gS σ, gW σ)
def oSetW (w : Int → Int) (σ : Sg) : Sg := (gN σ, gR σ, gK σ, gZ σ, gT σ, gP σ, gB σ, gS σ, w)
noncomputable def oIns (nu su sy : Int) (σ : Sg) : Sg :=
  (gN σ + 1, ins (gR σ) (cu (gR σ) (gN σ) nu) (nR nu su sy (gT σ)), adK (spK (gZ σ) (gK σ) (cu (gR σ) (gN σ) nu)), adZ (spZ (gZ σ) (gK σ) (cu (gR σ) (gN σ) nu)) (spK (gZ σ) (gK σ) (cu (gR σ) (gN σ) nu)) (cu (gR σ) (gN σ) nu), gT σ, gP σ, gB σ, gS σ, gW σ)
/-! the calls: (the place of what is thrown, or 0; the answer; the register then) -/
def isC (nu : Int) : Prop := 0 ≤ nu ∧ nu ≤ 999
noncomputable def qF (nu : Int) (σ : Sg) : Int := fd (gR σ) (gN σ) nu
noncomputable def oPut (nu su sy : Int) (σ : Sg) : Int × Int × Sg :=
  if 0 ≤ nu ∧ nu ≤ 999 ∧ 1 ≤ su ∧ su ≤ 10000 ∧ 0 ≤ sy ∧ sy ≤ 9 then (if qF nu σ ≠ -1 ∨ 80 ≤ gN σ then (2, 0, σ) else (0, gK (oIns nu su sy σ), oIns nu su sy σ)) else (1, 0, σ)
noncomputable def oPay (nu : Int) (σ : Sg) : Int × Int × Sg :=
  if 0 ≤ nu ∧ nu ≤ 999 then (if qF nu σ = -1 ∨ gR σ (qF nu σ) 4 ≠ -1 then (2, 0, σ) else (0, gR σ (qF nu σ) 1, oTake (qF nu σ) (oAdd false (gR σ (qF nu σ) 1) σ))) else (1, 0, σ)
noncomputable def oFor (nu : Int) (σ : Sg) : Int × Int × Sg :=
  if 0 ≤ nu ∧ nu ≤ 999 then (if qF nu σ = -1 ∨ gR σ (qF nu σ) 4 ≠ -1 then (2, 0, σ) else (0, 0, oSetR (uI (gR σ) (qF nu σ) (uN (gR σ (qF nu σ)) 4 (gT σ))) σ)) else (1, 0, σ)
noncomputable def oUnd (nu : Int) (σ : Sg) : Int × Int × Sg :=
  if 0 ≤ nu ∧ nu ≤ 999 then (if qF nu σ = -1 ∨ gR σ (qF nu σ) 4 = -1 then (2, 0, σ) else (0, gT σ - gR σ (qF nu σ) 4, oSetR (uI (gR σ) (qF nu σ) (uN (gR σ (qF nu σ)) 4 (-1))) σ)) else (1, 0, σ)
noncomputable def oAmn (su dy : Int) (σ : Sg) : Int × Int × Sg :=
  if 1 ≤ su ∧ su ≤ 10000 ∧ 0 ≤ dy ∧ dy ≤ gT σ then (0, (oLoop (amP su dy) false (gN σ).toNat 0 σ).1, (oLoop (amP su dy) false (gN σ).toNat 0 σ).2) else (1, 0, σ)
noncomputable def oSum (nu : Int) (σ : Sg) : Int × Int × Sg := if 0 ≤ nu ∧ nu ≤ 999 then (0, if qF nu σ = -1 then 0 else gR σ (qF nu σ) 1, σ) else (1, 0, σ)
noncomputable def oIsF (nu : Int) (σ : Sg) : Int × Int × Sg := if 0 ≤ nu ∧ nu ≤ 999 then (0, if qF nu σ = -1 ∨ gR σ (qF nu σ) 4 = -1 then 0 else 1, σ) else (1, 0, σ)
def oHel (sy : Int) (σ : Sg) : Int × Int × Sg := if 0 ≤ sy ∧ sy ≤ 9 then (0, hs (gR σ) sy (gN σ), σ) else (1, 0, σ)
noncomputable def oPas (d : Int) (σ : Sg) : Int × Int × Sg :=
  if 1 ≤ d ∧ d ≤ 100 then (if 5000 < gT σ + d then (2, 0, σ) else (0, (oDays d.toNat σ).1, (oDays d.toNat σ).2)) else (1, 0, σ)
def oSiz (pg : Int) (σ : Sg) : Int × Int × Sg := if 0 ≤ pg ∧ pg < gK σ then (0, gZ σ pg, σ) else (1, 0, σ)
def oAt (pg pl : Int) (σ : Sg) : Int × Int × Sg := if (0 ≤ pg ∧ pg < gK σ) ∧ 0 ≤ pl ∧ pl < gZ σ pg then (0, gR σ (sm (gZ σ) pg + pl) 0, σ) else (1, 0, σ)
noncomputable def oPgO (nu : Int) (σ : Sg) : Int × Int × Sg := if 0 ≤ nu ∧ nu ≤ 999 then (0, pw (gZ σ) (gK σ) (qF nu σ), σ) else (1, 0, σ)
def oSwe (σ : Sg) : Int × Int × Sg := if gS σ = -1 then (0, 0, oSetS 0 σ) else (1, 0, σ)
def oSte (d : Int) (σ : Sg) : Int × Int × Sg := if 1 ≤ d ∧ d ≤ 100 then (if gS σ = -1 then (2, 0, σ) else (0, (oSteps d.toNat σ).1, (oSteps d.toNat σ).2)) else (1, 0, σ)
noncomputable def wkV (rd : Int) (σ : Sg) : Int := if cu (gR σ) (gN σ) (gW σ rd) < gN σ then gR σ (cu (gR σ) (gN σ) (gW σ rd)) 0 else -1
noncomputable def oWal (rd : Int) (σ : Sg) : Int × Int × Sg := if 0 ≤ rd ∧ rd ≤ 3 then (0, wkV rd σ, oSetW (uI (gW σ) rd (wkV rd σ)) σ) else (1, 0, σ)
