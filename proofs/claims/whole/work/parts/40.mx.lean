/-! the reference's picture: its cells and the register that they stand for -/
def AD (A : Nat → Nat) : Prop := ∀ i j, i ∈ [2, 3, 4, 5, 6, 8, 13] → j ∈ [2, 3, 4, 5, 6, 8, 13] → A i = A j → i = j
theorem AD.ne {A : Nat → Nat} (h : AD A) {i j : Nat} (hi : i ∈ [2, 3, 4, 5, 6, 8, 13]) (hj : j ∈ [2, 3, 4, 5, 6, 8, 13]) (hn : i ≠ j) : A i ≠ A j := fun he => hn (h i j hi hj he)
def ML (cs : ClassId × ClassId × ClassId) (L : List Nat) (f : Nat → va_E) (m : Nat) (A : Nat → Nat) (t n k td kp pb sw : Int) (g : Nat → Int → Int) (zz ww : Int → Int) : Prop :=
  m ∈ L ∧ f m = .inr (4, [.int (iI t), .int (iI n), .ref (A 2), .ref (A 3), .ref (A 4), .ref (A 5), .ref (A 6), .int (iI k), .ref (A 8), .int (iI kp), .int (iI pb), .int (iI td), .int (iI sw), .ref (A 13)]) ∧ AD A ∧ (∀ c, c < 5 → A (c + 2) ∈ L ∧ f (A (c + 2)) = .inl (cs.1, 80, .inl (aI (g c)))) ∧ (A 8 ∈ L ∧ f (A 8) = .inl (cs.1, 80, .inl (aI zz))) ∧ (A 13 ∈ L ∧ f (A 13) = .inl (cs.1, 4, .inl (aI ww)))
def MX (cs : ClassId × ClassId × ClassId) (L : List Nat) (f : Nat → va_E) (m : Nat) (A : Nat → Nat) (t : Int) (σ : Sg) : Prop := ∃ g zz ww, ML cs L f m A t (gN σ) (gK σ) (gT σ) (gP σ) (gB σ) (gS σ) g zz ww ∧ (∀ j, 0 ≤ j → j < gN σ → ∀ c, c < 5 → g c j = gR σ j c) ∧ (∀ j, 0 ≤ j → j < gK σ → zz j = gZ σ j) ∧ (∀ j, 0 ≤ j → j < 4 → ww j = gW σ j)
def FM (f0 f1 : Nat → va_E) (m : Nat) (A : Nat → Nat) : Prop := ∀ a, a ≠ m → (∀ c, a ≠ A c) → f1 a = f0 a
def uG (g : Nat → Int → Int) (c : Nat) (i v : Int) : Nat → Int → Int := fun d => if d = c then uI (g c) i v else g d
theorem uG_s (g : Nat → Int → Int) (c : Nat) (i v : Int) : uG g c i v c = uI (g c) i v := if_pos rfl
theorem uG_n (g : Nat → Int → Int) {c d : Nat} (i v : Int) (h : d ≠ c) : uG g c i v d = g d := if_neg h
theorem FM.rf (f : Nat → va_E) (m : Nat) (A : Nat → Nat) : FM f f m A := fun _ _ _ => rfl
theorem FM.m {f0 f : Nat → va_E} {m : Nat} {A : Nat → Nat} {e : va_E} (h : FM f0 f m A) : FM f0 (va_up f m e) m A := fun a h1 h2 => (va_up_ne f e h1).trans (h a h1 h2)
theorem FM.a {f0 f : Nat → va_E} {m : Nat} {A : Nat → Nat} {e : va_E} (c : Nat) (h : FM f0 f m A) : FM f0 (va_up f (A c) e) m A := fun a h1 h2 => (va_up_ne f e (h2 c)).trans (h a h1 h2)
theorem FM.tr {f0 f f1 : Nat → va_E} {m : Nat} {A : Nat → Nat} (h : FM f0 f m A) (g : FM f f1 m A) : FM f0 f1 m A := fun a h1 h2 => (g a h1 h2).trans (h a h1 h2)
section MLS
variable {cs : ClassId × ClassId × ClassId} {L : List Nat} {f : Nat → va_E} {m : Nat} {A : Nat → Nat} {t n k td kp pb sw : Int} {g : Nat → Int → Int} {zz ww : Int → Int}
theorem ML.mm (h : ML cs L f m A t n k td kp pb sw g zz ww) : m ∈ L := h.1
theorem ML.fm (h : ML cs L f m A t n k td kp pb sw g zz ww) : f m = .inr (4, [.int (iI t), .int (iI n), .ref (A 2), .ref (A 3), .ref (A 4), .ref (A 5), .ref (A 6), .int (iI k), .ref (A 8), .int (iI kp), .int (iI pb), .int (iI td), .int (iI sw), .ref (A 13)]) := h.2.1
theorem ML.ad (h : ML cs L f m A t n k td kp pb sw g zz ww) : AD A := h.2.2.1
theorem ML.gg (h : ML cs L f m A t n k td kp pb sw g zz ww) : ∀ c, c < 5 → A (c + 2) ∈ L ∧ f (A (c + 2)) = .inl (cs.1, 80, .inl (aI (g c))) := h.2.2.2.1
theorem ML.m2 (h : ML cs L f m A t n k td kp pb sw g zz ww) : A 2 ∈ L := (h.gg 0 (by decide)).1
theorem ML.f2 (h : ML cs L f m A t n k td kp pb sw g zz ww) : f (A 2) = .inl (cs.1, 80, .inl (aI (g 0))) := (h.gg 0 (by decide)).2
theorem ML.m3 (h : ML cs L f m A t n k td kp pb sw g zz ww) : A 3 ∈ L := (h.gg 1 (by decide)).1
theorem ML.f3 (h : ML cs L f m A t n k td kp pb sw g zz ww) : f (A 3) = .inl (cs.1, 80, .inl (aI (g 1))) := (h.gg 1 (by decide)).2
theorem ML.m4 (h : ML cs L f m A t n k td kp pb sw g zz ww) : A 4 ∈ L := (h.gg 2 (by decide)).1
theorem ML.f4 (h : ML cs L f m A t n k td kp pb sw g zz ww) : f (A 4) = .inl (cs.1, 80, .inl (aI (g 2))) := (h.gg 2 (by decide)).2
theorem ML.m5 (h : ML cs L f m A t n k td kp pb sw g zz ww) : A 5 ∈ L := (h.gg 3 (by decide)).1
theorem ML.f5 (h : ML cs L f m A t n k td kp pb sw g zz ww) : f (A 5) = .inl (cs.1, 80, .inl (aI (g 3))) := (h.gg 3 (by decide)).2
theorem ML.m6 (h : ML cs L f m A t n k td kp pb sw g zz ww) : A 6 ∈ L := (h.gg 4 (by decide)).1
theorem ML.f6 (h : ML cs L f m A t n k td kp pb sw g zz ww) : f (A 6) = .inl (cs.1, 80, .inl (aI (g 4))) := (h.gg 4 (by decide)).2
theorem ML.m8 (h : ML cs L f m A t n k td kp pb sw g zz ww) : A 8 ∈ L := h.2.2.2.2.1.1
theorem ML.f8 (h : ML cs L f m A t n k td kp pb sw g zz ww) : f (A 8) = .inl (cs.1, 80, .inl (aI zz)) := h.2.2.2.2.1.2
theorem ML.m13 (h : ML cs L f m A t n k td kp pb sw g zz ww) : A 13 ∈ L := h.2.2.2.2.2.1
theorem ML.f13 (h : ML cs L f m A t n k td kp pb sw g zz ww) : f (A 13) = .inl (cs.1, 4, .inl (aI ww)) := h.2.2.2.2.2.2
theorem ML.fld (h : ML cs L f m A t n k td kp pb sw g zz ww) (t1 n1 k1 td1 kp1 pb1 sw1 : Int) : ML cs L (va_up f m (.inr (4, [.int (iI t1), .int (iI n1), .ref (A 2), .ref (A 3), .ref (A 4), .ref (A 5), .ref (A 6), .int (iI k1), .ref (A 8), .int (iI kp1), .int (iI pb1), .int (iI td1), .int (iI sw1), .ref (A 13)]))) m A t1 n1 k1 td1 kp1 pb1 sw1 g zz ww := by
  have hne : ∀ {c u}, f (A c) = .inl u → A c ≠ m := fun q => (ne_kl h.fm q).symm
  exact ⟨h.mm, va_up_self _ _ _, h.ad, fun c hc => ⟨(h.gg c hc).1, (va_up_ne f _ (hne (h.gg c hc).2)).trans (h.gg c hc).2⟩, ⟨h.m8, (va_up_ne f _ (hne h.f8)).trans h.f8⟩, h.m13, (va_up_ne f _ (hne h.f13)).trans h.f13⟩
theorem i5 : ∀ c, c < 5 → c + 2 ∈ [2, 3, 4, 5, 6, 8, 13] ∧ c + 2 ≠ 8 ∧ c + 2 ≠ 13 := by decide
theorem ML.gw {i v : Int} (h : ML cs L f m A t n k td kp pb sw g zz ww) (c : Nat) (hc : c < 5) : ML cs L (va_up f (A (c + 2)) (.inl (cs.1, 80, .inl (aI (uI (g c) i v))))) m A t n k td kp pb sw (uG g c i v) zz ww := by
  have hm : m ≠ A (c + 2) := ne_kl h.fm (h.gg c hc).2
  have hi := i5 c hc
  refine ⟨h.mm, (va_up_ne f _ hm).trans h.fm, h.ad, fun d hd => ⟨(h.gg d hd).1, ?_⟩, ⟨h.m8, (va_up_ne f _ (h.ad.ne (by decide) hi.1 (Ne.symm hi.2.1))).trans h.f8⟩, h.m13, (va_up_ne f _ (h.ad.ne (by decide) hi.1 (Ne.symm hi.2.2))).trans h.f13⟩
  by_cases hdc : d = c
  · subst hdc; rw [uG_s]; exact va_up_self _ _ _
  · rw [uG_n _ _ _ hdc]
    exact (va_up_ne f _ (h.ad.ne (i5 d hd).1 hi.1 (by omega))).trans (h.gg d hd).2
theorem ML.w2 {i v : Int} (h : ML cs L f m A t n k td kp pb sw g zz ww) : ML cs L (va_up f (A 2) (.inl (cs.1, 80, .inl (aI (uI (g 0) i v))))) m A t n k td kp pb sw (uG g 0 i v) zz ww := h.gw 0 (by decide)
theorem ML.w3 {i v : Int} (h : ML cs L f m A t n k td kp pb sw g zz ww) : ML cs L (va_up f (A 3) (.inl (cs.1, 80, .inl (aI (uI (g 1) i v))))) m A t n k td kp pb sw (uG g 1 i v) zz ww := h.gw 1 (by decide)
theorem ML.w4 {i v : Int} (h : ML cs L f m A t n k td kp pb sw g zz ww) : ML cs L (va_up f (A 4) (.inl (cs.1, 80, .inl (aI (uI (g 2) i v))))) m A t n k td kp pb sw (uG g 2 i v) zz ww := h.gw 2 (by decide)
theorem ML.w5 {i v : Int} (h : ML cs L f m A t n k td kp pb sw g zz ww) : ML cs L (va_up f (A 5) (.inl (cs.1, 80, .inl (aI (uI (g 3) i v))))) m A t n k td kp pb sw (uG g 3 i v) zz ww := h.gw 3 (by decide)
theorem ML.w6 {i v : Int} (h : ML cs L f m A t n k td kp pb sw g zz ww) : ML cs L (va_up f (A 6) (.inl (cs.1, 80, .inl (aI (uI (g 4) i v))))) m A t n k td kp pb sw (uG g 4 i v) zz ww := h.gw 4 (by decide)
theorem ML.zw {i v : Int} (h : ML cs L f m A t n k td kp pb sw g zz ww) : ML cs L (va_up f (A 8) (.inl (cs.1, 80, .inl (aI (uI zz i v))))) m A t n k td kp pb sw g (uI zz i v) ww := by
  have hm : m ≠ A 8 := ne_kl h.fm h.f8
  exact ⟨h.mm, (va_up_ne f _ hm).trans h.fm, h.ad, fun d hd => ⟨(h.gg d hd).1, (va_up_ne f _ (h.ad.ne (i5 d hd).1 (by decide) (i5 d hd).2.1)).trans (h.gg d hd).2⟩, ⟨h.m8, va_up_self _ _ _⟩, h.m13, (va_up_ne f _ (h.ad.ne (by decide) (by decide) (by decide))).trans h.f13⟩
theorem ML.wwr {i v : Int} (h : ML cs L f m A t n k td kp pb sw g zz ww) : ML cs L (va_up f (A 13) (.inl (cs.1, 4, .inl (aI (uI ww i v))))) m A t n k td kp pb sw g zz (uI ww i v) := by
  have hm : m ≠ A 13 := ne_kl h.fm h.f13
  exact ⟨h.mm, (va_up_ne f _ hm).trans h.fm, h.ad, fun d hd => ⟨(h.gg d hd).1, (va_up_ne f _ (h.ad.ne (i5 d hd).1 (by decide) (i5 d hd).2.2)).trans (h.gg d hd).2⟩, ⟨h.m8, (va_up_ne f _ (h.ad.ne (by decide) (by decide) (by decide))).trans h.f8⟩, h.m13, va_up_self _ _ _⟩
end MLS
/-- what a call of the reference leaves -/
def MPi (cs : ClassId × ClassId × ClassId) (L : List Nat) (f0 : Nat → va_E) (m : Nat) (A : Nat → Nat) (o : Int × Int × Sg) (v : Option Value) (L1 : List Nat) (f1 : Nat → va_E) : Prop := v = some (.int (iI o.2.1)) ∧ L = L1 ∧ FM f0 f1 m A ∧ MX cs L1 f1 m A o.1 o.2.2
def MPv (cs : ClassId × ClassId × ClassId) (L : List Nat) (f0 : Nat → va_E) (m : Nat) (A : Nat → Nat) (o : Int × Int × Sg) (v : Option Value) (L1 : List Nat) (f1 : Nat → va_E) : Prop := v = none ∧ L = L1 ∧ FM f0 f1 m A ∧ MX cs L1 f1 m A o.1 o.2.2
/-! the reference's own ways to the register -/
theorem ag_g {g : Nat → Int → Int} {R : Rc} {N : Int} (h : ∀ j, 0 ≤ j → j < N → ∀ c, c < 5 → g c j = R j c) {g1 : Nat → Int → Int} {p : Int} (hp : 0 ≤ p) (h1 : ∀ c, c < 5 → ∀ j, 0 ≤ j → j < N - 1 → g1 c j = del (g c) p j) : ∀ j, 0 ≤ j → j < N - 1 → ∀ c, c < 5 → g1 c j = del R p j c := by
  intro j a b c hc
  rw [h1 c hc j a b]
  show (if j < p then g c j else g c (j + 1)) = (if j < p then R j else R (j + 1)) c
  by_cases q : j < p
  · rw [if_pos q, if_pos q]; exact h j a (by omega) c hc
  · rw [if_neg q, if_neg q]; exact h (j + 1) (by omega) (by omega) c hc
