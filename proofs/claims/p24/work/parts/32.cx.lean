/-! the class's picture: its cells and the register that they stand for -/
def CX (cs : ClassId × ClassId × ClassId) (L : List Nat) (f : Nat → va_E) (x br ba pr sz lr : Nat) (n : Int) (R : Rc) (k : Int) (z : Int → Int) (td kp pb sw : Int) (w : Int → Int) : Prop :=
  x ∈ L ∧ f x = .inr (3, [.ref br, .ref pr, .ref lr, .int (iI td), .int (iI kp), .int (iI pb), .int (iI sw)]) ∧ lr ∈ L ∧ (∃ ww, f lr = .inl (cs.1, 4, .inl (aI ww)) ∧ ∀ j, 0 ≤ j → j < 4 → ww j = w j) ∧ lr ≠ sz ∧ PP cs L f pr sz k z ∧ ∃ r, RB cs L f br ba n r ∧ BO2 L f n r R
abbrev CC (cs : ClassId × ClassId × ClassId) (L : List Nat) (f : Nat → va_E) (x br ba pr sz lr : Nat) (σ : Sg) : Prop := CX cs L f x br ba pr sz lr (gN σ) (gR σ) (gK σ) (gZ σ) (gT σ) (gP σ) (gB σ) (gS σ) (gW σ)
/-- nothing else has changed: no cell but the class's own six and records -/
def FC (L : List Nat) (f0 f1 : Nat → va_E) (x br ba pr sz lr : Nat) : Prop := ∀ a, a ∈ L → a ≠ x → a ≠ br → a ≠ ba → a ≠ pr → a ≠ sz → a ≠ lr → (∀ v, f0 a ≠ .inr (0, v)) → f1 a = f0 a
section CXS
variable {cs : ClassId × ClassId × ClassId} {L : List Nat} {f f1 : Nat → va_E} {x br ba pr sz lr : Nat} {n : Int} {R : Rc} {k : Int} {z : Int → Int} {td kp pb sw : Int} {w : Int → Int}
theorem PP.mp (h : PP cs L f pr sz k z) : pr ∈ L := h.elim (fun _ q => q.1.mp)
theorem PP.fp (h : PP cs L f pr sz k z) : f pr = .inr (2, [.ref sz, .int (iI k)]) := h.elim (fun _ q => q.1.fp)
theorem PP.ms (h : PP cs L f pr sz k z) : sz ∈ L := h.elim (fun _ q => q.1.ms)
theorem PP.fs (h : PP cs L f pr sz k z) : ∃ zz, f sz = .inl (cs.1, 80, .inl (aI zz)) := h.elim (fun zz q => ⟨zz, q.1.fs⟩)
theorem PP.fr {a b : Nat} (h : PP cs L f pr sz k z) (hf : FR f f1 a b) (h1 : pr ≠ a ∧ pr ≠ b) (h2 : sz ≠ a ∧ sz ≠ b) : PP cs L f1 pr sz k z := by
  obtain ⟨zz, q, hz⟩ := h
  exact ⟨zz, ⟨q.mp, q.ms, (hf pr h1.1 h1.2).trans q.fp, (hf sz h2.1 h2.2).trans q.fs⟩, hz⟩
theorem RB.fr {r : Int → Option Nat} {a b : Nat} (h : RB cs L f br ba n r) (hf : FR f f1 a b) (h1 : br ≠ a ∧ br ≠ b) (h2 : ba ≠ a ∧ ba ≠ b) : RB cs L f1 br ba n r :=
  ⟨h.mp, h.ms, (hf br h1.1 h1.2).trans h.fp, (hf ba h2.1 h2.2).trans h.fs⟩
theorem BO2.fr2 {r : Int → Option Nat} {a b : Nat} (h : BO2 L f n r R) (hf : FR f f1 a b) (h1 : ∀ c g, f c = bR g → c ≠ a ∧ c ≠ b) : BO2 L f1 n r R := by
  intro j a1 a2
  obtain ⟨c, h3, h4, h5⟩ := h j a1 a2
  exact ⟨c, h3, h4, (hf c (h1 c _ h5).1 (h1 c _ h5).2).trans h5⟩
theorem ne_kk {a b i j : Nat} {u v : List Value} (hij : i ≠ j) (h1 : f a = .inr (i, u)) (h2 : f b = .inr (j, v)) : a ≠ b := by
  intro he; rw [he, h2] at h1; injection h1 with h3; injection h3 with h4 h5; exact hij h4.symm
theorem ne_kl {a b i : Nat} {u : List Value} {v : ClassId × vp_A} (h1 : f a = .inr (i, u)) (h2 : f b = .inl v) : a ≠ b := by
  intro he; rw [he, h2] at h1; cases h1
theorem ne_lr {a b m q : Nat} {c d : ClassId} {g : Nat → Int32} {r : Nat → Option Nat} (h1 : f a = .inl (c, m, .inl g)) (h2 : f b = .inl (d, q, .inr (.inr (.inr (.inr r))))) : a ≠ b := by
  intro he; rw [he, h2] at h1; injection h1 with h3; injection h3 with h4 h5; injection h5 with h6 h7; cases h7
theorem CX.mx (h : CX cs L f x br ba pr sz lr n R k z td kp pb sw w) : x ∈ L := h.1
theorem CX.fx (h : CX cs L f x br ba pr sz lr n R k z td kp pb sw w) : f x = .inr (3, [.ref br, .ref pr, .ref lr, .int (iI td), .int (iI kp), .int (iI pb), .int (iI sw)]) := h.2.1
theorem CX.ml (h : CX cs L f x br ba pr sz lr n R k z td kp pb sw w) : lr ∈ L := h.2.2.1
theorem CX.fl (h : CX cs L f x br ba pr sz lr n R k z td kp pb sw w) : ∃ ww, f lr = .inl (cs.1, 4, .inl (aI ww)) ∧ ∀ j, 0 ≤ j → j < 4 → ww j = w j := h.2.2.2.1
theorem CX.ns (h : CX cs L f x br ba pr sz lr n R k z td kp pb sw w) : lr ≠ sz := h.2.2.2.2.1
theorem CX.pp (h : CX cs L f x br ba pr sz lr n R k z td kp pb sw w) : PP cs L f pr sz k z := h.2.2.2.2.2.1
theorem CX.rb (h : CX cs L f x br ba pr sz lr n R k z td kp pb sw w) : ∃ r, RB cs L f br ba n r ∧ BO2 L f n r R := h.2.2.2.2.2.2
theorem CX.mb (h : CX cs L f x br ba pr sz lr n R k z td kp pb sw w) : br ∈ L := h.rb.elim (fun _ q => q.1.mp)
theorem CX.fb (h : CX cs L f x br ba pr sz lr n R k z td kp pb sw w) : f br = .inr (1, [.ref ba, .int (iI n)]) := h.rb.elim (fun _ q => q.1.fp)
theorem CX.fa (h : CX cs L f x br ba pr sz lr n R k z td kp pb sw w) : ∃ r, f ba = .inl (cs.2.1, 80, .inr (.inr (.inr (.inr (aR r))))) := h.rb.elim (fun r q => ⟨r, q.1.fs⟩)
/-- a number of the class's object is written -/
theorem CX.fld (h : CX cs L f x br ba pr sz lr n R k z td kp pb sw w) (td1 kp1 pb1 sw1 : Int) : CX cs L (va_up f x (.inr (3, [.ref br, .ref pr, .ref lr, .int (iI td1), .int (iI kp1), .int (iI pb1), .int (iI sw1)]))) x br ba pr sz lr n R k z td1 kp1 pb1 sw1 w := by
  obtain ⟨ww, hl1, hl2⟩ := h.fl
  obtain ⟨r, hb1, hb2⟩ := h.rb
  obtain ⟨zz, hzz⟩ := h.pp.fs
  have hf : ∀ a, a ≠ x → va_up f x (.inr (3, [.ref br, .ref pr, .ref lr, .int (iI td1), .int (iI kp1), .int (iI pb1), .int (iI sw1)])) a = f a := fun a q => va_up_ne f _ q
  have hfr : FR f (va_up f x (.inr (3, [.ref br, .ref pr, .ref lr, .int (iI td1), .int (iI kp1), .int (iI pb1), .int (iI sw1)]))) x x := fun a q _ => hf a q
  have n1 : br ≠ x := ne_kk (by decide) h.fb h.fx
  have n2 : ba ≠ x := (ne_kl h.fx hb1.fs).symm
  have n3 : pr ≠ x := ne_kk (by decide) h.pp.fp h.fx
  have n4 : sz ≠ x := (ne_kl h.fx hzz).symm
  have n5 : lr ≠ x := (ne_kl h.fx hl1).symm
  exact ⟨h.mx, va_up_self _ _ _, h.ml, ⟨ww, (hf lr n5).trans hl1, hl2⟩, h.ns, h.pp.fr hfr ⟨n3, n3⟩ ⟨n4, n4⟩, r, hb1.fr hfr ⟨n1, n1⟩ ⟨n2, n2⟩, hb2.fr2 hfr (fun c g q => ⟨bR_ne (by decide) q h.fx, bR_ne (by decide) q h.fx⟩)⟩
/-- the pages have changed -/
theorem CX.p {k1 : Int} {z1 : Int → Int} (h : CX cs L f x br ba pr sz lr n R k z td kp pb sw w) (hp : PP cs L f1 pr sz k1 z1) (hfr : FR f f1 pr sz) : CX cs L f1 x br ba pr sz lr n R k1 z1 td kp pb sw w := by
  obtain ⟨ww, hl1, hl2⟩ := h.fl
  obtain ⟨r, hb1, hb2⟩ := h.rb
  obtain ⟨zz, hzz⟩ := h.pp.fs
  have n1 : br ≠ pr := ne_kk (by decide) h.fb h.pp.fp
  have n2 : br ≠ sz := ne_kl h.fb hzz
  have n3 : ba ≠ pr := (ne_kl h.pp.fp hb1.fs).symm
  have n4 : ba ≠ sz := (ne_lr hzz hb1.fs).symm
  have n5 : x ≠ pr := ne_kk (by decide) h.fx h.pp.fp
  have n6 : x ≠ sz := ne_kl h.fx hzz
  have n7 : lr ≠ pr := (ne_kl h.pp.fp hl1).symm
  exact ⟨h.mx, (hfr x n5 n6).trans h.fx, h.ml, ⟨ww, (hfr lr n7 h.ns).trans hl1, hl2⟩, h.ns, hp, r, hb1.fr hfr ⟨n1, n2⟩ ⟨n3, n4⟩, hb2.fr2 hfr (fun c g q => ⟨bR_ne (by decide) q h.pp.fp, bR_nl q hzz⟩)⟩
/-- the row of records has changed -/
theorem CX.b {n1 : Int} {r1 : Int → Option Nat} {R1 : Rc} (h : CX cs L f x br ba pr sz lr n R k z td kp pb sw w) (hb1 : RB cs L f1 br ba n1 r1) (hb2 : BO2 L f1 n1 r1 R1) (hfr : FR f f1 br ba) : CX cs L f1 x br ba pr sz lr n1 R1 k z td kp pb sw w := by
  obtain ⟨ww, hl1, hl2⟩ := h.fl
  obtain ⟨r, hr⟩ := h.fa
  obtain ⟨zz, hzz⟩ := h.pp.fs
  have n1 : pr ≠ br := ne_kk (by decide) h.pp.fp h.fb
  have n2 : sz ≠ br := (ne_kl h.fb hzz).symm
  have n3 : pr ≠ ba := ne_kl h.pp.fp hr
  have n4 : sz ≠ ba := ne_lr hzz hr
  have n5 : x ≠ br := ne_kk (by decide) h.fx h.fb
  have n6 : x ≠ ba := ne_kl h.fx hr
  have n7 : lr ≠ br := (ne_kl h.fb hl1).symm
  have n8 : lr ≠ ba := ne_lr hl1 hr
  exact ⟨h.mx, (hfr x n5 n6).trans h.fx, h.ml, ⟨ww, (hfr lr n7 n8).trans hl1, hl2⟩, h.ns, h.pp.fr hfr ⟨n1, n3⟩ ⟨n2, n4⟩, r1, hb1, hb2⟩
/-- a reader has come on -/
theorem CX.rd {i v : Int} {ww : Int → Int} (h : CX cs L f x br ba pr sz lr n R k z td kp pb sw w) (hl1 : f lr = .inl (cs.1, 4, .inl (aI ww))) (hl2 : ∀ j, 0 ≤ j → j < 4 → ww j = w j) : CX cs L (va_up f lr (.inl (cs.1, 4, .inl (aI (uI ww i v))))) x br ba pr sz lr n R k z td kp pb sw (uI w i v) := by
  obtain ⟨r, hb1, hb2⟩ := h.rb
  obtain ⟨zz, hzz⟩ := h.pp.fs
  have hfr : FR f (va_up f lr (.inl (cs.1, 4, .inl (aI (uI ww i v))))) lr lr := fun a q _ => va_up_ne f _ q
  have n1 : br ≠ lr := ne_kl h.fb hl1
  have n2 : ba ≠ lr := (ne_lr hl1 hb1.fs).symm
  have n3 : pr ≠ lr := ne_kl h.pp.fp hl1
  have n5 : x ≠ lr := ne_kl h.fx hl1
  exact ⟨h.mx, (hfr x n5 n5).trans h.fx, h.ml, ⟨_, va_up_self _ _ _, ag_u hl2⟩, h.ns, h.pp.fr hfr ⟨n3, n3⟩ ⟨h.ns.symm, h.ns.symm⟩, r, hb1.fr hfr ⟨n1, n1⟩ ⟨n2, n2⟩, hb2.fr2 hfr (fun c g q => ⟨bR_nl q hl1, bR_nl q hl1⟩)⟩
/-- a record's own cell is written -/
theorem CX.rec {r : Int → Option Nat} {p : Int} {a : Nat} {g : Nat → Int} (h : CX cs L f x br ba pr sz lr n R k z td kp pb sw w) (hb1 : RB cs L f br ba n r) (hb2 : BO2 L f n r R) (hp : 0 ≤ p ∧ p < n) (hr : r p = some a) (hso : so R n) (h0 : ∀ j, 0 ≤ j → j < n → 0 ≤ R j 0 ∧ R j 0 ≤ 999) : CX cs L (va_up f a (bR g)) x br ba pr sz lr n (uI R p g) k z td kp pb sw w := by
  obtain ⟨ww, hl1, hl2⟩ := h.fl
  obtain ⟨zz, hzz⟩ := h.pp.fs
  obtain ⟨a2, e1, ha, hfa⟩ := hb2 p hp.1 hp.2
  have e2 : a2 = a := by rw [hr] at e1; exact (Option.some.inj e1).symm
  subst e2
  have hfr : FR f (va_up f a2 (bR g)) a2 a2 := fun b q _ => va_up_ne f _ q
  have m1 : ∀ {b i u}, i ≠ 0 → f b = .inr (i, u) → b ≠ a2 := fun hi q => (bR_ne hi hfa q).symm
  have m2 : ∀ {b u}, f b = .inl u → b ≠ a2 := fun q => (bR_nl hfa q).symm
  have n1 := m1 (by decide) h.fb
  have n2 := m2 hb1.fs
  have n3 := m1 (by decide) h.pp.fp
  have n4 := m2 hzz
  have n5 := m1 (by decide) h.fx
  have n6 := m2 hl1
  refine ⟨h.mx, (hfr x n5 n5).trans h.fx, h.ml, ⟨ww, (hfr lr n6 n6).trans hl1, hl2⟩, h.ns, h.pp.fr hfr ⟨n3, n3⟩ ⟨n4, n4⟩, r, hb1.fr hfr ⟨n1, n1⟩ ⟨n2, n2⟩, fun j a1 a2' => ?_⟩
  by_cases c : j = p
  · subst c
    exact ⟨a2, hr, ha, by rw [uI_s]; exact va_up_self _ _ _⟩
  · obtain ⟨b, q1, q2, q3⟩ := hb2 j a1 a2'
    refine ⟨b, q1, q2, ?_⟩
    rw [uI_n _ _ c]
    refine (hfr b ?_ ?_).trans q3 <;>
    · intro he
      rw [he, hfa] at q3
      unfold bR at q3
      injection q3 with q4; injection q4 with q5 q6; injection q6 with q7 q8; injection q7 with q9
      have r1 := h0 j a1 a2'; have r2 := h0 p hp.1 hp.2
      have q10 := (iI_eq (by omega) (by omega)).mp q9
      exact c (hso.inj ⟨a1, a2'⟩ hp q10.symm)
/-- a new cell -/
theorem CX.new {q : Nat} {e : va_E} (h : CX cs L f x br ba pr sz lr n R k z td kp pb sw w) (hq : q ∉ L) : CX cs (L ++ [q]) (va_up f q e) x br ba pr sz lr n R k z td kp pb sw w := by
  obtain ⟨ww, hl1, hl2⟩ := h.fl
  obtain ⟨r, hb1, hb2⟩ := h.rb
  obtain ⟨zz, hzR, hzz⟩ := h.pp
  have hm : ∀ {a}, a ∈ L → a ∈ L ++ [q] := fun ha => List.mem_append_left _ ha
  have hf : ∀ {a}, a ∈ L → va_up f q e a = f a := fun ha => va_up_ne f _ (fun he => hq (he ▸ ha))
  refine ⟨hm h.mx, (hf h.mx).trans h.fx, hm h.ml, ⟨ww, (hf h.ml).trans hl1, hl2⟩, h.ns, ⟨zz, ⟨hm hzR.mp, hm hzR.ms, (hf hzR.mp).trans hzR.fp, (hf hzR.ms).trans hzR.fs⟩, hzz⟩, r, ⟨hm hb1.mp, hm hb1.ms, (hf hb1.mp).trans hb1.fp, (hf hb1.ms).trans hb1.fs⟩, fun j a1 a2 => ?_⟩
  obtain ⟨b, q1, q2, q3⟩ := hb2 j a1 a2
  exact ⟨b, q1, hm q2, (hf q2).trans q3⟩
/-! the frame -/
theorem FC.rf (L : List Nat) (f : Nat → va_E) (x br ba pr sz lr : Nat) : FC L f f x br ba pr sz lr := fun _ _ _ _ _ _ _ _ _ => rfl
theorem FC.xx {f0 : Nat → va_E} {e : va_E} (h : FC L f0 f x br ba pr sz lr) : FC L f0 (va_up f x e) x br ba pr sz lr := fun a m a1 a2 a3 a4 a5 a6 a7 => (va_up_ne f e a1).trans (h a m a1 a2 a3 a4 a5 a6 a7)
theorem FC.l {f0 : Nat → va_E} {e : va_E} (h : FC L f0 f x br ba pr sz lr) : FC L f0 (va_up f lr e) x br ba pr sz lr := fun a m a1 a2 a3 a4 a5 a6 a7 => (va_up_ne f e a6).trans (h a m a1 a2 a3 a4 a5 a6 a7)
theorem FC.p {f0 : Nat → va_E} (h : FC L f0 f x br ba pr sz lr) (g : FR f f1 pr sz) : FC L f0 f1 x br ba pr sz lr := fun a m a1 a2 a3 a4 a5 a6 a7 => (g a a4 a5).trans (h a m a1 a2 a3 a4 a5 a6 a7)
theorem FC.b {f0 : Nat → va_E} (h : FC L f0 f x br ba pr sz lr) (g : FR f f1 br ba) : FC L f0 f1 x br ba pr sz lr := fun a m a1 a2 a3 a4 a5 a6 a7 => (g a a2 a3).trans (h a m a1 a2 a3 a4 a5 a6 a7)
theorem FC.tr {f0 : Nat → va_E} (h : FC L f0 f x br ba pr sz lr) (g : FC L f f1 x br ba pr sz lr) : FC L f0 f1 x br ba pr sz lr := fun a m a1 a2 a3 a4 a5 a6 a7 =>
  have e := h a m a1 a2 a3 a4 a5 a6 a7
  (g a m a1 a2 a3 a4 a5 a6 (by rw [e]; exact a7)).trans e
theorem FC.rec {f0 : Nat → va_E} {b : Nat} {g : Nat → Int} {e : va_E} (h : FC L f0 f x br ba pr sz lr) (hb : f b = bR g) : FC L f0 (va_up f b e) x br ba pr sz lr := fun a m a1 a2 a3 a4 a5 a6 a7 =>
  have e1 := h a m a1 a2 a3 a4 a5 a6 a7
  (va_up_ne f e (fun he => a7 [.int (iI (g 0)), .int (iI (g 1)), .int (iI (g 2)), .int (iI (g 3)), .int (iI (g 4))] (by rw [← e1, he]; exact hb))).trans e1
theorem FC.new {f0 : Nat → va_E} {q : Nat} {e : va_E} (h : FC L f0 f x br ba pr sz lr) (hq : q ∉ L) : FC L f0 (va_up f q e) x br ba pr sz lr := fun a m a1 a2 a3 a4 a5 a6 a7 => (va_up_ne f e (fun he => hq (by rw [← he]; exact m))).trans (h a m a1 a2 a3 a4 a5 a6 a7)
theorem FC.sub {f0 : Nat → va_E} {L2 : List Nat} (h : FC L2 f0 f x br ba pr sz lr) (hs : ∀ a ∈ L, a ∈ L2) : FC L f0 f x br ba pr sz lr := fun a m => h a (hs a m)
end CXS
/-- what a call of the class leaves: the place of what it throws is 0, its answer, the register then -/
def CPi (cs : ClassId × ClassId × ClassId) (L : List Nat) (f0 : Nat → va_E) (x br ba pr sz lr : Nat) (o : Int × Int × Sg) (v : Option Value) (L1 : List Nat) (f1 : Nat → va_E) : Prop := o.1 = 0 ∧ v = some (.int (iI o.2.1)) ∧ CC cs L1 f1 x br ba pr sz lr o.2.2 ∧ (∀ a ∈ L, a ∈ L1) ∧ FC L f0 f1 x br ba pr sz lr
def CPv (cs : ClassId × ClassId × ClassId) (L : List Nat) (f0 : Nat → va_E) (x br ba pr sz lr : Nat) (o : Int × Int × Sg) (v : Option Value) (L1 : List Nat) (f1 : Nat → va_E) : Prop := o.1 = 0 ∧ v = none ∧ CC cs L1 f1 x br ba pr sz lr o.2.2 ∧ (∀ a ∈ L, a ∈ L1) ∧ FC L f0 f1 x br ba pr sz lr
def PXA (o : Int × Int × Sg) (E : String) : Prop := (o.1 = 1 ∧ E = XIA) ∨ (o.1 = 2 ∧ E = XIS)
def PXO (o : Int × Int × Sg) (E : String) : Prop := o.1 = 1 ∧ E = XIO
def PXS (o : Int × Int × Sg) (E : String) : Prop := o.1 = 1 ∧ E = XIS
