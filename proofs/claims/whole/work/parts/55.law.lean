/-! the law: longs, the script; what of the one side the other's calls leave as it is -/
def iL (z : Int) : Int64 := (iI z).toInt64
theorem iL_0 : Int64.ofNat 0 = iL 0 := by decide
theorem iL_1 : Int64.ofNat 1 = iL 1 := by decide
theorem cmp_s (x : Int64) : lg_cmp x x = 0 := by
  unfold lg_cmp
  by_cases h5 : x > x
  · rw [gt_iff_lt, Int64.lt_iff_toInt_lt] at h5; omega
  · rw [if_neg h5, if_pos rfl]
/-- the script's int at place j -/
def sv (xs : Nat → Int32) (j : Int) : Int := (xs j.toNat).toInt
theorem sv_rg (xs : Nat → Int32) (j : Int) : -2147483648 ≤ sv xs j ∧ sv xs j < 2147483648 := iI_rg _
section XLAW
variable {p : Program} {l : Launch} {e : Env} {R : Room} {s : State} {m : MethodId} {args : Array Value} {below : List Frame} {meth : Method} {c : Code} {H : Heap} {locs : List Loc} {cells slots : Nat} {Q : State → Prop}
variable {cc : ByteArray} {nL pc : Nat} {ls : Array Slot} {rest : List Value} {Ts : List Cond} {own : String} {D : va_G} {cs : ClassId × ClassId × ClassId} {A : Nat → Prop} {H0 : Heap} {L : List Nat} {f : Nat → va_E} {lv lv' : List (Nat × Value)}
theorem x_i2l (X : XX p m c cc nL s args Ts own D cs) {z : Int} (hdg : decode cc pc = .ok (.i2l, 1)) (kk : W p l e R s m args below meth c H locs cells slots Q (F0 m (pc + 1) ls (.long (iL z) :: rest))) : W p l e R s m args below meth c H locs cells slots Q (F0 m pc ls (.int (iI z) :: rest)) := lv_i2l X.1.1 X.1.2.1 hdg rfl kk
theorem x_lc0 (X : XX p m c cc nL s args Ts own D cs) (hdg : decode cc pc = .ok (.lconst 0, 1)) (kk : W p l e R s m args below meth c H locs cells slots Q (F0 m (pc + 1) ls (.long (iL 0) :: rest))) : W p l e R s m args below meth c H locs cells slots Q (F0 m pc ls rest) := lv_lconst X.1.1 X.1.2.1 hdg iL_0 kk
theorem x_lc1 (X : XX p m c cc nL s args Ts own D cs) (hdg : decode cc pc = .ok (.lconst 1, 1)) (kk : W p l e R s m args below meth c H locs cells slots Q (F0 m (pc + 1) ls (.long (iL 1) :: rest))) : W p l e R s m args below meth c H locs cells slots Q (F0 m pc ls rest) := lv_lconst X.1.1 X.1.2.1 hdg iL_1 kk
theorem x_last (X : XX p m c cc nL s args Ts own D cs) (w : XW D A H0 L f H locs) {a : Nat} {g : Nat → Int64} {v : Int64} (ha : a ∈ L) (hf : f a = .inl (cs.2.2, 1, .inr (.inl g))) (hdg : decode cc pc = .ok (.lastore, 1)) (kk : ∀ (H1 : Heap) (locs1 : List Loc), XW D A H0 L (va_up f a (.inl (cs.2.2, 1, .inr (.inl (vp_updL g 0 v))))) H1 locs1 → W p l e R s m args below meth c H1 locs1 cells slots Q (F0 m (pc + 1) ls rest)) : W p l e R s m args below meth c H locs cells slots Q (F0 m pc ls (.long v :: .int (iI 0) :: .ref a :: rest)) := by
  obtain ⟨q, hq⟩ := xw_at rfl ha hf
  refine va_last X.1.1 X.1.2.1 X.2 w.1 w.2.1 w.2.2 q 2 hq rfl (iI_in (i := 0) (n := 1) (by omega) (by omega)) hdg (fun H1 locs1 hP hD hS => ?_)
  rw [xw_set w.2.1 ha hf hq] at hP hD
  exact kk H1 locs1 ⟨hP, hD, hS⟩
theorem x_lald (X : XX p m c cc nL s args Ts own D cs) (w : XW D A H0 L f H locs) {a : Nat} {g : Nat → Int64} {v : Int64} (ha : a ∈ L) (hf : f a = .inl (cs.2.2, 1, .inr (.inl g))) (hv : g 0 = v) (hdg : decode cc pc = .ok (.laload, 1)) (kk : W p l e R s m args below meth c H locs cells slots Q (F0 m (pc + 1) ls (.long v :: rest))) : W p l e R s m args below meth c H locs cells slots Q (F0 m pc ls (.int (iI 0) :: .ref a :: rest)) := by
  obtain ⟨q, hq⟩ := xw_at rfl ha hf
  subst hv
  exact va_lald X.1.1 X.1.2.1 X.2 w.1 q 2 hq rfl (iI_in (i := 0) (n := 1) (by omega) (by omega)) hdg kk
/-- two longs that are one: 0 -/
theorem x_lcmpS (X : XX p m c cc nL s args Ts own D cs) {x y : Int64} (hxy : y = x) (hdg : decode cc pc = .ok (.lcmp, 1)) (kk : W p l e R s m args below meth c H locs cells slots Q (F0 m (pc + 1) ls (.int (iI 0) :: rest))) : W p l e R s m args below meth c H locs cells slots Q (F0 m pc ls (.long y :: .long x :: rest)) := by
  subst hxy
  refine W.lcmp X.1.1 X.1.2.1 hdg ?_
  rw [cmp_s, iI_0]; exact kk
/-- two ints that are one: it jumps -/
theorem x_icmpS_eq (X : XX p m c cc nL s args Ts own D cs) {x : Int32} {off : Int} {tgt : Nat} (ht : (pc : Int) + off = (tgt : Int)) (hdg : decode cc pc = .ok (.if_icmp .eq off, 3)) (k : W p l e R s m args below meth c H locs cells slots Q (F0 m (tgt) ls (rest))) : W p l e R s m args below meth c H locs cells slots Q (F0 m (pc) ls (.int x :: .int x :: rest)) :=
  lv_icmp_eq X.1.1 X.1.2.1 hdg ht (fun _ => k) (fun h9 => absurd rfl h9)
theorem x_sld (X : XX p m c cc nL s args Ts own D cs) (w : XW D A s.heap L f H locs) {b LL : Nat} {xs : Nat → Int32} {j : Int} (hX : va_X b LL xs s s.heap) (hbl : b < s.heap.size) (hbA : ¬ A b) (hj : 0 ≤ j ∧ j < (LL : Int) ∧ LL ≤ 1000000) (hdg : decode cc pc = .ok (.iaload, 1)) (kk : W p l e R s m args below meth c H locs cells slots Q (F0 m (pc + 1) ls (.int (iI (sv xs j)) :: rest))) : W p l e R s m args below meth c H locs cells slots Q (F0 m pc ls (.int (iI j) :: .ref b :: rest)) := by
  refine va_sld X.1.1 X.1.2.1 hX hbl hbA w.2.2 (iI_in ⟨hj.1, hj.2.1⟩ hj.2.2) hdg ?_
  have e1 : (iI j).toNatClampNeg = j.toNat := by have h9 := iI_nat (i := j) (by omega); omega
  rw [e1]
  show W p l e R s m args below meth c H locs cells slots Q (F0 m (pc + 1) ls (.int (xs j.toNat) :: rest))
  rw [← iI_self (xs j.toNat)]; exact kk
theorem x_slen (X : XX p m c cc nL s args Ts own D cs) (w : XW D A s.heap L f H locs) {b LL : Nat} {xs : Nat → Int32} (hX : va_X b LL xs s s.heap) (hbl : b < s.heap.size) (hbA : ¬ A b) (hdg : decode cc pc = .ok (.arraylength, 1)) (kk : W p l e R s m args below meth c H locs cells slots Q (F0 m (pc + 1) ls (.int (iI (LL : Int)) :: rest))) : W p l e R s m args below meth c H locs cells slots Q (F0 m pc ls (.ref b :: rest)) := by
  refine va_slen X.1.1 X.1.2.1 hX hbl hbA w.2.2 hdg ?_
  rw [show Int32.ofNat LL = iI (LL : Int) from Int32.ofInt_eq_ofNat.symm]; exact kk
theorem x_iand (X : XX p m c cc nL s args Ts own D cs) {x y : Int32} (hdg : decode cc pc = .ok (.iand, 1)) (kk : W p l e R s m args below meth c H locs cells slots Q (F0 m (pc + 1) ls (.int (x &&& y) :: rest))) : W p l e R s m args below meth c H locs cells slots Q (F0 m pc ls (.int y :: .int x :: rest)) := lv_iand X.1.1 X.1.2.1 hdg kk
end XLAW
/-! frames between the class, the reference and the long that is handed over -/
def FO (L : List Nat) (f0 f1 : Nat → va_E) (x br ba pr sz lr ou : Nat) : Prop := ∀ a, a ∈ L → a ≠ x → a ≠ br → a ≠ ba → a ≠ pr → a ≠ sz → a ≠ lr → a ≠ ou → (∀ v, f0 a ≠ .inr (0, v)) → f1 a = f0 a
theorem ne_jl {f : Nat → va_E} {a b n q : Nat} {c d : ClassId} {g : Nat → Int64} {h : Nat → Int32} (h1 : f a = .inl (c, n, .inr (.inl g))) (h2 : f b = .inl (d, q, .inl h)) : a ≠ b := by
  intro he; rw [he, h2] at h1; injection h1 with h3; injection h3 with h4 h5; injection h5 with h6 h7; cases h7
theorem ne_jr {f : Nat → va_E} {a b n q : Nat} {c d : ClassId} {g : Nat → Int64} {r : Nat → Option Nat} (h1 : f a = .inl (c, n, .inr (.inl g))) (h2 : f b = .inl (d, q, .inr (.inr (.inr (.inr r))))) : a ≠ b := by
  intro he; rw [he, h2] at h1; injection h1 with h3; injection h3 with h4 h5; injection h5 with h6 h7; injection h7 with h8; cases h8
section FRM
variable {cs : ClassId × ClassId × ClassId} {L L1 : List Nat} {f f1 f2 : Nat → va_E} {x br ba pr sz lr ou mo : Nat} {B : Nat → Nat} {n : Int} {R : Rc} {k : Int} {z : Int → Int} {td kp pb sw : Int} {w : Int → Int} {g : Nat → Int64}
/-- the class's cells aren't the long's -/
theorem CX.nou (h : CX cs L f x br ba pr sz lr n R k z td kp pb sw w) (ho : f ou = .inl (cs.2.2, 1, .inr (.inl g))) : ou ≠ x ∧ ou ≠ br ∧ ou ≠ ba ∧ ou ≠ pr ∧ ou ≠ sz ∧ ou ≠ lr := by
  obtain ⟨ww, hl1, hl2⟩ := h.fl
  obtain ⟨r, hr⟩ := h.fa
  obtain ⟨zz, hzz⟩ := h.pp.fs
  exact ⟨(ne_kl h.fx ho).symm, (ne_kl h.fb ho).symm, ne_jr ho hr, (ne_kl h.pp.fp ho).symm, ne_jl ho hzz, ne_jl ho hl1⟩
theorem FC.oul (h : CX cs L f x br ba pr sz lr n R k z td kp pb sw w) (hm : ou ∈ L) (ho : f ou = .inl (cs.2.2, 1, .inr (.inl g))) (hF : FC L f f1 x br ba pr sz lr) : f1 ou = .inl (cs.2.2, 1, .inr (.inl g)) := by
  obtain ⟨a1, a2, a3, a4, a5, a6⟩ := h.nou ho
  exact (hF ou hm a1 a2 a3 a4 a5 a6 (fun v he => by rw [ho] at he; cases he)).trans ho
theorem FO.of (hF : FC L f f1 x br ba pr sz lr) (hu : ∀ b, b ≠ ou → f2 b = f1 b) : FO L f f2 x br ba pr sz lr ou := fun a m a1 a2 a3 a4 a5 a6 a7 a8 => (hu a a7).trans (hF a m a1 a2 a3 a4 a5 a6 a8)
/-- the long is written -/
theorem CX.oul (h : CX cs L f1 x br ba pr sz lr n R k z td kp pb sw w) (ho : f1 ou = .inl (cs.2.2, 1, .inr (.inl g))) (hu : ∀ b, b ≠ ou → f2 b = f1 b) : CX cs L f2 x br ba pr sz lr n R k z td kp pb sw w := by
  obtain ⟨a1, a2, a3, a4, a5, a6⟩ := h.nou ho
  obtain ⟨ww, hl1, hl2⟩ := h.fl
  obtain ⟨r, hb1, hb2⟩ := h.rb
  have hfr : FR f1 f2 ou ou := fun b q _ => hu b q
  exact ⟨h.mx, (hu x a1.symm).trans h.fx, h.ml, ⟨ww, (hu lr a6.symm).trans hl1, hl2⟩, h.ns, h.pp.fr hfr ⟨a4.symm, a4.symm⟩ ⟨a5.symm, a5.symm⟩, r, hb1.fr hfr ⟨a2.symm, a2.symm⟩ ⟨a3.symm, a3.symm⟩, hb2.fr2 hfr (fun c d q => ⟨bR_nl q ho, bR_nl q ho⟩)⟩
def HB (B : Nat → Nat) (sz lr : Nat) : Prop := ∀ c, (∃ d, d ∈ [2, 3, 4, 5, 6, 8, 13] ∧ B c = B d) ∧ B c ≠ sz ∧ B c ≠ lr
/-- the reference's rows are rows of ints -/
theorem ML.row {t nn kk td2 kp2 pb2 sw2 : Int} {g2 : Nat → Int → Int} {zz ww : Int → Int} (h : ML cs L f mo B t nn kk td2 kp2 pb2 sw2 g2 zz ww) {d : Nat} (hd : d ∈ [2, 3, 4, 5, 6, 8, 13]) : B d ∈ L ∧ ∃ q r, f (B d) = .inl (cs.1, q, .inl r) := by
  simp only [List.mem_cons, List.not_mem_nil, or_false] at hd
  rcases hd with rfl | rfl | rfl | rfl | rfl | rfl | rfl
  · exact ⟨h.m2, _, _, h.f2⟩
  · exact ⟨h.m3, _, _, h.f3⟩
  · exact ⟨h.m4, _, _, h.f4⟩
  · exact ⟨h.m5, _, _, h.f5⟩
  · exact ⟨h.m6, _, _, h.f6⟩
  · exact ⟨h.m8, _, _, h.f8⟩
  · exact ⟨h.m13, _, _, h.f13⟩
theorem ML.rows {t nn kk td2 kp2 pb2 sw2 : Int} {g2 : Nat → Int → Int} {zz ww : Int → Int} (h : ML cs L f mo B t nn kk td2 kp2 pb2 sw2 g2 zz ww) (hB : HB B sz lr) (c : Nat) : B c ∈ L ∧ ∃ q r, f (B c) = .inl (cs.1, q, .inl r) := by
  obtain ⟨⟨d, hd, he⟩, _⟩ := hB c
  rw [he]; exact h.row hd
/-- a call of the class leaves the reference as it is -/
theorem MX.fo {t : Int} {σ : Sg} (h : MX cs L f mo B t σ) (hB : HB B sz lr) (hC : CX cs L f x br ba pr sz lr n R k z td kp pb sw w) (ho : f ou = .inl (cs.2.2, 1, .inr (.inl g))) (hF : FO L f f1 x br ba pr sz lr ou) (hs : ∀ a, a ∈ L → a ∈ L1) : MX cs L1 f1 mo B t σ := by
  obtain ⟨g2, zz, ww, hM, h1, h2, h3⟩ := h
  obtain ⟨wl, hl1, hl2⟩ := hC.fl
  obtain ⟨r, hr⟩ := hC.fa
  obtain ⟨z2, hzz⟩ := hC.pp.fs
  have hmo : f1 mo = f mo := hF mo hM.mm (ne_kk (by decide) hM.fm hC.fx) (ne_kk (by decide) hM.fm hC.fb) (ne_kl hM.fm hr) (ne_kk (by decide) hM.fm hC.pp.fp) (ne_kl hM.fm hzz) (ne_kl hM.fm hl1) (ne_kl hM.fm ho) (fun v he => by rw [hM.fm] at he; injection he with h4; injection h4 with h5 h6; cases h5)
  have hrow : ∀ c, f1 (B c) = f (B c) := by
    intro c
    obtain ⟨hm, q, rr, hf⟩ := hM.rows hB c
    exact hF (B c) hm (ne_kl hC.fx hf).symm (ne_kl hC.fb hf).symm (ne_lr hf hr) (ne_kl hC.pp.fp hf).symm (hB c).2.1 (hB c).2.2 (ne_jl ho hf).symm (fun v he => by rw [hf] at he; cases he)
  exact ⟨g2, zz, ww, ⟨hs _ hM.mm, hmo.trans hM.fm, hM.ad, fun c hc => ⟨hs _ (hM.gg c hc).1, (hrow _).trans (hM.gg c hc).2⟩, ⟨hs _ hM.m8, (hrow _).trans hM.f8⟩, hs _ hM.m13, (hrow _).trans hM.f13⟩, h1, h2, h3⟩
/-- .. and the other way round -/
theorem CX.fm {t : Int} {σ : Sg} (h : MX cs L f mo B t σ) (hB : HB B sz lr) (hC : CX cs L f x br ba pr sz lr n R k z td kp pb sw w) (hF : FM f f1 mo B) : CX cs L f1 x br ba pr sz lr n R k z td kp pb sw w := by
  obtain ⟨g2, zz, ww, hM, _, _, _⟩ := h
  obtain ⟨wl, hl1, hl2⟩ := hC.fl
  obtain ⟨r, hb1, hb2⟩ := hC.rb
  obtain ⟨z2, hzR, hzz⟩ := hC.pp
  have row : ∀ c, ∃ q r, f (B c) = .inl (cs.1, q, .inl r) := fun c => (hM.rows hB c).2
  have kk9 : ∀ {a i u}, i ≠ 4 → f a = .inr (i, u) → f1 a = f a := fun {a i u} hi q => hF a (ne_kk hi q hM.fm) (fun c => by obtain ⟨q2, r2, h9⟩ := row c; exact ne_kl q h9)
  refine ⟨hC.mx, (kk9 (by decide) hC.fx).trans hC.fx, hC.ml, ⟨wl, (hF lr (ne_kl hM.fm hl1).symm (fun c => (hB c).2.2.symm)).trans hl1, hl2⟩, hC.ns, ⟨z2, ⟨hzR.mp, hzR.ms, (kk9 (by decide) hzR.fp).trans hzR.fp, (hF sz (ne_kl hM.fm hzR.fs).symm (fun c => (hB c).2.1.symm)).trans hzR.fs⟩, hzz⟩, r, ⟨hb1.mp, hb1.ms, (kk9 (by decide) hb1.fp).trans hb1.fp, (hF ba (ne_kl hM.fm hb1.fs).symm (fun c => by obtain ⟨q2, r2, h9⟩ := row c; exact (ne_lr h9 hb1.fs).symm)).trans hb1.fs⟩, fun j a1 a2 => ?_⟩
  obtain ⟨c, h3, h4, h5⟩ := hb2 j a1 a2
  exact ⟨c, h3, h4, (kk9 (i := 0) (by decide) h5).trans h5⟩
theorem OU.fm {t : Int} {σ : Sg} (h : MX cs L f mo B t σ) (hB : HB B sz lr) (ho : f ou = .inl (cs.2.2, 1, .inr (.inl g))) (hF : FM f f1 mo B) : f1 ou = .inl (cs.2.2, 1, .inr (.inl g)) := by
  obtain ⟨g2, zz, ww, hM, _, _, _⟩ := h
  exact (hF ou (ne_kl hM.fm ho).symm (fun c => by obtain ⟨_, q2, r2, h9⟩ := hM.rows hB c; exact ne_jl ho h9)).trans ho
end FRM
/-! what is thrown changes nothing -/
theorem o3k {c1 c2 : Prop} [Decidable c1] [Decidable c2] {v : Int} {τ σ : Sg} (h : (if c1 then (if c2 then ((2 : Int), (0 : Int), σ) else (0, v, τ)) else (1, 0, σ)).1 ≠ 0) : (if c1 then (if c2 then ((2 : Int), (0 : Int), σ) else (0, v, τ)) else (1, 0, σ)).2.2 = σ := by
  by_cases a : c1
  · by_cases b : c2
    · rw [if_pos a, if_pos b]
    · rw [if_pos a, if_neg b] at h; exact absurd rfl h
  · rw [if_neg a]
theorem o2k {c1 : Prop} [Decidable c1] {v : Int} {τ σ : Sg} (h : (if c1 then ((0 : Int), v, τ) else (1, 0, σ)).1 ≠ 0) : (if c1 then ((0 : Int), v, τ) else (1, 0, σ)).2.2 = σ := by
  by_cases a : c1
  · rw [if_pos a] at h; exact absurd rfl h
  · rw [if_neg a]
theorem o2n {c1 : Prop} [Decidable c1] {v : Int} {τ σ : Sg} (h : (if c1 then ((0 : Int), v, τ) else (1, 0, σ)).1 = 2) : False := by
  by_cases a : c1
  · rw [if_pos a] at h; exact absurd h (by show ¬ (0 : Int) = 2; decide)
  · rw [if_neg a] at h; exact absurd h (by show ¬ (1 : Int) = 2; decide)
theorem oIsF_b (nu : Int) (σ : Sg) : 0 ≤ (oIsF nu σ).2.1 ∧ (oIsF nu σ).2.1 ≤ 1 := by
  unfold oIsF
  by_cases a : 0 ≤ nu ∧ nu ≤ 999
  · rw [if_pos a]
    show 0 ≤ (if qF nu σ = -1 ∨ gR σ (qF nu σ) 4 = -1 then (0 : Int) else 1) ∧ (if qF nu σ = -1 ∨ gR σ (qF nu σ) 4 = -1 then (0 : Int) else 1) ≤ 1
    by_cases b : qF nu σ = -1 ∨ gR σ (qF nu σ) 4 = -1
    · rw [if_pos b]; decide
    · rw [if_neg b]; decide
  · rw [if_neg a]; exact ⟨Int.le_refl 0, by show (0 : Int) ≤ 1; decide⟩
/-! the register stays one, call by call -/
theorem iv_3 {c1 c2 : Prop} [Decidable c1] [Decidable c2] {v : Int} {τ σ : Sg} (hI : Inv σ) (h : c1 → ¬ c2 → Inv τ) : Inv (if c1 then (if c2 then ((2 : Int), (0 : Int), σ) else (0, v, τ)) else (1, 0, σ)).2.2 := by
  by_cases a : c1
  · by_cases b : c2
    · rw [if_pos a, if_pos b]; exact hI
    · rw [if_pos a, if_neg b]; exact h a b
  · rw [if_neg a]; exact hI
theorem iv_2 {c1 : Prop} [Decidable c1] {v : Int} {τ σ : Sg} (hI : Inv σ) (h : c1 → Inv τ) : Inv (if c1 then ((0 : Int), v, τ) else (1, 0, σ)).2.2 := by
  by_cases a : c1
  · rw [if_pos a]; exact h a
  · rw [if_neg a]; exact hI
section OINV
variable {σ : Sg}
theorem qf_in {nu9 : Int} (h : ¬ qF nu9 σ = -1) : 0 ≤ qF nu9 σ ∧ qF nu9 σ < gN σ := ⟨(fd_in h).1, (fd_in h).2.1⟩
theorem oPut_v (hI : Inv σ) (nu su sy : Int) : Inv (oPut nu su sy σ).2.2 := iv_3 hI (fun a b => inv_ins hI (by omega) (by omega) (by omega) (Classical.byContradiction fun h9 => b (Or.inl h9)) (by
  by_cases h9 : 80 ≤ gN σ
  · exact absurd (Or.inr h9) b
  · omega))
theorem oPay_v (hI : Inv σ) (nu : Int) : Inv (oPay nu σ).2.2 := iv_3 hI (fun a b => Inv.take (hI.add false _) (qf_in (fun h9 => b (Or.inl h9))))
theorem oFor_v (hI : Inv σ) (nu : Int) : Inv (oFor nu σ).2.2 := iv_3 hI (fun a b => hI.setR (by have h9 := hI.t; omega) (qf_in (fun h9 => b (Or.inl h9))))
theorem oUnd_v (hI : Inv σ) (nu : Int) : Inv (oUnd nu σ).2.2 := iv_3 hI (fun a b => hI.setR (by omega) (qf_in (fun h9 => b (Or.inl h9))))
theorem oAmn_v (hI : Inv σ) (su dy : Int) : Inv (oAmn su dy σ).2.2 := iv_2 hI (fun a => Inv.loop _ hI (by omega) (by have h9 := hI.n; omega))
theorem oSum_v (hI : Inv σ) (nu : Int) : Inv (oSum nu σ).2.2 := iv_2 hI (fun _ => hI)
theorem oIsF_v (hI : Inv σ) (nu : Int) : Inv (oIsF nu σ).2.2 := iv_2 hI (fun _ => hI)
theorem oHel_v (hI : Inv σ) (sy : Int) : Inv (oHel sy σ).2.2 := iv_2 hI (fun _ => hI)
theorem oPas_v (hI : Inv σ) (d : Int) : Inv (oPas d σ).2.2 := iv_3 hI (fun a b => Inv.days _ hI (by omega))
theorem oSiz_v (hI : Inv σ) (pg : Int) : Inv (oSiz pg σ).2.2 := iv_2 hI (fun _ => hI)
theorem oAt_v (hI : Inv σ) (pg pl : Int) : Inv (oAt pg pl σ).2.2 := iv_2 hI (fun _ => hI)
theorem oPgO_v (hI : Inv σ) (nu : Int) : Inv (oPgO nu σ).2.2 := iv_2 hI (fun _ => hI)
theorem oSwe_v (hI : Inv σ) : Inv (oSwe σ).2.2 := iv_2 hI (fun _ => hI.setS (by omega))
theorem oSte_v (hI : Inv σ) (d : Int) : Inv (oSte d σ).2.2 := iv_3 hI (fun a b => Inv.steps _ hI)
theorem oWal_v (hI : Inv σ) (rd : Int) : Inv (oWal rd σ).2.2 := iv_2 hI (fun a => hI.setW (by
  unfold wkV
  by_cases h9 : cu (gR σ) (gN σ) (gW σ rd) < gN σ
  · rw [if_pos h9]
    have h8 := cu_is (gR σ) (n := gN σ) (gW σ rd) hI.n.1
    have h7 := hI.r0 _ h8.1 h9; omega
  · rw [if_neg h9]; omega))
end OINV
