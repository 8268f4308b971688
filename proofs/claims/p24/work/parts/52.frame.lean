/-! the law: the script, numbers; two pools side by side -/
/-- the script's int at place j -/
def sv (xs : Nat → Int32) (j : Int) : Int := (xs j.toNat).toInt
theorem sv_rg (xs : Nat → Int32) (j : Int) : -2147483648 ≤ sv xs j ∧ sv xs j < 2147483648 := iI_rg _
theorem fa_and (a b : Nat) : nI a &&& nI b = nI (a &&& b) := by
  apply Int32.toBitVec_inj.1
  show BitVec.ofNat 32 a &&& BitVec.ofNat 32 b = BitVec.ofNat 32 (a &&& b)
  apply BitVec.eq_of_getLsbD_eq
  intro i hi
  simp [hi]
theorem fa_mask (n k : Nat) : nI n &&& nI (2 ^ k - 1) = nI (n % 2 ^ k) := by rw [fa_and, Nat.and_two_pow_sub_one_eq_mod]
theorem nI_self (x : Int32) : nI x.toBitVec.toNat = x := by
  apply Int32.toBitVec_inj.1
  show BitVec.ofNat 32 x.toBitVec.toNat = x.toBitVec
  simp
theorem nI_iI (k : Nat) : nI k = iI (k : Int) := Int32.ofInt_eq_ofNat.symm
/-- the low bits of v, by n -/
def lw1 (v : Int) : Nat := (iI v).toBitVec.toNat % 2147483648
def lw (v n : Int) : Int := ((lw1 v % n.toNat : Nat) : Int)
theorem lw_rg (v : Int) {n : Int} (h : 1 ≤ n) : 0 ≤ lw v n ∧ lw v n < n := by
  have h1 : 0 < n.toNat := by omega
  have h2 := Nat.mod_lt (lw1 v) h1
  unfold lw
  omega
theorem lw_and (v : Int) : iI v &&& iI 2147483647 = nI (lw1 v) := by
  have e1 := fa_mask ((iI v).toBitVec.toNat) 31
  rw [nI_self] at e1
  rw [show iI 2147483647 = nI (2 ^ 31 - 1) by decide +kernel]
  exact e1
theorem lw_rem (v : Int) {n : Int} (h : 1 ≤ n ∧ n < 2147483648) : nI (lw1 v) - nI (lw1 v) / iI n * iI n = iI (lw v n) := by
  have e1 : iI n = nI n.toNat := by rw [nI_iI, show ((n.toNat : Nat) : Int) = n by omega]
  have h1 : lw1 v < 2 ^ 31 := Nat.mod_lt _ (by decide)
  rw [e1, pk_rem h1 (by omega) (by omega), nI_iI]; rfl
/-- a shift to the right, a product, a remainder, as ints -/
def sh (v k : Int) : Int := (iI v >>> (iI k &&& 31)).toInt
theorem sh_rg (v k : Int) : -2147483648 ≤ sh v k ∧ sh v k < 2147483648 := iI_rg _
def mu (a b : Int) : Int := (iI a * iI b).toInt
theorem mu_rg (a b : Int) : -2147483648 ≤ mu a b ∧ mu a b < 2147483648 := iI_rg _
def re (a b : Int) : Int := (iI a - iI a / iI b * iI b).toInt
theorem re_rg (a b : Int) : -2147483648 ≤ re a b ∧ re a b < 2147483648 := iI_rg _
section XLAW
variable {p : Program} {l : Launch} {e : Env} {R : Room} {s : State} {m : MethodId} {args : Array Value} {below : List Frame} {meth : Method} {c : Code} {H : Heap} {locs : List Loc} {cells slots : Nat} {Q : State → Prop}
variable {cc : ByteArray} {nL pc : Nat} {ls : Array Slot} {rest : List Value} {Ts : List Cond} {own : String} {D : va_G} {cs : ClassId × ClassId × ClassId} {A : Nat → Prop} {H0 : Heap} {L : List Nat} {f : Nat → va_E} {lv lv' : List (Nat × Value)}
/-- two ints that are one -/
theorem x_icmpS_eq (X : XX p m c cc nL s args Ts own D cs) {x : Int32} {off : Int} {tgt : Nat} (ht : (pc : Int) + off = (tgt : Int)) (hdg : decode cc pc = .ok (.if_icmp .eq off, 3)) (k : W p l e R s m args below meth c H locs cells slots Q (F0 m (tgt) ls (rest))) : W p l e R s m args below meth c H locs cells slots Q (F0 m (pc) ls (.int x :: .int x :: rest)) :=
  lv_icmp_eq X.1.1 X.1.2.1 hdg ht (fun _ => k) (fun h9 => absurd rfl h9)
theorem x_icmpS_ne (X : XX p m c cc nL s args Ts own D cs) {x : Int32} {off : Int} {tgt : Nat} (ht : (pc : Int) + off = (tgt : Int)) (hdg : decode cc pc = .ok (.if_icmp .ne off, 3)) (k : W p l e R s m args below meth c H locs cells slots Q (F0 m (pc + 3) ls (rest))) : W p l e R s m args below meth c H locs cells slots Q (F0 m (pc) ls (.int x :: .int x :: rest)) :=
  lv_icmp_ne X.1.1 X.1.2.1 hdg ht (fun h9 => absurd rfl h9) (fun _ => k)
theorem x_sld (X : XX p m c cc nL s args Ts own D cs) (w : XW D A s.heap L f H locs) {b LL : Nat} {xs : Nat → Int32} {j : Int} (hX : va_X b LL xs s s.heap) (hbl : b < s.heap.size) (hbA : ¬ A b) (hj : 0 ≤ j ∧ j < (LL : Int) ∧ LL ≤ 1000000) (hdg : decode cc pc = .ok (.iaload, 1)) (kk : W p l e R s m args below meth c H locs cells slots Q (F0 m (pc + 1) ls (.int (iI (sv xs j)) :: rest))) : W p l e R s m args below meth c H locs cells slots Q (F0 m pc ls (.int (iI j) :: .ref b :: rest)) := by
  refine va_sld X.1.1 X.1.2.1 hX hbl hbA w.2.2 (iI_in ⟨hj.1, hj.2.1⟩ hj.2.2) hdg ?_
  have e1 : (iI j).toNatClampNeg = j.toNat := by have h9 := iI_nat (i := j) (by omega); omega
  rw [e1]
  show W p l e R s m args below meth c H locs cells slots Q (F0 m (pc + 1) ls (.int (xs j.toNat) :: rest))
  rw [← iI_self (xs j.toNat)]; exact kk
theorem x_slen (X : XX p m c cc nL s args Ts own D cs) (w : XW D A s.heap L f H locs) {b LL : Nat} {xs : Nat → Int32} (hX : va_X b LL xs s s.heap) (hbl : b < s.heap.size) (hbA : ¬ A b) (hdg : decode cc pc = .ok (.arraylength, 1)) (kk : W p l e R s m args below meth c H locs cells slots Q (F0 m (pc + 1) ls (.int (iI (LL : Int)) :: rest))) : W p l e R s m args below meth c H locs cells slots Q (F0 m pc ls (.ref b :: rest)) := by
  refine va_slen X.1.1 X.1.2.1 hX hbl hbA w.2.2 hdg ?_
  rw [show Int32.ofNat LL = iI (LL : Int) from Int32.ofInt_eq_ofNat.symm]; exact kk
theorem x_ldc (X : XX p m c cc nL s args Ts own D cs) {index : Nat} {v : Int32} {z : Int} (hm : Cond.constant own index v ∈ Ts) (hv : v = iI z) (hdg : decode cc pc = .ok (.ldc index, 2)) (kk : W p l e R s m args below meth c H locs cells slots Q (F0 m (pc + 2) ls (.int (iI z) :: rest))) : W p l e R s m args below meth c H locs cells slots Q (F0 m pc ls rest) := by
  subst hv
  exact lv_ldc X.1.1 X.1.2.1 X.1.2.2.2.1 (X.1.2.2.2.2 _ hm) hdg kk
theorem x_iandL (X : XX p m c cc nL s args Ts own D cs) {v : Int} (hdg : decode cc pc = .ok (.iand, 1)) (kk : W p l e R s m args below meth c H locs cells slots Q (F0 m (pc + 1) ls (.int (nI (lw1 v)) :: rest))) : W p l e R s m args below meth c H locs cells slots Q (F0 m pc ls (.int (iI 2147483647) :: .int (iI v) :: rest)) := by
  refine lv_iand X.1.1 X.1.2.1 hdg ?_
  rw [lw_and]; exact kk
theorem x_iremL (X : XX p m c cc nL s args Ts own D cs) {v n : Int} (hn : 1 ≤ n ∧ n < 2147483648) (hdg : decode cc pc = .ok (.irem, 1)) (kk : W p l e R s m args below meth c H locs cells slots Q (F0 m (pc + 1) ls (.int (iI (lw v n)) :: rest))) : W p l e R s m args below meth c H locs cells slots Q (F0 m pc ls (.int (iI n) :: .int (nI (lw1 v)) :: rest)) := by
  refine lv_irem X.1.1 X.1.2.1 hdg (fun h9 => ?_) ?_
  · rw [iI_0, iI_eq (by omega) (by omega)] at h9; omega
  · rw [lw_rem v hn]; exact kk
theorem x_irem (X : XX p m c cc nL s args Ts own D cs) {v n : Int} (hn : 1 ≤ n ∧ n < 2147483648) (hdg : decode cc pc = .ok (.irem, 1)) (kk : W p l e R s m args below meth c H locs cells slots Q (F0 m (pc + 1) ls (.int (iI (re v n)) :: rest))) : W p l e R s m args below meth c H locs cells slots Q (F0 m pc ls (.int (iI n) :: .int (iI v) :: rest)) := by
  refine lv_irem X.1.1 X.1.2.1 hdg (fun h9 => ?_) ?_
  · rw [iI_0, iI_eq (by omega) (by omega)] at h9; omega
  · rw [← iI_self (iI v - iI v / iI n * iI n)]; exact kk
theorem x_ishr (X : XX p m c cc nL s args Ts own D cs) {v n : Int} (hdg : decode cc pc = .ok (.ishr, 1)) (kk : W p l e R s m args below meth c H locs cells slots Q (F0 m (pc + 1) ls (.int (iI (sh v n)) :: rest))) : W p l e R s m args below meth c H locs cells slots Q (F0 m pc ls (.int (iI n) :: .int (iI v) :: rest)) := by
  refine lv_ishr X.1.1 X.1.2.1 hdg ?_
  rw [← iI_self (iI v >>> (iI n &&& 31))]; exact kk
theorem x_imul (X : XX p m c cc nL s args Ts own D cs) {v n : Int} (hdg : decode cc pc = .ok (.imul, 1)) (kk : W p l e R s m args below meth c H locs cells slots Q (F0 m (pc + 1) ls (.int (iI (mu v n)) :: rest))) : W p l e R s m args below meth c H locs cells slots Q (F0 m pc ls (.int (iI n) :: .int (iI v) :: rest)) := by
  refine lv_imul X.1.1 X.1.2.1 hdg ?_
  rw [← iI_self (iI v * iI n)]; exact kk
end XLAW
/-! two pools side by side: a contract of the one leaves the other as it is -/
def jn : Bool → List Nat → List Nat → List Nat
  | true, a, b => a ++ b
  | false, a, b => b ++ a
def gl (L2 : List Nat) (f2 f : Nat → va_E) : Nat → va_E := fun a => if a ∈ L2 then f2 a else f a
section POOLS
variable {D : va_G} {cl : List vw_C} {A : Nat → Prop} {H : Heap} {L Lr L2 : List Nat} {f f2 : Nat → va_E} {b : Bool} {sz q : Nat} {cs : ClassId × ClassId × ClassId} {st t : State}
theorem mem_jn {a : Nat} : a ∈ jn b L Lr ↔ a ∈ L ∨ a ∈ Lr := by
  cases b
  · exact List.mem_append.trans Or.comm
  · exact List.mem_append
theorem nd_jn : (jn b L Lr).Nodup ↔ L.Nodup ∧ Lr.Nodup ∧ ∀ a, a ∈ L → a ∈ Lr → False := by
  cases b
  · exact ⟨fun h => ⟨(List.nodup_append.mp h).2.1, (List.nodup_append.mp h).1, fun a h1 h2 => (List.nodup_append.mp h).2.2 a h2 a h1 rfl⟩, fun h => List.nodup_append.mpr ⟨h.2.1, h.1, fun a h1 c h2 he => h.2.2 a (by rw [he]; exact h2) h1⟩⟩
  · exact ⟨fun h => ⟨(List.nodup_append.mp h).1, (List.nodup_append.mp h).2.1, fun a h1 h2 => (List.nodup_append.mp h).2.2 a h1 a h2 rfl⟩, fun h => List.nodup_append.mpr ⟨h.1, h.2.1, fun a h1 c h2 he => h.2.2 a h1 (by rw [he]; exact h2)⟩⟩
theorem pl_at {k : Nat} {x : Nat × va_E} (h : (va_pl L f)[k]? = some x) : L[k]? = some x.1 ∧ x.2 = f x.1 := by
  unfold va_pl at h
  rw [List.getElem?_map] at h
  cases hi : L[k]? with
  | none => rw [hi] at h; cases h
  | some a => rw [hi] at h; cases h; exact ⟨rfl, rfl⟩
theorem pl_P : va_P D cl (va_pl L f) H ↔ ∀ a, a ∈ L → va_at D cl (a, f a) H := by
  refine ⟨fun h a ha => ?_, fun h k x hk => ?_⟩
  · obtain ⟨k, hk⟩ := xw_at (f := f) rfl ha rfl
    exact h k _ hk
  · obtain ⟨h1, h2⟩ := pl_at hk
    have h3 := h x.1 (List.mem_of_getElem? h1)
    rw [← h2] at h3; exact h3
theorem pl_D : va_D A (va_pl L f) ↔ L.Nodup ∧ ∀ a, a ∈ L → A a := by
  refine ⟨fun h => ⟨List.pairwise_iff_getElem.mpr (fun i j hi hj hij he => ?_), fun a ha => ?_⟩, fun h => ⟨fun i j x y hi hj he => ?_, fun k x hk => h.2 x.1 (List.mem_of_getElem? (pl_at hk).1)⟩⟩
  · have e1 : ∀ k (hk : k < L.length), (va_pl L f)[k]? = some (L[k], f L[k]) := fun k hk => by
      unfold va_pl; rw [List.getElem?_map, List.getElem?_eq_getElem hk]; rfl
    have h1 := h.1 i j _ _ (e1 i hi) (e1 j hj) he
    omega
  · obtain ⟨k, hk⟩ := xw_at (f := f) rfl ha rfl
    exact h.2 k _ hk
  · have h1 := (pl_at hi).1
    have h2 := (pl_at hj).1
    rw [← he] at h2
    obtain ⟨g1, g2⟩ := List.getElem?_eq_some_iff.mp h1
    obtain ⟨g3, g4⟩ := List.getElem?_eq_some_iff.mp h2
    rcases Nat.lt_trichotomy i j with h9 | h9 | h9
    · exact absurd (g2.trans g4.symm) (List.pairwise_iff_getElem.mp h.1 i j g1 g3 h9)
    · exact h9
    · exact absurd (g4.trans g2.symm) (List.pairwise_iff_getElem.mp h.1 j i g3 g1 h9)
theorem pl_A : va_A (va_pl L f) sz q ↔ q ∈ L ∨ sz ≤ q := by
  refine ⟨fun h => h.elim (fun h1 => ?_) Or.inr, fun h => h.elim (fun h1 => ?_) Or.inr⟩
  · obtain ⟨k, e, hk⟩ := h1
    exact Or.inl (List.mem_of_getElem? (pl_at hk).1)
  · obtain ⟨k, hk⟩ := xw_at (f := f) rfl h1 rfl
    exact Or.inl ⟨k, _, hk⟩
theorem pl_w (h : va_A (va_pl L f) sz q) : va_A (va_pl (jn b L Lr) f) sz q := pl_A.mpr ((pl_A.mp h).elim (fun h1 => Or.inl (mem_jn.mpr (Or.inl h1))) Or.inr)
theorem pl_P1 (h : va_P D cl (va_pl (jn b L Lr) f) H) : va_P D cl (va_pl L f) H := pl_P.mpr (fun a ha => pl_P.mp h a (mem_jn.mpr (Or.inl ha)))
theorem pl_D1 (h : va_D A (va_pl (jn b L Lr) f)) : va_D A (va_pl L f) := pl_D.mpr ⟨(nd_jn.mp (pl_D.mp h).1).1, fun a ha => (pl_D.mp h).2 a (mem_jn.mpr (Or.inl ha))⟩
theorem fr_core (hP : va_P D vwCl (va_pl (jn b L Lr) f) st.heap) (hD : va_D (fun _ => True) (va_pl (jn b L Lr) f)) (hsz : st.heap.size = sz) (hB : CB D cs (va_A (va_pl L f) sz) (L2, f2) t) (hF : va_F (va_A (va_pl L f) sz) st t) :
    CB D cs (va_A (va_pl (jn b L Lr) f) sz) (jn b L2 Lr, gl L2 f2 f) t ∧ (∀ a, a ∈ Lr → gl L2 f2 f a = f a) ∧ va_F (va_A (va_pl (jn b L Lr) f) sz) st t := by
  obtain ⟨hB1, hB2, hB3⟩ := hB
  have hPm := pl_P.mp hP
  have hN := nd_jn.mp (pl_D.mp hD).1
  have hP2 := pl_P.mp hB1
  have hD2 := pl_D.mp hB3
  have hap : ∀ a, a ∈ Lr → a < st.heap.size ∧ ¬ va_A (va_pl L f) sz a := fun a ha => ⟨(hPm a (mem_jn.mpr (Or.inr ha))).lt, fun h => (pl_A.mp h).elim (fun h1 => hN.2.2 a h1 ha) (fun h1 => by
    have h2 : a < st.heap.size := (hPm a (mem_jn.mpr (Or.inr ha))).lt
    omega)⟩
  have hne : ∀ a, a ∈ Lr → a ∉ L2 := fun a ha h => (hap a ha).2 (hD2.2 a h)
  have e1 : ∀ a, a ∈ L2 → gl L2 f2 f a = f2 a := fun a ha => if_pos ha
  have e2 : ∀ a, a ∈ Lr → gl L2 f2 f a = f a := fun a ha => if_neg (hne a ha)
  refine ⟨⟨pl_P.mpr (fun a ha => ?_), hB2, pl_D.mpr ⟨nd_jn.mpr ⟨hD2.1, hN.2.1, fun a h1 h2 => hne a h2 h1⟩, fun a ha => ?_⟩⟩, e2, hF.1, fun x h1 h2 => hF.2 x h1 (fun h3 => h2 (pl_w h3))⟩
  · show va_at D vwCl (a, gl L2 f2 f a) t.heap
    rcases mem_jn.mp ha with h | h
    · rw [e1 a h]; exact hP2 a h
    · rw [e2 a h]; exact (hPm a (mem_jn.mpr (Or.inr h))).kept (hF.2 a (hap a h).1 (hap a h).2)
  · rcases mem_jn.mp ha with h | h
    · exact pl_w (hD2.2 a h)
    · exact pl_A.mpr (Or.inl (mem_jn.mpr (Or.inr h)))
variable {l : Launch} {y : MethodName} {ws : List Cond} {rm : Room} {al : List Value} {post : Option Value → List Nat → (Nat → va_E) → Prop} {px : String → Prop} {Z : State → Prop}
def frP (b : Bool) (Lr : List Nat) (f : Nat → va_E) (post : Option Value → List Nat → (Nat → va_E) → Prop) : Option Value → List Nat → (Nat → va_E) → Prop := fun v L1 f1 => ∃ L2 f2, L1 = jn b L2 Lr ∧ post v L2 f2 ∧ (∀ a, a ∈ L2 → f1 a = f2 a) ∧ ∀ a, a ∈ Lr → f1 a = f a
theorem C0.fr (b : Bool) (Lr : List Nat) (h : C0 l y ws rm D cs al L f post) : C0 l y ws rm D cs al (jn b L Lr) f (frP b Lr f post) := by
  intro sz p e h1 h2 h3 s m a below hfr happ hp hk
  obtain ⟨h0, hsz, hP, hK, hD⟩ := hp
  obtain ⟨n, o, c1, c2, c3, ⟨⟨v, u, ho, hpo, hb⟩, hF⟩, L9, hfe, hfree⟩ := h sz p e h1 h2 h3 s m a below hfr happ ⟨h0, hsz, pl_P1 hP, hK, pl_D1 hD⟩ trivial
  have hc := fr_core hP hD hsz hb hF
  exact ⟨n, o, c1, c2, c3, ⟨⟨v, (jn b u.1 Lr, gl u.1 u.2 f), ho, ⟨u.1, u.2, rfl, hpo, fun a h => if_pos h, hc.2.1⟩, hc.1⟩, hc.2.2⟩, L9, hfe, fun q hq => pl_w (hfree q hq)⟩
theorem C0z.fr (b : Bool) (Lr : List Nat) (h : C0z Z l y ws rm D cs al L f post) : C0z Z l y ws rm D cs al (jn b L Lr) f (frP b Lr f post) := by
  intro sz p e h1 h2 h3 s m a below hfr happ hp hk
  obtain ⟨h0, hsz, hP, hK, hD, hz⟩ := hp
  obtain ⟨n, o, c1, c2, c3, ⟨⟨v, u, ho, hpo, hb⟩, hF⟩, L9, hfe, hfree⟩ := h sz p e h1 h2 h3 s m a below hfr happ ⟨h0, hsz, pl_P1 hP, hK, pl_D1 hD, hz⟩ trivial
  have hc := fr_core hP hD hsz hb hF
  exact ⟨n, o, c1, c2, c3, ⟨⟨v, (jn b u.1 Lr, gl u.1 u.2 f), ho, ⟨u.1, u.2, rfl, hpo, fun a h => if_pos h, hc.2.1⟩, hc.1⟩, hc.2.2⟩, L9, hfe, fun q hq => pl_w (hfree q hq)⟩
theorem C1.fr (b : Bool) (Lr : List Nat) (h : C1 l y ws rm D cs al L f post px) : C1 l y ws rm D cs al (jn b L Lr) f (frP b Lr f post) px := by
  intro sz p e h1 h2 h3 s m a below hfr happ hp hk
  obtain ⟨h0, hsz, hP, hK, hD, hV, hZ⟩ := hp
  obtain ⟨n, o, c1, c2, c3, hq⟩ := h sz p e h1 h2 h3 s m a below hfr happ ⟨h0, hsz, pl_P1 hP, hK, pl_D1 hD, hV, hZ.1.narrow (fun q => pl_w), hZ.2.narrow (fun q => pl_w)⟩ trivial
  refine ⟨n, o, c1, c2, c3, ?_⟩
  rcases hq with ⟨⟨⟨v, u, ho, hpo, hb⟩, hF⟩, L9, hfe, hfree⟩ | ⟨q, ho, E, ce, L9, ⟨u, hu, ⟨hpx, hb⟩, hF⟩, hce, hcv, hcl, hW, hsm, hfree⟩
  · have hc := fr_core hP hD hsz hb hF
    exact Or.inl ⟨⟨⟨v, (jn b u.1 Lr, gl u.1 u.2 f), ho, ⟨u.1, u.2, rfl, hpo, fun a h => if_pos h, hc.2.1⟩, hc.1⟩, hc.2.2⟩, L9, hfe, fun q hq => pl_w (hfree q hq)⟩
  · subst hu
    have hc := fr_core hP hD hsz hb hF
    have e9 : gl L f f = f := funext (fun a => by unfold gl; split <;> rfl)
    rw [e9] at hc
    exact Or.inr ⟨q, ho, E, ce, L9, ⟨(jn b L Lr, f), rfl, ⟨hpx, hc.1⟩, hc.2.2⟩, hce, hcv, hcl, hW, hsm, fun z hz => pl_w (hfree z hz)⟩
end POOLS
theorem C0.fL {l : Launch} {y : MethodName} {ws : List Cond} {rm : Room} {D : va_G} {cs : ClassId × ClassId × ClassId} {al : List Value} {L : List Nat} {f : Nat → va_E} {post : Option Value → List Nat → (Nat → va_E) → Prop} (Lr : List Nat) (h : C0 l y ws rm D cs al L f post) : C0 l y ws rm D cs al (L ++ Lr) f (frP true Lr f post) := h.fr true Lr
theorem C0.fR {l : Launch} {y : MethodName} {ws : List Cond} {rm : Room} {D : va_G} {cs : ClassId × ClassId × ClassId} {al : List Value} {L : List Nat} {f : Nat → va_E} {post : Option Value → List Nat → (Nat → va_E) → Prop} (Lr : List Nat) (h : C0 l y ws rm D cs al L f post) : C0 l y ws rm D cs al (Lr ++ L) f (frP false Lr f post) := h.fr false Lr
theorem C0z.fR {Z : State → Prop} {l : Launch} {y : MethodName} {ws : List Cond} {rm : Room} {D : va_G} {cs : ClassId × ClassId × ClassId} {al : List Value} {L : List Nat} {f : Nat → va_E} {post : Option Value → List Nat → (Nat → va_E) → Prop} (Lr : List Nat) (h : C0z Z l y ws rm D cs al L f post) : C0z Z l y ws rm D cs al (Lr ++ L) f (frP false Lr f post) := h.fr false Lr
theorem C1.fL {l : Launch} {y : MethodName} {ws : List Cond} {rm : Room} {D : va_G} {cs : ClassId × ClassId × ClassId} {al : List Value} {L : List Nat} {f : Nat → va_E} {post : Option Value → List Nat → (Nat → va_E) → Prop} {px : String → Prop} (Lr : List Nat) (h : C1 l y ws rm D cs al L f post px) : C1 l y ws rm D cs al (L ++ Lr) f (frP true Lr f post) px := h.fr true Lr
theorem C1.fR {l : Launch} {y : MethodName} {ws : List Cond} {rm : Room} {D : va_G} {cs : ClassId × ClassId × ClassId} {al : List Value} {L : List Nat} {f : Nat → va_E} {post : Option Value → List Nat → (Nat → va_E) → Prop} {px : String → Prop} (Lr : List Nat) (h : C1 l y ws rm D cs al L f post px) : C1 l y ws rm D cs al (Lr ++ L) f (frP false Lr f post) px := h.fr false Lr
section CXE
variable {cs : ClassId × ClassId × ClassId} {L L2 : List Nat} {f f1 : Nat → va_E} {x br ba pr sz lr : Nat} {n : Int} {R : Rc} {k : Int} {z : Int → Int} {td kp pb sw : Int} {w : Int → Int}
theorem CX.ext (h : CX cs L f x br ba pr sz lr n R k z td kp pb sw w) (hs : ∀ a, a ∈ L → a ∈ L2) (hf : ∀ a, a ∈ L → f1 a = f a) : CX cs L2 f1 x br ba pr sz lr n R k z td kp pb sw w := by
  obtain ⟨ww, hl1, hl2⟩ := h.fl
  obtain ⟨r, hb1, hb2⟩ := h.rb
  obtain ⟨zz, hzR, hzz⟩ := h.pp
  refine ⟨hs _ h.mx, (hf _ h.mx).trans h.fx, hs _ h.ml, ⟨ww, (hf _ h.ml).trans hl1, hl2⟩, h.ns, ⟨zz, ⟨hs _ hzR.mp, hs _ hzR.ms, (hf _ hzR.mp).trans hzR.fp, (hf _ hzR.ms).trans hzR.fs⟩, hzz⟩, r, ⟨hs _ hb1.mp, hs _ hb1.ms, (hf _ hb1.mp).trans hb1.fp, (hf _ hb1.ms).trans hb1.fs⟩, fun j a1 a2 => ?_⟩
  obtain ⟨c, h3, h4, h5⟩ := hb2 j a1 a2
  exact ⟨c, h3, hs _ h4, (hf _ h4).trans h5⟩
theorem CX.inL (h : CX cs L f x br ba pr sz lr n R k z td kp pb sw w) (Lr : List Nat) : CX cs (L ++ Lr) f x br ba pr sz lr n R k z td kp pb sw w := h.ext (fun _ q => List.mem_append_left _ q) (fun _ _ => rfl)
theorem CX.inR (h : CX cs L f x br ba pr sz lr n R k z td kp pb sw w) (Lr : List Nat) : CX cs (Lr ++ L) f x br ba pr sz lr n R k z td kp pb sw w := h.ext (fun _ q => List.mem_append_right _ q) (fun _ _ => rfl)
end CXE
