/-! the law's cases: one call of each side, the answers held against each other -/
def LI (cs : ClassId × ClassId × ClassId) (L : List Nat) (f : Nat → va_E) (x br ba pr sz lr mo : Nat) (B : Nat → Nat) (ou : Nat) (σ : Sg) : Prop :=
  CC cs L f x br ba pr sz lr σ ∧ (∃ t, MX cs L f mo B t σ) ∧ Inv σ ∧ HB B sz lr ∧ ou ∈ L ∧ ∃ g, f ou = .inl (cs.2.2, 1, .inr (.inl g))
section LCASES
variable {p : Program} {l : Launch} {e : Env} {s : State} {m : MethodId} {below : List Frame} {meth : Method} {c : Code} {H : Heap} {locs : List Loc} {cells slots : Nat} {Q : State → Prop} {ls : Array Slot}
variable {D : va_G} {cs : ClassId × ClassId × ClassId} {A : Nat → Prop} {L : List Nat} {f0 : Nat → va_E} {b LL : Nat} {xs : Nat → Int32} {x br ba pr sz lr mo ou : Nat} {B : Nat → Nat} {σ : Sg} {i : Int}

theorem k_L_law_L_put : XH wsL_law RL 69 yL_put cL_put 6 (some .int) [(0, 12, 15, 13), (0, 12, 19, 15)] wsL_put 5 := ⟨gL_law_L_put, ⟨_, rfl⟩, by decide, by decide, by decide +kernel⟩
theorem k_L_law_X4_put : XV wsL_law RL 74 RX4 yX4_put cX4_put 7 (some .int) wsX4_put 3 := ⟨gL_law_X4_put, ⟨_, rfl⟩, rfl, by decide, by decide, by decide +kernel⟩
theorem k_L_law_X4_thrown : XV wsL_law RL 75 RX4 yX4_thrown cX4_thrown 1 (some .int) wsX4_thrown 0 := ⟨gL_law_X4_thrown, ⟨_, rfl⟩, rfl, by decide, by decide, by decide +kernel⟩
set_option maxHeartbeats 4000000 in
set_option maxRecDepth 100000 in
theorem lc_0 (X : XX p m c cL_law 7 s #[Value.ref b] wsL_law RL D cs) (hl9 : l.stackTraces = false) (hV : EV s) (hZ : EZ A s s.heap) (hA : ∀ q, s.heap.size ≤ q → A q) (hXs : va_X b LL xs s s.heap) (hbl : b < s.heap.size) (hbA : ¬ A b) (hLL : LL ≤ 2048) (hLI : LI cs L f0 x br ba pr sz lr mo B ou σ) (w : XW D A s.heap L f0 H locs) (hi : 0 ≤ i ∧ i + 3 < (LL : Int)) (hcs : cells + 2 ≤ 628090 ∧ slots + 12 ≤ 7211835) (hl : lv_has ls 7 [(4, .int (iI i)), (3, .ref ou), (2, .ref mo), (1, .ref x), (0, .ref b)])
  (K : ∀ (σ2 : Sg) (L2 : List Nat) (f2 : Nat → va_E) (H2 : Heap) (locs2 : List Loc) (ls2 : Array Slot), LI cs L2 f2 x br ba pr sz lr mo B ou σ2 → XW D A s.heap L2 f2 H2 locs2 → lv_has ls2 7 [(4, .int (iI i)), (3, .ref ou), (2, .ref mo), (1, .ref x), (0, .ref b)] → W p l e room_1 s m #[Value.ref b] below meth c H2 locs2 (cells + 2) (slots + 12) Q (F0 m 1057 ls2 [])) :
  W p l e room_1 s m #[Value.ref b] below meth c H locs cells slots Q (F0 m 136 ls []) := by
  obtain ⟨hC, ⟨t0, hX⟩, hI, hB, hmo, g0, hou⟩ := hLI
  refine x_al_n X hl 3 rfl rfl dL_law_136 ?_
  refine x_al_n X hl 4 rfl rfl dL_law_137 ?_
  refine x_il X hl 0 rfl dL_law_138 ?_
  refine x_iconst X dL_law_140 ?_
  refine x_iadd X dL_law_141 ?_
  refine x_sld (xs := xs) X w hXs hbl hbA (by omega) dL_law_142 ?_
  refine x_al_n X hl 4 rfl rfl dL_law_143 ?_
  refine x_il X hl 0 rfl dL_law_144 ?_
  refine x_iconst X dL_law_146 ?_
  refine x_iadd X dL_law_147 ?_
  refine x_sld (xs := xs) X w hXs hbl hbA (by omega) dL_law_148 ?_
  refine x_al_n X hl 4 rfl rfl dL_law_149 ?_
  refine x_il X hl 0 rfl dL_law_150 ?_
  refine x_iconst X dL_law_152 ?_
  refine x_iadd X dL_law_153 ?_
  refine x_sld (xs := xs) X w hXs hbl hbA (by omega) dL_law_154 ?_
  refine x_al_n X hl 1 rfl rfl dL_law_155 ?_
  refine x_callH1 (As := [.ref x, .int (iI (sv xs (i + 1))), .int (iI (sv xs (i + 2))), .int (iI (sv xs (i + 3))), .ref ou]) (rest := []) (c1 := cells + 2) (s1 := slots + 12) X w hA hV hZ (c_L_put l D cs hl9 L f0 x br ba pr sz lr ou σ (sv xs (i + 1)) (sv xs (i + 2)) (sv xs (i + 3)) g0 hC hI (⟨sv_rg xs (i + 1), sv_rg xs (i + 2), sv_rg xs (i + 3)⟩) hmo hou) k_L_law_L_put (by decide) rfl hl rfl (Nat.le_of_ble_eq_true rfl) ⟨by show cells + 2 ≤ 628090; omega, by show slots + 12 ≤ 7211835; omega⟩ rfl rfl dL_law_156 (fun v L1 f1 H locs w hp => ?_)
  obtain ⟨rfl, hC2, hsub, hFO, hob, g2, hou2, hov⟩ := hp
  have hX := MX.fo hX hB hC hou hFO hsub
  have hmo := hsub _ hmo
  have hC := hC2
  have hou := hou2
  have hX9 := hX
  obtain ⟨g9, z9, w9, hM9, hag9⟩ := hX9
  have hMm := hM9.mm
  have hMf := hM9.fm
  show W p l e _ s m _ below meth c _ _ _ _ _ (F0 m 159 ls [.int (iI ((oPut (sv xs (i + 1)) (sv xs (i + 2)) (sv xs (i + 3)) σ).1))])
  refine x_is (lv' := [(5, .int (iI ((oPut (sv xs (i + 1)) (sv xs (i + 2)) (sv xs (i + 3)) σ).1))), (4, .int (iI i)), (3, .ref ou), (2, .ref mo), (1, .ref x), (0, .ref b)]) X hl (by decide) rfl dL_law_159 (fun ls hl => ?_)
  refine x_al_n X hl 3 rfl rfl dL_law_161 ?_
  refine x_al_n X hl 5 rfl rfl dL_law_162 ?_
  refine x_il X hl 1 rfl dL_law_163 ?_
  refine x_iconst X dL_law_165 ?_
  refine x_iadd X dL_law_166 ?_
  refine x_sld (xs := xs) X w hXs hbl hbA (by omega) dL_law_167 ?_
  refine x_al_n X hl 5 rfl rfl dL_law_168 ?_
  refine x_il X hl 1 rfl dL_law_169 ?_
  refine x_iconst X dL_law_171 ?_
  refine x_iadd X dL_law_172 ?_
  refine x_sld (xs := xs) X w hXs hbl hbA (by omega) dL_law_173 ?_
  refine x_al_n X hl 5 rfl rfl dL_law_174 ?_
  refine x_il X hl 1 rfl dL_law_175 ?_
  refine x_iconst X dL_law_177 ?_
  refine x_iadd X dL_law_178 ?_
  refine x_sld (xs := xs) X w hXs hbl hbA (by omega) dL_law_179 ?_
  refine x_callV (As := [.int (iI (sv xs (i + 1))), .int (iI (sv xs (i + 2))), .int (iI (sv xs (i + 3)))]) (rest := []) (c1 := cells + 2) (s1 := slots + 12) X w hA (c_X4_put l D cs L1 f1 mo B _ σ (sv xs (i + 1)) (sv xs (i + 2)) (sv xs (i + 3)) hX hI (⟨sv_rg xs (i + 1), sv_rg xs (i + 2), sv_rg xs (i + 3)⟩)) k_L_law_X4_put (by decide) hMm hMf rfl rfl rfl hl rfl (Nat.le_of_ble_eq_true rfl) ⟨by show cells + 2 + 0 ≤ 628090; omega, by show slots + 12 + 0 ≤ 7211835; omega⟩ rfl rfl dL_law_180 (fun v L1 f1 H locs w hp => ?_)
  obtain ⟨rfl, rfl, hfm, hX2⟩ := hp
  have hC := CX.fm hX hB hC hfm
  have hou := OU.fm hX hB hou hfm
  have hX := hX2
  have hX9 := hX
  obtain ⟨g9, z9, w9, hM9, hag9⟩ := hX9
  have hMm := hM9.mm
  have hMf := hM9.fm
  show W p l e _ s m _ below meth c _ _ _ _ _ (F0 m 183 ls [.int (iI ((oPut (sv xs (i + 1)) (sv xs (i + 2)) (sv xs (i + 3)) σ).2.1))])
  refine x_is (lv' := [(6, .int (iI ((oPut (sv xs (i + 1)) (sv xs (i + 2)) (sv xs (i + 3)) σ).2.1))), (5, .int (iI ((oPut (sv xs (i + 1)) (sv xs (i + 2)) (sv xs (i + 3)) σ).1))), (4, .int (iI i)), (3, .ref ou), (2, .ref mo), (1, .ref x), (0, .ref b)]) X hl (by decide) rfl dL_law_183 (fun ls hl => ?_)
  refine x_al_n X hl 4 rfl rfl dL_law_185 ?_
  refine x_callV (As := []) (rest := []) (c1 := cells + 2) (s1 := slots + 12) X w hA (c_X4_thrown l D cs L1 f1 mo B _ _ _ _ _ _ _ _ _ _ hM9) k_L_law_X4_thrown (by decide) hMm hMf rfl rfl rfl hl rfl (Nat.le_of_ble_eq_true rfl) ⟨by show cells + 2 + 0 ≤ 628090; omega, by show slots + 12 + 0 ≤ 7211835; omega⟩ rfl rfl dL_law_186 (fun v L1 f1 H locs w hp => ?_)
  obtain ⟨rfl, rfl, hp⟩ := hp
  subst hp
  show W p l e _ s m _ below meth c _ _ _ _ _ (F0 m 189 ls [.int (iI ((oPut (sv xs (i + 1)) (sv xs (i + 2)) (sv xs (i + 3)) σ).1))])
  refine x_il X hl 1 rfl dL_law_189 ?_
  refine x_icmpS_eq (tgt := 196) X (by decide) dL_law_191 ?_
  refine x_il X hl 1 rfl dL_law_196 ?_
  refine x_if_ne (tgt := 213) X (by omega) (by decide) dL_law_198 (fun hb198 => ?_) (fun hb198 => ?_)
  · refine x_goto (tgt := 1057) X (by decide) dL_law_213 ?_
    refine W.widen (k := cells + 2) (n := slots + 12) (by omega) (by omega) ?_
    exact K _ _ _ _ _ _ ⟨hC, ⟨_, hX⟩, (oPut_v hI _ _ _), hB, hmo, _, hou⟩ w (lv_sub hl [2, 3, 4, 5, 6] rfl)
  · refine x_al_n X hl 3 rfl rfl dL_law_201 ?_
    refine x_iconst X dL_law_202 ?_
    refine x_lald (v := iL ((oPut (sv xs (i + 1)) (sv xs (i + 2)) (sv xs (i + 3)) σ).2.1)) X w hmo hou (hov hb198) dL_law_203 ?_
    refine x_il X hl 0 rfl dL_law_204 ?_
    refine x_i2l X dL_law_206 ?_
    refine x_lcmpS X rfl dL_law_207 ?_
    refine x_ifT_eq (tgt := 213) X (by decide) (by decide) (by decide) dL_law_208 ?_
    refine x_goto (tgt := 1057) X (by decide) dL_law_213 ?_
    refine W.widen (k := cells + 2) (n := slots + 12) (by omega) (by omega) ?_
    exact K _ _ _ _ _ _ ⟨hC, ⟨_, hX⟩, (oPut_v hI _ _ _), hB, hmo, _, hou⟩ w (lv_sub hl [2, 3, 4, 5, 6] rfl)

theorem k_L_law_L_payBack : XH wsL_law RL 79 yL_payBack cL_payBack 4 (some .int) [(0, 9, 12, 13), (0, 9, 15, 15)] wsL_payBack 3 := ⟨gL_law_L_payBack, ⟨_, rfl⟩, by decide, by decide, by decide +kernel⟩
theorem k_L_law_X4_payBack : XV wsL_law RL 82 RX4 yX4_payBack cX4_payBack 4 (some .int) wsX4_payBack 1 := ⟨gL_law_X4_payBack, ⟨_, rfl⟩, rfl, by decide, by decide, by decide +kernel⟩
set_option maxHeartbeats 4000000 in
set_option maxRecDepth 100000 in
theorem lc_1 (X : XX p m c cL_law 7 s #[Value.ref b] wsL_law RL D cs) (hl9 : l.stackTraces = false) (hV : EV s) (hZ : EZ A s s.heap) (hA : ∀ q, s.heap.size ≤ q → A q) (hXs : va_X b LL xs s s.heap) (hbl : b < s.heap.size) (hbA : ¬ A b) (hLL : LL ≤ 2048) (hLI : LI cs L f0 x br ba pr sz lr mo B ou σ) (w : XW D A s.heap L f0 H locs) (hi : 0 ≤ i ∧ i + 3 < (LL : Int)) (hcs : cells + 2 ≤ 628090 ∧ slots + 12 ≤ 7211835) (hl : lv_has ls 7 [(4, .int (iI i)), (3, .ref ou), (2, .ref mo), (1, .ref x), (0, .ref b)])
  (K : ∀ (σ2 : Sg) (L2 : List Nat) (f2 : Nat → va_E) (H2 : Heap) (locs2 : List Loc) (ls2 : Array Slot), LI cs L2 f2 x br ba pr sz lr mo B ou σ2 → XW D A s.heap L2 f2 H2 locs2 → lv_has ls2 7 [(4, .int (iI i)), (3, .ref ou), (2, .ref mo), (1, .ref x), (0, .ref b)] → W p l e room_1 s m #[Value.ref b] below meth c H2 locs2 (cells + 2) (slots + 12) Q (F0 m 1057 ls2 [])) :
  W p l e room_1 s m #[Value.ref b] below meth c H locs cells slots Q (F0 m 216 ls []) := by
  obtain ⟨hC, ⟨t0, hX⟩, hI, hB, hmo, g0, hou⟩ := hLI
  refine x_al_n X hl 3 rfl rfl dL_law_216 ?_
  refine x_al_n X hl 4 rfl rfl dL_law_217 ?_
  refine x_il X hl 0 rfl dL_law_218 ?_
  refine x_iconst X dL_law_220 ?_
  refine x_iadd X dL_law_221 ?_
  refine x_sld (xs := xs) X w hXs hbl hbA (by omega) dL_law_222 ?_
  refine x_al_n X hl 1 rfl rfl dL_law_223 ?_
  refine x_callH1 (As := [.ref x, .int (iI (sv xs (i + 1))), .ref ou]) (rest := []) (c1 := cells + 2) (s1 := slots + 12) X w hA hV hZ (c_L_payBack l D cs hl9 L f0 x br ba pr sz lr ou σ (sv xs (i + 1)) g0 hC hI (sv_rg xs (i + 1)) hmo hou) k_L_law_L_payBack (by decide) rfl hl rfl (Nat.le_of_ble_eq_true rfl) ⟨by show cells + 2 ≤ 628090; omega, by show slots + 12 ≤ 7211835; omega⟩ rfl rfl dL_law_224 (fun v L1 f1 H locs w hp => ?_)
  obtain ⟨rfl, hC2, hsub, hFO, hob, g2, hou2, hov⟩ := hp
  have hX := MX.fo hX hB hC hou hFO hsub
  have hmo := hsub _ hmo
  have hC := hC2
  have hou := hou2
  have hX9 := hX
  obtain ⟨g9, z9, w9, hM9, hag9⟩ := hX9
  have hMm := hM9.mm
  have hMf := hM9.fm
  show W p l e _ s m _ below meth c _ _ _ _ _ (F0 m 227 ls [.int (iI ((oPay (sv xs (i + 1)) σ).1))])
  refine x_is (lv' := [(5, .int (iI ((oPay (sv xs (i + 1)) σ).1))), (4, .int (iI i)), (3, .ref ou), (2, .ref mo), (1, .ref x), (0, .ref b)]) X hl (by decide) rfl dL_law_227 (fun ls hl => ?_)
  refine x_al_n X hl 3 rfl rfl dL_law_229 ?_
  refine x_al_n X hl 5 rfl rfl dL_law_230 ?_
  refine x_il X hl 1 rfl dL_law_231 ?_
  refine x_iconst X dL_law_233 ?_
  refine x_iadd X dL_law_234 ?_
  refine x_sld (xs := xs) X w hXs hbl hbA (by omega) dL_law_235 ?_
  refine x_callV (As := [.int (iI (sv xs (i + 1)))]) (rest := []) (c1 := cells + 2) (s1 := slots + 12) X w hA (c_X4_payBack l D cs L1 f1 mo B _ σ (sv xs (i + 1)) hX hI (sv_rg xs (i + 1))) k_L_law_X4_payBack (by decide) hMm hMf rfl rfl rfl hl rfl (Nat.le_of_ble_eq_true rfl) ⟨by show cells + 2 + 0 ≤ 628090; omega, by show slots + 12 + 0 ≤ 7211835; omega⟩ rfl rfl dL_law_236 (fun v L1 f1 H locs w hp => ?_)
  obtain ⟨rfl, rfl, hfm, hX2⟩ := hp
  have hC := CX.fm hX hB hC hfm
  have hou := OU.fm hX hB hou hfm
  have hX := hX2
  have hX9 := hX
  obtain ⟨g9, z9, w9, hM9, hag9⟩ := hX9
  have hMm := hM9.mm
  have hMf := hM9.fm
  show W p l e _ s m _ below meth c _ _ _ _ _ (F0 m 239 ls [.int (iI ((oPay (sv xs (i + 1)) σ).2.1))])
  refine x_is (lv' := [(6, .int (iI ((oPay (sv xs (i + 1)) σ).2.1))), (5, .int (iI ((oPay (sv xs (i + 1)) σ).1))), (4, .int (iI i)), (3, .ref ou), (2, .ref mo), (1, .ref x), (0, .ref b)]) X hl (by decide) rfl dL_law_239 (fun ls hl => ?_)
  refine x_al_n X hl 4 rfl rfl dL_law_241 ?_
  refine x_callV (As := []) (rest := []) (c1 := cells + 2) (s1 := slots + 12) X w hA (c_X4_thrown l D cs L1 f1 mo B _ _ _ _ _ _ _ _ _ _ hM9) k_L_law_X4_thrown (by decide) hMm hMf rfl rfl rfl hl rfl (Nat.le_of_ble_eq_true rfl) ⟨by show cells + 2 + 0 ≤ 628090; omega, by show slots + 12 + 0 ≤ 7211835; omega⟩ rfl rfl dL_law_242 (fun v L1 f1 H locs w hp => ?_)
  obtain ⟨rfl, rfl, hp⟩ := hp
  subst hp
  show W p l e _ s m _ below meth c _ _ _ _ _ (F0 m 245 ls [.int (iI ((oPay (sv xs (i + 1)) σ).1))])
  refine x_il X hl 1 rfl dL_law_245 ?_
  refine x_icmpS_eq (tgt := 252) X (by decide) dL_law_247 ?_
  refine x_il X hl 1 rfl dL_law_252 ?_
  refine x_if_ne (tgt := 269) X (by omega) (by decide) dL_law_254 (fun hb254 => ?_) (fun hb254 => ?_)
  · refine x_goto (tgt := 1057) X (by decide) dL_law_269 ?_
    refine W.widen (k := cells + 2) (n := slots + 12) (by omega) (by omega) ?_
    exact K _ _ _ _ _ _ ⟨hC, ⟨_, hX⟩, (oPay_v hI _), hB, hmo, _, hou⟩ w (lv_sub hl [2, 3, 4, 5, 6] rfl)
  · refine x_al_n X hl 3 rfl rfl dL_law_257 ?_
    refine x_iconst X dL_law_258 ?_
    refine x_lald (v := iL ((oPay (sv xs (i + 1)) σ).2.1)) X w hmo hou (hov hb254) dL_law_259 ?_
    refine x_il X hl 0 rfl dL_law_260 ?_
    refine x_i2l X dL_law_262 ?_
    refine x_lcmpS X rfl dL_law_263 ?_
    refine x_ifT_eq (tgt := 269) X (by decide) (by decide) (by decide) dL_law_264 ?_
    refine x_goto (tgt := 1057) X (by decide) dL_law_269 ?_
    refine W.widen (k := cells + 2) (n := slots + 12) (by omega) (by omega) ?_
    exact K _ _ _ _ _ _ ⟨hC, ⟨_, hX⟩, (oPay_v hI _), hB, hmo, _, hou⟩ w (lv_sub hl [2, 3, 4, 5, 6] rfl)

theorem k_L_law_L_forfeit : XH wsL_law RL 83 yL_forfeit cL_forfeit 3 (some .int) [(0, 5, 8, 13), (0, 5, 11, 15)] wsL_forfeit 2 := ⟨gL_law_L_forfeit, ⟨_, rfl⟩, by decide, by decide, by decide +kernel⟩
theorem k_L_law_X4_forfeit : XV wsL_law RL 86 RX4 yX4_forfeit cX4_forfeit 3 none wsX4_forfeit 1 := ⟨gL_law_X4_forfeit, ⟨_, rfl⟩, rfl, by decide, by decide, by decide +kernel⟩
set_option maxHeartbeats 4000000 in
set_option maxRecDepth 100000 in
theorem lc_2 (X : XX p m c cL_law 7 s #[Value.ref b] wsL_law RL D cs) (hl9 : l.stackTraces = false) (hV : EV s) (hZ : EZ A s s.heap) (hA : ∀ q, s.heap.size ≤ q → A q) (hXs : va_X b LL xs s s.heap) (hbl : b < s.heap.size) (hbA : ¬ A b) (hLL : LL ≤ 2048) (hLI : LI cs L f0 x br ba pr sz lr mo B ou σ) (w : XW D A s.heap L f0 H locs) (hi : 0 ≤ i ∧ i + 3 < (LL : Int)) (hcs : cells + 2 ≤ 628090 ∧ slots + 12 ≤ 7211835) (hl : lv_has ls 7 [(4, .int (iI i)), (3, .ref ou), (2, .ref mo), (1, .ref x), (0, .ref b)])
  (K : ∀ (σ2 : Sg) (L2 : List Nat) (f2 : Nat → va_E) (H2 : Heap) (locs2 : List Loc) (ls2 : Array Slot), LI cs L2 f2 x br ba pr sz lr mo B ou σ2 → XW D A s.heap L2 f2 H2 locs2 → lv_has ls2 7 [(4, .int (iI i)), (3, .ref ou), (2, .ref mo), (1, .ref x), (0, .ref b)] → W p l e room_1 s m #[Value.ref b] below meth c H2 locs2 (cells + 2) (slots + 12) Q (F0 m 1057 ls2 [])) :
  W p l e room_1 s m #[Value.ref b] below meth c H locs cells slots Q (F0 m 272 ls []) := by
  obtain ⟨hC, ⟨t0, hX⟩, hI, hB, hmo, g0, hou⟩ := hLI
  refine x_al_n X hl 3 rfl rfl dL_law_272 ?_
  refine x_al_n X hl 4 rfl rfl dL_law_273 ?_
  refine x_il X hl 0 rfl dL_law_274 ?_
  refine x_iconst X dL_law_276 ?_
  refine x_iadd X dL_law_277 ?_
  refine x_sld (xs := xs) X w hXs hbl hbA (by omega) dL_law_278 ?_
  refine x_callH1 (As := [.ref x, .int (iI (sv xs (i + 1)))]) (rest := []) (c1 := cells + 2) (s1 := slots + 12) X w hA hV hZ (c_L_forfeit l D cs hl9 L f0 x br ba pr sz lr σ (sv xs (i + 1)) hC hI (sv_rg xs (i + 1))) k_L_law_L_forfeit (by decide) rfl hl rfl (Nat.le_of_ble_eq_true rfl) ⟨by show cells + 2 ≤ 628090; omega, by show slots + 12 ≤ 7211835; omega⟩ rfl rfl dL_law_279 (fun v L1 f1 H locs w hp => ?_)
  obtain ⟨rfl, hC2, hsub, hF2, hob⟩ := hp
  have hFO := FO.of (ou := ou) hF2 (fun _ _ => rfl)
  have hou2 := FC.oul hC hmo hou hF2
  have hX := MX.fo hX hB hC hou hFO hsub
  have hmo := hsub _ hmo
  have hC := hC2
  have hou := hou2
  have hX9 := hX
  obtain ⟨g9, z9, w9, hM9, hag9⟩ := hX9
  have hMm := hM9.mm
  have hMf := hM9.fm
  show W p l e _ s m _ below meth c _ _ _ _ _ (F0 m 282 ls [.int (iI ((oFor (sv xs (i + 1)) σ).1))])
  refine x_is (lv' := [(5, .int (iI ((oFor (sv xs (i + 1)) σ).1))), (4, .int (iI i)), (3, .ref ou), (2, .ref mo), (1, .ref x), (0, .ref b)]) X hl (by decide) rfl dL_law_282 (fun ls hl => ?_)
  refine x_al_n X hl 3 rfl rfl dL_law_284 ?_
  refine x_al_n X hl 5 rfl rfl dL_law_285 ?_
  refine x_il X hl 1 rfl dL_law_286 ?_
  refine x_iconst X dL_law_288 ?_
  refine x_iadd X dL_law_289 ?_
  refine x_sld (xs := xs) X w hXs hbl hbA (by omega) dL_law_290 ?_
  refine x_callV (As := [.int (iI (sv xs (i + 1)))]) (rest := []) (c1 := cells + 2) (s1 := slots + 12) X w hA (c_X4_forfeit l D cs L1 f1 mo B _ σ (sv xs (i + 1)) hX hI (sv_rg xs (i + 1))) k_L_law_X4_forfeit (by decide) hMm hMf rfl rfl rfl hl rfl (Nat.le_of_ble_eq_true rfl) ⟨by show cells + 2 + 0 ≤ 628090; omega, by show slots + 12 + 0 ≤ 7211835; omega⟩ rfl rfl dL_law_291 (fun v L1 f1 H locs w hp => ?_)
  obtain ⟨rfl, rfl, hfm, hX2⟩ := hp
  have hC := CX.fm hX hB hC hfm
  have hou := OU.fm hX hB hou hfm
  have hX := hX2
  have hX9 := hX
  obtain ⟨g9, z9, w9, hM9, hag9⟩ := hX9
  have hMm := hM9.mm
  have hMf := hM9.fm
  show W p l e _ s m _ below meth c _ _ _ _ _ (F0 m 294 ls [])
  refine x_al_n X hl 3 rfl rfl dL_law_294 ?_
  refine x_callV (As := []) (rest := []) (c1 := cells + 2) (s1 := slots + 12) X w hA (c_X4_thrown l D cs L1 f1 mo B _ _ _ _ _ _ _ _ _ _ hM9) k_L_law_X4_thrown (by decide) hMm hMf rfl rfl rfl hl rfl (Nat.le_of_ble_eq_true rfl) ⟨by show cells + 2 + 0 ≤ 628090; omega, by show slots + 12 + 0 ≤ 7211835; omega⟩ rfl rfl dL_law_295 (fun v L1 f1 H locs w hp => ?_)
  obtain ⟨rfl, rfl, hp⟩ := hp
  subst hp
  show W p l e _ s m _ below meth c _ _ _ _ _ (F0 m 298 ls [.int (iI ((oFor (sv xs (i + 1)) σ).1))])
  refine x_il X hl 0 rfl dL_law_298 ?_
  refine x_icmpS_eq (tgt := 305) X (by decide) dL_law_300 ?_
  refine x_goto (tgt := 1057) X (by decide) dL_law_305 ?_
  refine W.widen (k := cells + 2) (n := slots + 12) (by omega) (by omega) ?_
  exact K _ _ _ _ _ _ ⟨hC, ⟨_, hX⟩, (oFor_v hI _), hB, hmo, _, hou⟩ w (lv_sub hl [1, 2, 3, 4, 5] rfl)

theorem k_L_law_L_undo : XH wsL_law RL 87 yL_undo cL_undo 4 (some .int) [(0, 9, 12, 13), (0, 9, 15, 15)] wsL_undo 3 := ⟨gL_law_L_undo, ⟨_, rfl⟩, by decide, by decide, by decide +kernel⟩
theorem k_L_law_X4_undo : XV wsL_law RL 89 RX4 yX4_undo cX4_undo 4 (some .int) wsX4_undo 1 := ⟨gL_law_X4_undo, ⟨_, rfl⟩, rfl, by decide, by decide, by decide +kernel⟩
set_option maxHeartbeats 4000000 in
set_option maxRecDepth 100000 in
theorem lc_3 (X : XX p m c cL_law 7 s #[Value.ref b] wsL_law RL D cs) (hl9 : l.stackTraces = false) (hV : EV s) (hZ : EZ A s s.heap) (hA : ∀ q, s.heap.size ≤ q → A q) (hXs : va_X b LL xs s s.heap) (hbl : b < s.heap.size) (hbA : ¬ A b) (hLL : LL ≤ 2048) (hLI : LI cs L f0 x br ba pr sz lr mo B ou σ) (w : XW D A s.heap L f0 H locs) (hi : 0 ≤ i ∧ i + 3 < (LL : Int)) (hcs : cells + 2 ≤ 628090 ∧ slots + 12 ≤ 7211835) (hl : lv_has ls 7 [(4, .int (iI i)), (3, .ref ou), (2, .ref mo), (1, .ref x), (0, .ref b)])
  (K : ∀ (σ2 : Sg) (L2 : List Nat) (f2 : Nat → va_E) (H2 : Heap) (locs2 : List Loc) (ls2 : Array Slot), LI cs L2 f2 x br ba pr sz lr mo B ou σ2 → XW D A s.heap L2 f2 H2 locs2 → lv_has ls2 7 [(4, .int (iI i)), (3, .ref ou), (2, .ref mo), (1, .ref x), (0, .ref b)] → W p l e room_1 s m #[Value.ref b] below meth c H2 locs2 (cells + 2) (slots + 12) Q (F0 m 1057 ls2 [])) :
  W p l e room_1 s m #[Value.ref b] below meth c H locs cells slots Q (F0 m 308 ls []) := by
  obtain ⟨hC, ⟨t0, hX⟩, hI, hB, hmo, g0, hou⟩ := hLI
  refine x_al_n X hl 3 rfl rfl dL_law_308 ?_
  refine x_al_n X hl 4 rfl rfl dL_law_309 ?_
  refine x_il X hl 0 rfl dL_law_310 ?_
  refine x_iconst X dL_law_312 ?_
  refine x_iadd X dL_law_313 ?_
  refine x_sld (xs := xs) X w hXs hbl hbA (by omega) dL_law_314 ?_
  refine x_al_n X hl 1 rfl rfl dL_law_315 ?_
  refine x_callH1 (As := [.ref x, .int (iI (sv xs (i + 1))), .ref ou]) (rest := []) (c1 := cells + 2) (s1 := slots + 12) X w hA hV hZ (c_L_undo l D cs hl9 L f0 x br ba pr sz lr ou σ (sv xs (i + 1)) g0 hC hI (sv_rg xs (i + 1)) hmo hou) k_L_law_L_undo (by decide) rfl hl rfl (Nat.le_of_ble_eq_true rfl) ⟨by show cells + 2 ≤ 628090; omega, by show slots + 12 ≤ 7211835; omega⟩ rfl rfl dL_law_316 (fun v L1 f1 H locs w hp => ?_)
  obtain ⟨rfl, hC2, hsub, hFO, hob, g2, hou2, hov⟩ := hp
  have hX := MX.fo hX hB hC hou hFO hsub
  have hmo := hsub _ hmo
  have hC := hC2
  have hou := hou2
  have hX9 := hX
  obtain ⟨g9, z9, w9, hM9, hag9⟩ := hX9
  have hMm := hM9.mm
  have hMf := hM9.fm
  show W p l e _ s m _ below meth c _ _ _ _ _ (F0 m 319 ls [.int (iI ((oUnd (sv xs (i + 1)) σ).1))])
  refine x_is (lv' := [(5, .int (iI ((oUnd (sv xs (i + 1)) σ).1))), (4, .int (iI i)), (3, .ref ou), (2, .ref mo), (1, .ref x), (0, .ref b)]) X hl (by decide) rfl dL_law_319 (fun ls hl => ?_)
  refine x_al_n X hl 3 rfl rfl dL_law_321 ?_
  refine x_al_n X hl 5 rfl rfl dL_law_322 ?_
  refine x_il X hl 1 rfl dL_law_323 ?_
  refine x_iconst X dL_law_325 ?_
  refine x_iadd X dL_law_326 ?_
  refine x_sld (xs := xs) X w hXs hbl hbA (by omega) dL_law_327 ?_
  refine x_callV (As := [.int (iI (sv xs (i + 1)))]) (rest := []) (c1 := cells + 2) (s1 := slots + 12) X w hA (c_X4_undo l D cs L1 f1 mo B _ σ (sv xs (i + 1)) hX hI (sv_rg xs (i + 1))) k_L_law_X4_undo (by decide) hMm hMf rfl rfl rfl hl rfl (Nat.le_of_ble_eq_true rfl) ⟨by show cells + 2 + 0 ≤ 628090; omega, by show slots + 12 + 0 ≤ 7211835; omega⟩ rfl rfl dL_law_328 (fun v L1 f1 H locs w hp => ?_)
  obtain ⟨rfl, rfl, hfm, hX2⟩ := hp
  have hC := CX.fm hX hB hC hfm
  have hou := OU.fm hX hB hou hfm
  have hX := hX2
  have hX9 := hX
  obtain ⟨g9, z9, w9, hM9, hag9⟩ := hX9
  have hMm := hM9.mm
  have hMf := hM9.fm
  show W p l e _ s m _ below meth c _ _ _ _ _ (F0 m 331 ls [.int (iI ((oUnd (sv xs (i + 1)) σ).2.1))])
  refine x_is (lv' := [(6, .int (iI ((oUnd (sv xs (i + 1)) σ).2.1))), (5, .int (iI ((oUnd (sv xs (i + 1)) σ).1))), (4, .int (iI i)), (3, .ref ou), (2, .ref mo), (1, .ref x), (0, .ref b)]) X hl (by decide) rfl dL_law_331 (fun ls hl => ?_)
  refine x_al_n X hl 4 rfl rfl dL_law_333 ?_
  refine x_callV (As := []) (rest := []) (c1 := cells + 2) (s1 := slots + 12) X w hA (c_X4_thrown l D cs L1 f1 mo B _ _ _ _ _ _ _ _ _ _ hM9) k_L_law_X4_thrown (by decide) hMm hMf rfl rfl rfl hl rfl (Nat.le_of_ble_eq_true rfl) ⟨by show cells + 2 + 0 ≤ 628090; omega, by show slots + 12 + 0 ≤ 7211835; omega⟩ rfl rfl dL_law_334 (fun v L1 f1 H locs w hp => ?_)
  obtain ⟨rfl, rfl, hp⟩ := hp
  subst hp
  show W p l e _ s m _ below meth c _ _ _ _ _ (F0 m 337 ls [.int (iI ((oUnd (sv xs (i + 1)) σ).1))])
  refine x_il X hl 1 rfl dL_law_337 ?_
  refine x_icmpS_eq (tgt := 344) X (by decide) dL_law_339 ?_
  refine x_il X hl 1 rfl dL_law_344 ?_
  refine x_if_ne (tgt := 361) X (by omega) (by decide) dL_law_346 (fun hb346 => ?_) (fun hb346 => ?_)
  · refine x_goto (tgt := 1057) X (by decide) dL_law_361 ?_
    refine W.widen (k := cells + 2) (n := slots + 12) (by omega) (by omega) ?_
    exact K _ _ _ _ _ _ ⟨hC, ⟨_, hX⟩, (oUnd_v hI _), hB, hmo, _, hou⟩ w (lv_sub hl [2, 3, 4, 5, 6] rfl)
  · refine x_al_n X hl 3 rfl rfl dL_law_349 ?_
    refine x_iconst X dL_law_350 ?_
    refine x_lald (v := iL ((oUnd (sv xs (i + 1)) σ).2.1)) X w hmo hou (hov hb346) dL_law_351 ?_
    refine x_il X hl 0 rfl dL_law_352 ?_
    refine x_i2l X dL_law_354 ?_
    refine x_lcmpS X rfl dL_law_355 ?_
    refine x_ifT_eq (tgt := 361) X (by decide) (by decide) (by decide) dL_law_356 ?_
    refine x_goto (tgt := 1057) X (by decide) dL_law_361 ?_
    refine W.widen (k := cells + 2) (n := slots + 12) (by omega) (by omega) ?_
    exact K _ _ _ _ _ _ ⟨hC, ⟨_, hX⟩, (oUnd_v hI _), hB, hmo, _, hou⟩ w (lv_sub hl [2, 3, 4, 5, 6] rfl)

theorem k_L_law_L_amnesty : XH wsL_law RL 90 yL_amnesty cL_amnesty 5 (some .int) [(0, 10, 13, 13)] wsL_amnesty 4 := ⟨gL_law_L_amnesty, ⟨_, rfl⟩, by decide, by decide, by decide +kernel⟩
theorem k_L_law_X4_amnesty : XV wsL_law RL 93 RX4 yX4_amnesty cX4_amnesty 5 (some .int) wsX4_amnesty 2 := ⟨gL_law_X4_amnesty, ⟨_, rfl⟩, rfl, by decide, by decide, by decide +kernel⟩
set_option maxHeartbeats 4000000 in
set_option maxRecDepth 100000 in
theorem lc_4 (X : XX p m c cL_law 7 s #[Value.ref b] wsL_law RL D cs) (hl9 : l.stackTraces = false) (hV : EV s) (hZ : EZ A s s.heap) (hA : ∀ q, s.heap.size ≤ q → A q) (hXs : va_X b LL xs s s.heap) (hbl : b < s.heap.size) (hbA : ¬ A b) (hLL : LL ≤ 2048) (hLI : LI cs L f0 x br ba pr sz lr mo B ou σ) (w : XW D A s.heap L f0 H locs) (hi : 0 ≤ i ∧ i + 3 < (LL : Int)) (hcs : cells + 2 ≤ 628090 ∧ slots + 12 ≤ 7211835) (hl : lv_has ls 7 [(4, .int (iI i)), (3, .ref ou), (2, .ref mo), (1, .ref x), (0, .ref b)])
  (K : ∀ (σ2 : Sg) (L2 : List Nat) (f2 : Nat → va_E) (H2 : Heap) (locs2 : List Loc) (ls2 : Array Slot), LI cs L2 f2 x br ba pr sz lr mo B ou σ2 → XW D A s.heap L2 f2 H2 locs2 → lv_has ls2 7 [(4, .int (iI i)), (3, .ref ou), (2, .ref mo), (1, .ref x), (0, .ref b)] → W p l e room_1 s m #[Value.ref b] below meth c H2 locs2 (cells + 2) (slots + 12) Q (F0 m 1057 ls2 [])) :
  W p l e room_1 s m #[Value.ref b] below meth c H locs cells slots Q (F0 m 364 ls []) := by
  obtain ⟨hC, ⟨t0, hX⟩, hI, hB, hmo, g0, hou⟩ := hLI
  refine x_al_n X hl 3 rfl rfl dL_law_364 ?_
  refine x_al_n X hl 4 rfl rfl dL_law_365 ?_
  refine x_il X hl 0 rfl dL_law_366 ?_
  refine x_iconst X dL_law_368 ?_
  refine x_iadd X dL_law_369 ?_
  refine x_sld (xs := xs) X w hXs hbl hbA (by omega) dL_law_370 ?_
  refine x_al_n X hl 4 rfl rfl dL_law_371 ?_
  refine x_il X hl 0 rfl dL_law_372 ?_
  refine x_iconst X dL_law_374 ?_
  refine x_iadd X dL_law_375 ?_
  refine x_sld (xs := xs) X w hXs hbl hbA (by omega) dL_law_376 ?_
  refine x_al_n X hl 1 rfl rfl dL_law_377 ?_
  refine x_callH1 (As := [.ref x, .int (iI (sv xs (i + 1))), .int (iI (sv xs (i + 2))), .ref ou]) (rest := []) (c1 := cells + 1) (s1 := slots + 6) X w hA hV hZ (c_L_amnesty l D cs hl9 L f0 x br ba pr sz lr ou σ (sv xs (i + 1)) (sv xs (i + 2)) g0 hC hI (⟨sv_rg xs (i + 1), sv_rg xs (i + 2)⟩) hmo hou) k_L_law_L_amnesty (by decide) rfl hl rfl (Nat.le_of_ble_eq_true rfl) ⟨by show cells + 1 ≤ 628090; omega, by show slots + 6 ≤ 7211835; omega⟩ rfl rfl dL_law_378 (fun v L1 f1 H locs w hp => ?_)
  obtain ⟨rfl, hC2, hsub, hFO, hob, g2, hou2, hov⟩ := hp
  have hX := MX.fo hX hB hC hou hFO hsub
  have hmo := hsub _ hmo
  have hC := hC2
  have hou := hou2
  have hX9 := hX
  obtain ⟨g9, z9, w9, hM9, hag9⟩ := hX9
  have hMm := hM9.mm
  have hMf := hM9.fm
  show W p l e _ s m _ below meth c _ _ _ _ _ (F0 m 381 ls [.int (iI ((oAmn (sv xs (i + 1)) (sv xs (i + 2)) σ).1))])
  refine x_is (lv' := [(5, .int (iI ((oAmn (sv xs (i + 1)) (sv xs (i + 2)) σ).1))), (4, .int (iI i)), (3, .ref ou), (2, .ref mo), (1, .ref x), (0, .ref b)]) X hl (by decide) rfl dL_law_381 (fun ls hl => ?_)
  refine x_al_n X hl 3 rfl rfl dL_law_383 ?_
  refine x_al_n X hl 5 rfl rfl dL_law_384 ?_
  refine x_il X hl 1 rfl dL_law_385 ?_
  refine x_iconst X dL_law_387 ?_
  refine x_iadd X dL_law_388 ?_
  refine x_sld (xs := xs) X w hXs hbl hbA (by omega) dL_law_389 ?_
  refine x_al_n X hl 5 rfl rfl dL_law_390 ?_
  refine x_il X hl 1 rfl dL_law_391 ?_
  refine x_iconst X dL_law_393 ?_
  refine x_iadd X dL_law_394 ?_
  refine x_sld (xs := xs) X w hXs hbl hbA (by omega) dL_law_395 ?_
  refine x_callV (As := [.int (iI (sv xs (i + 1))), .int (iI (sv xs (i + 2)))]) (rest := []) (c1 := cells + 1) (s1 := slots + 6) X w hA (c_X4_amnesty l D cs L1 f1 mo B _ σ (sv xs (i + 1)) (sv xs (i + 2)) hX hI (⟨sv_rg xs (i + 1), sv_rg xs (i + 2)⟩)) k_L_law_X4_amnesty (by decide) hMm hMf rfl rfl rfl hl rfl (Nat.le_of_ble_eq_true rfl) ⟨by show cells + 1 + 0 ≤ 628090; omega, by show slots + 6 + 0 ≤ 7211835; omega⟩ rfl rfl dL_law_396 (fun v L1 f1 H locs w hp => ?_)
  obtain ⟨rfl, rfl, hfm, hX2⟩ := hp
  have hC := CX.fm hX hB hC hfm
  have hou := OU.fm hX hB hou hfm
  have hX := hX2
  have hX9 := hX
  obtain ⟨g9, z9, w9, hM9, hag9⟩ := hX9
  have hMm := hM9.mm
  have hMf := hM9.fm
  show W p l e _ s m _ below meth c _ _ _ _ _ (F0 m 399 ls [.int (iI ((oAmn (sv xs (i + 1)) (sv xs (i + 2)) σ).2.1))])
  refine x_is (lv' := [(6, .int (iI ((oAmn (sv xs (i + 1)) (sv xs (i + 2)) σ).2.1))), (5, .int (iI ((oAmn (sv xs (i + 1)) (sv xs (i + 2)) σ).1))), (4, .int (iI i)), (3, .ref ou), (2, .ref mo), (1, .ref x), (0, .ref b)]) X hl (by decide) rfl dL_law_399 (fun ls hl => ?_)
  refine x_al_n X hl 4 rfl rfl dL_law_401 ?_
  refine x_callV (As := []) (rest := []) (c1 := cells + 1) (s1 := slots + 6) X w hA (c_X4_thrown l D cs L1 f1 mo B _ _ _ _ _ _ _ _ _ _ hM9) k_L_law_X4_thrown (by decide) hMm hMf rfl rfl rfl hl rfl (Nat.le_of_ble_eq_true rfl) ⟨by show cells + 1 + 0 ≤ 628090; omega, by show slots + 6 + 0 ≤ 7211835; omega⟩ rfl rfl dL_law_402 (fun v L1 f1 H locs w hp => ?_)
  obtain ⟨rfl, rfl, hp⟩ := hp
  subst hp
  show W p l e _ s m _ below meth c _ _ _ _ _ (F0 m 405 ls [.int (iI ((oAmn (sv xs (i + 1)) (sv xs (i + 2)) σ).1))])
  refine x_il X hl 1 rfl dL_law_405 ?_
  refine x_icmpS_eq (tgt := 412) X (by decide) dL_law_407 ?_
  refine x_il X hl 1 rfl dL_law_412 ?_
  refine x_if_ne (tgt := 429) X (by omega) (by decide) dL_law_414 (fun hb414 => ?_) (fun hb414 => ?_)
  · refine x_goto (tgt := 1057) X (by decide) dL_law_429 ?_
    refine W.widen (k := cells + 2) (n := slots + 12) (by omega) (by omega) ?_
    exact K _ _ _ _ _ _ ⟨hC, ⟨_, hX⟩, (oAmn_v hI _ _), hB, hmo, _, hou⟩ w (lv_sub hl [2, 3, 4, 5, 6] rfl)
  · refine x_al_n X hl 3 rfl rfl dL_law_417 ?_
    refine x_iconst X dL_law_418 ?_
    refine x_lald (v := iL ((oAmn (sv xs (i + 1)) (sv xs (i + 2)) σ).2.1)) X w hmo hou (hov hb414) dL_law_419 ?_
    refine x_il X hl 0 rfl dL_law_420 ?_
    refine x_i2l X dL_law_422 ?_
    refine x_lcmpS X rfl dL_law_423 ?_
    refine x_ifT_eq (tgt := 429) X (by decide) (by decide) (by decide) dL_law_424 ?_
    refine x_goto (tgt := 1057) X (by decide) dL_law_429 ?_
    refine W.widen (k := cells + 2) (n := slots + 12) (by omega) (by omega) ?_
    exact K _ _ _ _ _ _ ⟨hC, ⟨_, hX⟩, (oAmn_v hI _ _), hB, hmo, _, hou⟩ w (lv_sub hl [2, 3, 4, 5, 6] rfl)

theorem k_L_law_X3_records : XV wsL_law RL 94 RX3 yX3_records cX3_records 1 (some .int) wsX3_records 0 := ⟨gL_law_X3_records, ⟨_, rfl⟩, rfl, by decide, by decide, by decide +kernel⟩
theorem k_L_law_X4_records : XV wsL_law RL 97 RX4 yX4_records cX4_records 1 (some .int) wsX4_records 0 := ⟨gL_law_X4_records, ⟨_, rfl⟩, rfl, by decide, by decide, by decide +kernel⟩
set_option maxHeartbeats 4000000 in
set_option maxRecDepth 100000 in
theorem lc_5 (X : XX p m c cL_law 7 s #[Value.ref b] wsL_law RL D cs) (hl9 : l.stackTraces = false) (hV : EV s) (hZ : EZ A s s.heap) (hA : ∀ q, s.heap.size ≤ q → A q) (hXs : va_X b LL xs s s.heap) (hbl : b < s.heap.size) (hbA : ¬ A b) (hLL : LL ≤ 2048) (hLI : LI cs L f0 x br ba pr sz lr mo B ou σ) (w : XW D A s.heap L f0 H locs) (hi : 0 ≤ i ∧ i + 3 < (LL : Int)) (hcs : cells + 2 ≤ 628090 ∧ slots + 12 ≤ 7211835) (hl : lv_has ls 7 [(4, .int (iI i)), (3, .ref ou), (2, .ref mo), (1, .ref x), (0, .ref b)])
  (K : ∀ (σ2 : Sg) (L2 : List Nat) (f2 : Nat → va_E) (H2 : Heap) (locs2 : List Loc) (ls2 : Array Slot), LI cs L2 f2 x br ba pr sz lr mo B ou σ2 → XW D A s.heap L2 f2 H2 locs2 → lv_has ls2 7 [(4, .int (iI i)), (3, .ref ou), (2, .ref mo), (1, .ref x), (0, .ref b)] → W p l e room_1 s m #[Value.ref b] below meth c H2 locs2 (cells + 2) (slots + 12) Q (F0 m 1057 ls2 [])) :
  W p l e room_1 s m #[Value.ref b] below meth c H locs cells slots Q (F0 m 432 ls []) := by
  obtain ⟨hC, ⟨t0, hX⟩, hI, hB, hmo, g0, hou⟩ := hLI
  refine x_al_n X hl 3 rfl rfl dL_law_432 ?_
  refine x_callV (As := []) (rest := []) (c1 := cells) (s1 := slots) X w hA (c_X3_records l D cs L f0 x br ba pr sz lr σ hC) k_L_law_X3_records (by decide) hC.mx hC.fx rfl rfl rfl hl rfl (Nat.le_of_ble_eq_true rfl) ⟨by show cells + 0 ≤ 628090; omega, by show slots + 0 ≤ 7211835; omega⟩ rfl rfl dL_law_433 (fun v L1 f1 H locs w hp => ?_)
  obtain ⟨rfl, rfl, hp⟩ := hp
  subst hp
  have hX9 := hX
  obtain ⟨g9, z9, w9, hM9, hag9⟩ := hX9
  have hMm := hM9.mm
  have hMf := hM9.fm
  show W p l e _ s m _ below meth c _ _ _ _ _ (F0 m 436 ls [.int (iI (gN σ))])
  refine x_al_n X hl 2 rfl rfl dL_law_436 ?_
  refine x_callV (As := []) (rest := [.int (iI (gN σ))]) (c1 := cells) (s1 := slots) X w hA (c_X4_records l D cs L f0 mo B _ σ hX hI) k_L_law_X4_records (by decide) hMm hMf rfl rfl rfl hl rfl (Nat.le_of_ble_eq_true rfl) ⟨by show cells + 0 ≤ 628090; omega, by show slots + 0 ≤ 7211835; omega⟩ rfl rfl dL_law_437 (fun v L1 f1 H locs w hp => ?_)
  obtain ⟨rfl, rfl, hfm, hX2⟩ := hp
  have hC := CX.fm hX hB hC hfm
  have hou := OU.fm hX hB hou hfm
  have hX := hX2
  show W p l e _ s m _ below meth c _ _ _ _ _ (F0 m 440 ls [.int (iI (gN σ)), .int (iI (gN σ))])
  refine x_icmpS_eq (tgt := 1057) X (by decide) dL_law_440 ?_
  refine W.widen (k := cells + 2) (n := slots + 12) (by omega) (by omega) ?_
  exact K _ _ _ _ _ _ ⟨hC, ⟨_, hX⟩, hI, hB, hmo, _, hou⟩ w (lv_sub hl [0, 1, 2, 3, 4] rfl)

theorem k_L_law_L_sum : XH wsL_law RL 98 yL_sum cL_sum 4 (some .int) [(0, 9, 12, 13)] wsL_sum 3 := ⟨gL_law_L_sum, ⟨_, rfl⟩, by decide, by decide, by decide +kernel⟩
theorem k_L_law_X4_sum : XV wsL_law RL 100 RX4 yX4_sum cX4_sum 3 (some .int) wsX4_sum 1 := ⟨gL_law_X4_sum, ⟨_, rfl⟩, rfl, by decide, by decide, by decide +kernel⟩
set_option maxHeartbeats 4000000 in
set_option maxRecDepth 100000 in
theorem lc_6 (X : XX p m c cL_law 7 s #[Value.ref b] wsL_law RL D cs) (hl9 : l.stackTraces = false) (hV : EV s) (hZ : EZ A s s.heap) (hA : ∀ q, s.heap.size ≤ q → A q) (hXs : va_X b LL xs s s.heap) (hbl : b < s.heap.size) (hbA : ¬ A b) (hLL : LL ≤ 2048) (hLI : LI cs L f0 x br ba pr sz lr mo B ou σ) (w : XW D A s.heap L f0 H locs) (hi : 0 ≤ i ∧ i + 3 < (LL : Int)) (hcs : cells + 2 ≤ 628090 ∧ slots + 12 ≤ 7211835) (hl : lv_has ls 7 [(4, .int (iI i)), (3, .ref ou), (2, .ref mo), (1, .ref x), (0, .ref b)])
  (K : ∀ (σ2 : Sg) (L2 : List Nat) (f2 : Nat → va_E) (H2 : Heap) (locs2 : List Loc) (ls2 : Array Slot), LI cs L2 f2 x br ba pr sz lr mo B ou σ2 → XW D A s.heap L2 f2 H2 locs2 → lv_has ls2 7 [(4, .int (iI i)), (3, .ref ou), (2, .ref mo), (1, .ref x), (0, .ref b)] → W p l e room_1 s m #[Value.ref b] below meth c H2 locs2 (cells + 2) (slots + 12) Q (F0 m 1057 ls2 [])) :
  W p l e room_1 s m #[Value.ref b] below meth c H locs cells slots Q (F0 m 445 ls []) := by
  obtain ⟨hC, ⟨t0, hX⟩, hI, hB, hmo, g0, hou⟩ := hLI
  refine x_al_n X hl 3 rfl rfl dL_law_445 ?_
  refine x_al_n X hl 4 rfl rfl dL_law_446 ?_
  refine x_il X hl 0 rfl dL_law_447 ?_
  refine x_iconst X dL_law_449 ?_
  refine x_iadd X dL_law_450 ?_
  refine x_sld (xs := xs) X w hXs hbl hbA (by omega) dL_law_451 ?_
  refine x_al_n X hl 1 rfl rfl dL_law_452 ?_
  refine x_callH1 (As := [.ref x, .int (iI (sv xs (i + 1))), .ref ou]) (rest := []) (c1 := cells + 1) (s1 := slots + 6) X w hA hV hZ (c_L_sum l D cs hl9 L f0 x br ba pr sz lr ou σ (sv xs (i + 1)) g0 hC hI (sv_rg xs (i + 1)) hmo hou) k_L_law_L_sum (by decide) rfl hl rfl (Nat.le_of_ble_eq_true rfl) ⟨by show cells + 1 ≤ 628090; omega, by show slots + 6 ≤ 7211835; omega⟩ rfl rfl dL_law_453 (fun v L1 f1 H locs w hp => ?_)
  obtain ⟨rfl, hC2, hsub, hFO, hob, g2, hou2, hov⟩ := hp
  have hX := MX.fo hX hB hC hou hFO hsub
  have hmo := hsub _ hmo
  have hC := hC2
  have hou := hou2
  have hX9 := hX
  obtain ⟨g9, z9, w9, hM9, hag9⟩ := hX9
  have hMm := hM9.mm
  have hMf := hM9.fm
  show W p l e _ s m _ below meth c _ _ _ _ _ (F0 m 456 ls [.int (iI ((oSum (sv xs (i + 1)) σ).1))])
  refine x_is (lv' := [(5, .int (iI ((oSum (sv xs (i + 1)) σ).1))), (4, .int (iI i)), (3, .ref ou), (2, .ref mo), (1, .ref x), (0, .ref b)]) X hl (by decide) rfl dL_law_456 (fun ls hl => ?_)
  refine x_al_n X hl 3 rfl rfl dL_law_458 ?_
  refine x_al_n X hl 5 rfl rfl dL_law_459 ?_
  refine x_il X hl 1 rfl dL_law_460 ?_
  refine x_iconst X dL_law_462 ?_
  refine x_iadd X dL_law_463 ?_
  refine x_sld (xs := xs) X w hXs hbl hbA (by omega) dL_law_464 ?_
  refine x_callV (As := [.int (iI (sv xs (i + 1)))]) (rest := []) (c1 := cells + 1) (s1 := slots + 6) X w hA (c_X4_sum l D cs L1 f1 mo B _ σ (sv xs (i + 1)) hX hI (sv_rg xs (i + 1))) k_L_law_X4_sum (by decide) hMm hMf rfl rfl rfl hl rfl (Nat.le_of_ble_eq_true rfl) ⟨by show cells + 1 + 0 ≤ 628090; omega, by show slots + 6 + 0 ≤ 7211835; omega⟩ rfl rfl dL_law_465 (fun v L1 f1 H locs w hp => ?_)
  obtain ⟨rfl, rfl, hfm, hX2⟩ := hp
  have hC := CX.fm hX hB hC hfm
  have hou := OU.fm hX hB hou hfm
  have hX := hX2
  have hX9 := hX
  obtain ⟨g9, z9, w9, hM9, hag9⟩ := hX9
  have hMm := hM9.mm
  have hMf := hM9.fm
  show W p l e _ s m _ below meth c _ _ _ _ _ (F0 m 468 ls [.int (iI ((oSum (sv xs (i + 1)) σ).2.1))])
  refine x_is (lv' := [(6, .int (iI ((oSum (sv xs (i + 1)) σ).2.1))), (5, .int (iI ((oSum (sv xs (i + 1)) σ).1))), (4, .int (iI i)), (3, .ref ou), (2, .ref mo), (1, .ref x), (0, .ref b)]) X hl (by decide) rfl dL_law_468 (fun ls hl => ?_)
  refine x_al_n X hl 4 rfl rfl dL_law_470 ?_
  refine x_callV (As := []) (rest := []) (c1 := cells + 1) (s1 := slots + 6) X w hA (c_X4_thrown l D cs L1 f1 mo B _ _ _ _ _ _ _ _ _ _ hM9) k_L_law_X4_thrown (by decide) hMm hMf rfl rfl rfl hl rfl (Nat.le_of_ble_eq_true rfl) ⟨by show cells + 1 + 0 ≤ 628090; omega, by show slots + 6 + 0 ≤ 7211835; omega⟩ rfl rfl dL_law_471 (fun v L1 f1 H locs w hp => ?_)
  obtain ⟨rfl, rfl, hp⟩ := hp
  subst hp
  show W p l e _ s m _ below meth c _ _ _ _ _ (F0 m 474 ls [.int (iI ((oSum (sv xs (i + 1)) σ).1))])
  refine x_il X hl 1 rfl dL_law_474 ?_
  refine x_icmpS_eq (tgt := 481) X (by decide) dL_law_476 ?_
  refine x_il X hl 1 rfl dL_law_481 ?_
  refine x_if_ne (tgt := 498) X (by omega) (by decide) dL_law_483 (fun hb483 => ?_) (fun hb483 => ?_)
  · refine x_goto (tgt := 1057) X (by decide) dL_law_498 ?_
    refine W.widen (k := cells + 2) (n := slots + 12) (by omega) (by omega) ?_
    exact K _ _ _ _ _ _ ⟨hC, ⟨_, hX⟩, (oSum_v hI _), hB, hmo, _, hou⟩ w (lv_sub hl [2, 3, 4, 5, 6] rfl)
  · refine x_al_n X hl 3 rfl rfl dL_law_486 ?_
    refine x_iconst X dL_law_487 ?_
    refine x_lald (v := iL ((oSum (sv xs (i + 1)) σ).2.1)) X w hmo hou (hov hb483) dL_law_488 ?_
    refine x_il X hl 0 rfl dL_law_489 ?_
    refine x_i2l X dL_law_491 ?_
    refine x_lcmpS X rfl dL_law_492 ?_
    refine x_ifT_eq (tgt := 498) X (by decide) (by decide) (by decide) dL_law_493 ?_
    refine x_goto (tgt := 1057) X (by decide) dL_law_498 ?_
    refine W.widen (k := cells + 2) (n := slots + 12) (by omega) (by omega) ?_
    exact K _ _ _ _ _ _ ⟨hC, ⟨_, hX⟩, (oSum_v hI _), hB, hmo, _, hou⟩ w (lv_sub hl [2, 3, 4, 5, 6] rfl)

theorem k_L_law_L_isForfeited : XH wsL_law RL 101 yL_isForfeited cL_isForfeited 4 (some .int) [(0, 16, 19, 13)] wsL_isForfeited 3 := ⟨gL_law_L_isForfeited, ⟨_, rfl⟩, by decide, by decide, by decide +kernel⟩
theorem k_L_law_X4_isForfeited : XV wsL_law RL 103 RX4 yX4_isForfeited cX4_isForfeited 3 (some .boolean) wsX4_isForfeited 1 := ⟨gL_law_X4_isForfeited, ⟨_, rfl⟩, rfl, by decide, by decide, by decide +kernel⟩
set_option maxHeartbeats 4000000 in
set_option maxRecDepth 100000 in
theorem lc_7 (X : XX p m c cL_law 7 s #[Value.ref b] wsL_law RL D cs) (hl9 : l.stackTraces = false) (hV : EV s) (hZ : EZ A s s.heap) (hA : ∀ q, s.heap.size ≤ q → A q) (hXs : va_X b LL xs s s.heap) (hbl : b < s.heap.size) (hbA : ¬ A b) (hLL : LL ≤ 2048) (hLI : LI cs L f0 x br ba pr sz lr mo B ou σ) (w : XW D A s.heap L f0 H locs) (hi : 0 ≤ i ∧ i + 3 < (LL : Int)) (hcs : cells + 2 ≤ 628090 ∧ slots + 12 ≤ 7211835) (hl : lv_has ls 7 [(4, .int (iI i)), (3, .ref ou), (2, .ref mo), (1, .ref x), (0, .ref b)])
  (K : ∀ (σ2 : Sg) (L2 : List Nat) (f2 : Nat → va_E) (H2 : Heap) (locs2 : List Loc) (ls2 : Array Slot), LI cs L2 f2 x br ba pr sz lr mo B ou σ2 → XW D A s.heap L2 f2 H2 locs2 → lv_has ls2 7 [(4, .int (iI i)), (3, .ref ou), (2, .ref mo), (1, .ref x), (0, .ref b)] → W p l e room_1 s m #[Value.ref b] below meth c H2 locs2 (cells + 2) (slots + 12) Q (F0 m 1057 ls2 [])) :
  W p l e room_1 s m #[Value.ref b] below meth c H locs cells slots Q (F0 m 501 ls []) := by
  obtain ⟨hC, ⟨t0, hX⟩, hI, hB, hmo, g0, hou⟩ := hLI
  have hob2 := oIsF_b (sv xs (i + 1)) σ
  refine x_al_n X hl 3 rfl rfl dL_law_501 ?_
  refine x_al_n X hl 4 rfl rfl dL_law_502 ?_
  refine x_il X hl 0 rfl dL_law_503 ?_
  refine x_iconst X dL_law_505 ?_
  refine x_iadd X dL_law_506 ?_
  refine x_sld (xs := xs) X w hXs hbl hbA (by omega) dL_law_507 ?_
  refine x_al_n X hl 1 rfl rfl dL_law_508 ?_
  refine x_callH1 (As := [.ref x, .int (iI (sv xs (i + 1))), .ref ou]) (rest := []) (c1 := cells + 1) (s1 := slots + 6) X w hA hV hZ (c_L_isForfeited l D cs hl9 L f0 x br ba pr sz lr ou σ (sv xs (i + 1)) g0 hC hI (sv_rg xs (i + 1)) hmo hou) k_L_law_L_isForfeited (by decide) rfl hl rfl (Nat.le_of_ble_eq_true rfl) ⟨by show cells + 1 ≤ 628090; omega, by show slots + 6 ≤ 7211835; omega⟩ rfl rfl dL_law_509 (fun v L1 f1 H locs w hp => ?_)
  obtain ⟨rfl, hC2, hsub, hFO, hob, g2, hou2, hov⟩ := hp
  have hX := MX.fo hX hB hC hou hFO hsub
  have hmo := hsub _ hmo
  have hC := hC2
  have hou := hou2
  have hX9 := hX
  obtain ⟨g9, z9, w9, hM9, hag9⟩ := hX9
  have hMm := hM9.mm
  have hMf := hM9.fm
  show W p l e _ s m _ below meth c _ _ _ _ _ (F0 m 512 ls [.int (iI ((oIsF (sv xs (i + 1)) σ).1))])
  refine x_is (lv' := [(5, .int (iI ((oIsF (sv xs (i + 1)) σ).1))), (4, .int (iI i)), (3, .ref ou), (2, .ref mo), (1, .ref x), (0, .ref b)]) X hl (by decide) rfl dL_law_512 (fun ls hl => ?_)
  refine x_al_n X hl 3 rfl rfl dL_law_514 ?_
  refine x_al_n X hl 5 rfl rfl dL_law_515 ?_
  refine x_il X hl 1 rfl dL_law_516 ?_
  refine x_iconst X dL_law_518 ?_
  refine x_iadd X dL_law_519 ?_
  refine x_sld (xs := xs) X w hXs hbl hbA (by omega) dL_law_520 ?_
  refine x_callV (As := [.int (iI (sv xs (i + 1)))]) (rest := []) (c1 := cells + 1) (s1 := slots + 6) X w hA (c_X4_isForfeited l D cs L1 f1 mo B _ σ (sv xs (i + 1)) hX hI (sv_rg xs (i + 1))) k_L_law_X4_isForfeited (by decide) hMm hMf rfl rfl rfl hl rfl (Nat.le_of_ble_eq_true rfl) ⟨by show cells + 1 + 0 ≤ 628090; omega, by show slots + 6 + 0 ≤ 7211835; omega⟩ rfl rfl dL_law_521 (fun v L1 f1 H locs w hp => ?_)
  obtain ⟨rfl, rfl, hfm, hX2⟩ := hp
  have hC := CX.fm hX hB hC hfm
  have hou := OU.fm hX hB hou hfm
  have hX := hX2
  have hX9 := hX
  obtain ⟨g9, z9, w9, hM9, hag9⟩ := hX9
  have hMm := hM9.mm
  have hMf := hM9.fm
  show W p l e _ s m _ below meth c _ _ _ _ _ (F0 m 524 ls [.int (iI ((oIsF (sv xs (i + 1)) σ).2.1))])
  refine x_is (lv' := [(6, .int (iI ((oIsF (sv xs (i + 1)) σ).2.1))), (5, .int (iI ((oIsF (sv xs (i + 1)) σ).1))), (4, .int (iI i)), (3, .ref ou), (2, .ref mo), (1, .ref x), (0, .ref b)]) X hl (by decide) rfl dL_law_524 (fun ls hl => ?_)
  refine x_al_n X hl 4 rfl rfl dL_law_526 ?_
  refine x_callV (As := []) (rest := []) (c1 := cells + 1) (s1 := slots + 6) X w hA (c_X4_thrown l D cs L1 f1 mo B _ _ _ _ _ _ _ _ _ _ hM9) k_L_law_X4_thrown (by decide) hMm hMf rfl rfl rfl hl rfl (Nat.le_of_ble_eq_true rfl) ⟨by show cells + 1 + 0 ≤ 628090; omega, by show slots + 6 + 0 ≤ 7211835; omega⟩ rfl rfl dL_law_527 (fun v L1 f1 H locs w hp => ?_)
  obtain ⟨rfl, rfl, hp⟩ := hp
  subst hp
  show W p l e _ s m _ below meth c _ _ _ _ _ (F0 m 530 ls [.int (iI ((oIsF (sv xs (i + 1)) σ).1))])
  refine x_il X hl 1 rfl dL_law_530 ?_
  refine x_icmpS_eq (tgt := 537) X (by decide) dL_law_532 ?_
  refine x_il X hl 1 rfl dL_law_537 ?_
  refine x_if_ne (tgt := 561) X (by omega) (by decide) dL_law_539 (fun hb539 => ?_) (fun hb539 => ?_)
  · refine x_goto (tgt := 1057) X (by decide) dL_law_561 ?_
    refine W.widen (k := cells + 2) (n := slots + 12) (by omega) (by omega) ?_
    exact K _ _ _ _ _ _ ⟨hC, ⟨_, hX⟩, (oIsF_v hI _), hB, hmo, _, hou⟩ w (lv_sub hl [2, 3, 4, 5, 6] rfl)
  · refine x_al_n X hl 3 rfl rfl dL_law_542 ?_
    refine x_iconst X dL_law_543 ?_
    refine x_lald (v := iL ((oIsF (sv xs (i + 1)) σ).2.1)) X w hmo hou (hov hb539) dL_law_544 ?_
    refine x_il X hl 0 rfl dL_law_545 ?_
    refine x_if_eq (tgt := 554) X (by omega) (by decide) dL_law_547 (fun hb547 => ?_) (fun hb547 => ?_)
    · refine x_lc0 X dL_law_554 ?_
      refine x_lcmpS X (by rw [show (oIsF (sv xs (i + 1)) σ).2.1 = 0 from by omega]) dL_law_555 ?_
      refine x_ifT_eq (tgt := 561) X (by decide) (by decide) (by decide) dL_law_556 ?_
      refine x_goto (tgt := 1057) X (by decide) dL_law_561 ?_
      refine W.widen (k := cells + 2) (n := slots + 12) (by omega) (by omega) ?_
      exact K _ _ _ _ _ _ ⟨hC, ⟨_, hX⟩, (oIsF_v hI _), hB, hmo, _, hou⟩ w (lv_sub hl [2, 3, 4, 5, 6] rfl)
    · refine x_lc1 X dL_law_550 ?_
      refine x_goto (tgt := 555) X (by decide) dL_law_551 ?_
      refine x_lcmpS X (by rw [show (oIsF (sv xs (i + 1)) σ).2.1 = 1 from by omega]) dL_law_555 ?_
      refine x_ifT_eq (tgt := 561) X (by decide) (by decide) (by decide) dL_law_556 ?_
      refine x_goto (tgt := 1057) X (by decide) dL_law_561 ?_
      refine W.widen (k := cells + 2) (n := slots + 12) (by omega) (by omega) ?_
      exact K _ _ _ _ _ _ ⟨hC, ⟨_, hX⟩, (oIsF_v hI _), hB, hmo, _, hou⟩ w (lv_sub hl [2, 3, 4, 5, 6] rfl)

theorem k_L_law_L_heldBy : XH wsL_law RL 104 yL_heldBy cL_heldBy 4 (some .int) [(0, 9, 12, 13)] wsL_heldBy 3 := ⟨gL_law_L_heldBy, ⟨_, rfl⟩, by decide, by decide, by decide +kernel⟩
theorem k_L_law_X4_heldBy : XV wsL_law RL 106 RX4 yX4_heldBy cX4_heldBy 4 (some .int) wsX4_heldBy 1 := ⟨gL_law_X4_heldBy, ⟨_, rfl⟩, rfl, by decide, by decide, by decide +kernel⟩
set_option maxHeartbeats 4000000 in
set_option maxRecDepth 100000 in
theorem lc_8 (X : XX p m c cL_law 7 s #[Value.ref b] wsL_law RL D cs) (hl9 : l.stackTraces = false) (hV : EV s) (hZ : EZ A s s.heap) (hA : ∀ q, s.heap.size ≤ q → A q) (hXs : va_X b LL xs s s.heap) (hbl : b < s.heap.size) (hbA : ¬ A b) (hLL : LL ≤ 2048) (hLI : LI cs L f0 x br ba pr sz lr mo B ou σ) (w : XW D A s.heap L f0 H locs) (hi : 0 ≤ i ∧ i + 3 < (LL : Int)) (hcs : cells + 2 ≤ 628090 ∧ slots + 12 ≤ 7211835) (hl : lv_has ls 7 [(4, .int (iI i)), (3, .ref ou), (2, .ref mo), (1, .ref x), (0, .ref b)])
  (K : ∀ (σ2 : Sg) (L2 : List Nat) (f2 : Nat → va_E) (H2 : Heap) (locs2 : List Loc) (ls2 : Array Slot), LI cs L2 f2 x br ba pr sz lr mo B ou σ2 → XW D A s.heap L2 f2 H2 locs2 → lv_has ls2 7 [(4, .int (iI i)), (3, .ref ou), (2, .ref mo), (1, .ref x), (0, .ref b)] → W p l e room_1 s m #[Value.ref b] below meth c H2 locs2 (cells + 2) (slots + 12) Q (F0 m 1057 ls2 [])) :
  W p l e room_1 s m #[Value.ref b] below meth c H locs cells slots Q (F0 m 564 ls []) := by
  obtain ⟨hC, ⟨t0, hX⟩, hI, hB, hmo, g0, hou⟩ := hLI
  refine x_al_n X hl 3 rfl rfl dL_law_564 ?_
  refine x_al_n X hl 4 rfl rfl dL_law_565 ?_
  refine x_il X hl 0 rfl dL_law_566 ?_
  refine x_iconst X dL_law_568 ?_
  refine x_iadd X dL_law_569 ?_
  refine x_sld (xs := xs) X w hXs hbl hbA (by omega) dL_law_570 ?_
  refine x_al_n X hl 1 rfl rfl dL_law_571 ?_
  refine x_callH1 (As := [.ref x, .int (iI (sv xs (i + 1))), .ref ou]) (rest := []) (c1 := cells + 1) (s1 := slots + 6) X w hA hV hZ (c_L_heldBy l D cs hl9 L f0 x br ba pr sz lr ou σ (sv xs (i + 1)) g0 hC hI (sv_rg xs (i + 1)) hmo hou) k_L_law_L_heldBy (by decide) rfl hl rfl (Nat.le_of_ble_eq_true rfl) ⟨by show cells + 1 ≤ 628090; omega, by show slots + 6 ≤ 7211835; omega⟩ rfl rfl dL_law_572 (fun v L1 f1 H locs w hp => ?_)
  obtain ⟨rfl, hC2, hsub, hFO, hob, g2, hou2, hov⟩ := hp
  have hX := MX.fo hX hB hC hou hFO hsub
  have hmo := hsub _ hmo
  have hC := hC2
  have hou := hou2
  have hX9 := hX
  obtain ⟨g9, z9, w9, hM9, hag9⟩ := hX9
  have hMm := hM9.mm
  have hMf := hM9.fm
  show W p l e _ s m _ below meth c _ _ _ _ _ (F0 m 575 ls [.int (iI ((oHel (sv xs (i + 1)) σ).1))])
  refine x_is (lv' := [(5, .int (iI ((oHel (sv xs (i + 1)) σ).1))), (4, .int (iI i)), (3, .ref ou), (2, .ref mo), (1, .ref x), (0, .ref b)]) X hl (by decide) rfl dL_law_575 (fun ls hl => ?_)
  refine x_al_n X hl 3 rfl rfl dL_law_577 ?_
  refine x_al_n X hl 5 rfl rfl dL_law_578 ?_
  refine x_il X hl 1 rfl dL_law_579 ?_
  refine x_iconst X dL_law_581 ?_
  refine x_iadd X dL_law_582 ?_
  refine x_sld (xs := xs) X w hXs hbl hbA (by omega) dL_law_583 ?_
  refine x_callV (As := [.int (iI (sv xs (i + 1)))]) (rest := []) (c1 := cells + 1) (s1 := slots + 6) X w hA (c_X4_heldBy l D cs L1 f1 mo B _ σ (sv xs (i + 1)) hX hI (sv_rg xs (i + 1))) k_L_law_X4_heldBy (by decide) hMm hMf rfl rfl rfl hl rfl (Nat.le_of_ble_eq_true rfl) ⟨by show cells + 1 + 0 ≤ 628090; omega, by show slots + 6 + 0 ≤ 7211835; omega⟩ rfl rfl dL_law_584 (fun v L1 f1 H locs w hp => ?_)
  obtain ⟨rfl, rfl, hfm, hX2⟩ := hp
  have hC := CX.fm hX hB hC hfm
  have hou := OU.fm hX hB hou hfm
  have hX := hX2
  have hX9 := hX
  obtain ⟨g9, z9, w9, hM9, hag9⟩ := hX9
  have hMm := hM9.mm
  have hMf := hM9.fm
  show W p l e _ s m _ below meth c _ _ _ _ _ (F0 m 587 ls [.int (iI ((oHel (sv xs (i + 1)) σ).2.1))])
  refine x_is (lv' := [(6, .int (iI ((oHel (sv xs (i + 1)) σ).2.1))), (5, .int (iI ((oHel (sv xs (i + 1)) σ).1))), (4, .int (iI i)), (3, .ref ou), (2, .ref mo), (1, .ref x), (0, .ref b)]) X hl (by decide) rfl dL_law_587 (fun ls hl => ?_)
  refine x_al_n X hl 4 rfl rfl dL_law_589 ?_
  refine x_callV (As := []) (rest := []) (c1 := cells + 1) (s1 := slots + 6) X w hA (c_X4_thrown l D cs L1 f1 mo B _ _ _ _ _ _ _ _ _ _ hM9) k_L_law_X4_thrown (by decide) hMm hMf rfl rfl rfl hl rfl (Nat.le_of_ble_eq_true rfl) ⟨by show cells + 1 + 0 ≤ 628090; omega, by show slots + 6 + 0 ≤ 7211835; omega⟩ rfl rfl dL_law_590 (fun v L1 f1 H locs w hp => ?_)
  obtain ⟨rfl, rfl, hp⟩ := hp
  subst hp
  show W p l e _ s m _ below meth c _ _ _ _ _ (F0 m 593 ls [.int (iI ((oHel (sv xs (i + 1)) σ).1))])
  refine x_il X hl 1 rfl dL_law_593 ?_
  refine x_icmpS_eq (tgt := 600) X (by decide) dL_law_595 ?_
  refine x_il X hl 1 rfl dL_law_600 ?_
  refine x_if_ne (tgt := 617) X (by omega) (by decide) dL_law_602 (fun hb602 => ?_) (fun hb602 => ?_)
  · refine x_goto (tgt := 1057) X (by decide) dL_law_617 ?_
    refine W.widen (k := cells + 2) (n := slots + 12) (by omega) (by omega) ?_
    exact K _ _ _ _ _ _ ⟨hC, ⟨_, hX⟩, (oHel_v hI _), hB, hmo, _, hou⟩ w (lv_sub hl [2, 3, 4, 5, 6] rfl)
  · refine x_al_n X hl 3 rfl rfl dL_law_605 ?_
    refine x_iconst X dL_law_606 ?_
    refine x_lald (v := iL ((oHel (sv xs (i + 1)) σ).2.1)) X w hmo hou (hov hb602) dL_law_607 ?_
    refine x_il X hl 0 rfl dL_law_608 ?_
    refine x_i2l X dL_law_610 ?_
    refine x_lcmpS X rfl dL_law_611 ?_
    refine x_ifT_eq (tgt := 617) X (by decide) (by decide) (by decide) dL_law_612 ?_
    refine x_goto (tgt := 1057) X (by decide) dL_law_617 ?_
    refine W.widen (k := cells + 2) (n := slots + 12) (by omega) (by omega) ?_
    exact K _ _ _ _ _ _ ⟨hC, ⟨_, hX⟩, (oHel_v hI _), hB, hmo, _, hou⟩ w (lv_sub hl [2, 3, 4, 5, 6] rfl)

theorem k_L_law_X3_kept : XV wsL_law RL 107 RX3 yX3_kept cX3_kept 1 (some .int) wsX3_kept 0 := ⟨gL_law_X3_kept, ⟨_, rfl⟩, rfl, by decide, by decide, by decide +kernel⟩
theorem k_L_law_X4_kept : XV wsL_law RL 110 RX4 yX4_kept cX4_kept 1 (some .int) wsX4_kept 0 := ⟨gL_law_X4_kept, ⟨_, rfl⟩, rfl, by decide, by decide, by decide +kernel⟩
set_option maxHeartbeats 4000000 in
set_option maxRecDepth 100000 in
theorem lc_9 (X : XX p m c cL_law 7 s #[Value.ref b] wsL_law RL D cs) (hl9 : l.stackTraces = false) (hV : EV s) (hZ : EZ A s s.heap) (hA : ∀ q, s.heap.size ≤ q → A q) (hXs : va_X b LL xs s s.heap) (hbl : b < s.heap.size) (hbA : ¬ A b) (hLL : LL ≤ 2048) (hLI : LI cs L f0 x br ba pr sz lr mo B ou σ) (w : XW D A s.heap L f0 H locs) (hi : 0 ≤ i ∧ i + 3 < (LL : Int)) (hcs : cells + 2 ≤ 628090 ∧ slots + 12 ≤ 7211835) (hl : lv_has ls 7 [(4, .int (iI i)), (3, .ref ou), (2, .ref mo), (1, .ref x), (0, .ref b)])
  (K : ∀ (σ2 : Sg) (L2 : List Nat) (f2 : Nat → va_E) (H2 : Heap) (locs2 : List Loc) (ls2 : Array Slot), LI cs L2 f2 x br ba pr sz lr mo B ou σ2 → XW D A s.heap L2 f2 H2 locs2 → lv_has ls2 7 [(4, .int (iI i)), (3, .ref ou), (2, .ref mo), (1, .ref x), (0, .ref b)] → W p l e room_1 s m #[Value.ref b] below meth c H2 locs2 (cells + 2) (slots + 12) Q (F0 m 1057 ls2 [])) :
  W p l e room_1 s m #[Value.ref b] below meth c H locs cells slots Q (F0 m 620 ls []) := by
  obtain ⟨hC, ⟨t0, hX⟩, hI, hB, hmo, g0, hou⟩ := hLI
  refine x_al_n X hl 3 rfl rfl dL_law_620 ?_
  refine x_callV (As := []) (rest := []) (c1 := cells) (s1 := slots) X w hA (c_X3_kept l D cs L f0 x br ba pr sz lr σ hC) k_L_law_X3_kept (by decide) hC.mx hC.fx rfl rfl rfl hl rfl (Nat.le_of_ble_eq_true rfl) ⟨by show cells + 0 ≤ 628090; omega, by show slots + 0 ≤ 7211835; omega⟩ rfl rfl dL_law_621 (fun v L1 f1 H locs w hp => ?_)
  obtain ⟨rfl, rfl, hp⟩ := hp
  subst hp
  have hX9 := hX
  obtain ⟨g9, z9, w9, hM9, hag9⟩ := hX9
  have hMm := hM9.mm
  have hMf := hM9.fm
  show W p l e _ s m _ below meth c _ _ _ _ _ (F0 m 624 ls [.int (iI (gP σ))])
  refine x_al_n X hl 2 rfl rfl dL_law_624 ?_
  refine x_callV (As := []) (rest := [.int (iI (gP σ))]) (c1 := cells) (s1 := slots) X w hA (c_X4_kept l D cs L f0 mo B _ σ hX hI) k_L_law_X4_kept (by decide) hMm hMf rfl rfl rfl hl rfl (Nat.le_of_ble_eq_true rfl) ⟨by show cells + 0 ≤ 628090; omega, by show slots + 0 ≤ 7211835; omega⟩ rfl rfl dL_law_625 (fun v L1 f1 H locs w hp => ?_)
  obtain ⟨rfl, rfl, hfm, hX2⟩ := hp
  have hC := CX.fm hX hB hC hfm
  have hou := OU.fm hX hB hou hfm
  have hX := hX2
  show W p l e _ s m _ below meth c _ _ _ _ _ (F0 m 628 ls [.int (iI (gP σ)), .int (iI (gP σ))])
  refine x_icmpS_eq (tgt := 1057) X (by decide) dL_law_628 ?_
  refine W.widen (k := cells + 2) (n := slots + 12) (by omega) (by omega) ?_
  exact K _ _ _ _ _ _ ⟨hC, ⟨_, hX⟩, hI, hB, hmo, _, hou⟩ w (lv_sub hl [0, 1, 2, 3, 4] rfl)

theorem k_L_law_X3_paidBack : XV wsL_law RL 111 RX3 yX3_paidBack cX3_paidBack 1 (some .int) wsX3_paidBack 0 := ⟨gL_law_X3_paidBack, ⟨_, rfl⟩, rfl, by decide, by decide, by decide +kernel⟩
theorem k_L_law_X4_paidBack : XV wsL_law RL 114 RX4 yX4_paidBack cX4_paidBack 1 (some .int) wsX4_paidBack 0 := ⟨gL_law_X4_paidBack, ⟨_, rfl⟩, rfl, by decide, by decide, by decide +kernel⟩
set_option maxHeartbeats 4000000 in
set_option maxRecDepth 100000 in
theorem lc_10 (X : XX p m c cL_law 7 s #[Value.ref b] wsL_law RL D cs) (hl9 : l.stackTraces = false) (hV : EV s) (hZ : EZ A s s.heap) (hA : ∀ q, s.heap.size ≤ q → A q) (hXs : va_X b LL xs s s.heap) (hbl : b < s.heap.size) (hbA : ¬ A b) (hLL : LL ≤ 2048) (hLI : LI cs L f0 x br ba pr sz lr mo B ou σ) (w : XW D A s.heap L f0 H locs) (hi : 0 ≤ i ∧ i + 3 < (LL : Int)) (hcs : cells + 2 ≤ 628090 ∧ slots + 12 ≤ 7211835) (hl : lv_has ls 7 [(4, .int (iI i)), (3, .ref ou), (2, .ref mo), (1, .ref x), (0, .ref b)])
  (K : ∀ (σ2 : Sg) (L2 : List Nat) (f2 : Nat → va_E) (H2 : Heap) (locs2 : List Loc) (ls2 : Array Slot), LI cs L2 f2 x br ba pr sz lr mo B ou σ2 → XW D A s.heap L2 f2 H2 locs2 → lv_has ls2 7 [(4, .int (iI i)), (3, .ref ou), (2, .ref mo), (1, .ref x), (0, .ref b)] → W p l e room_1 s m #[Value.ref b] below meth c H2 locs2 (cells + 2) (slots + 12) Q (F0 m 1057 ls2 [])) :
  W p l e room_1 s m #[Value.ref b] below meth c H locs cells slots Q (F0 m 633 ls []) := by
  obtain ⟨hC, ⟨t0, hX⟩, hI, hB, hmo, g0, hou⟩ := hLI
  refine x_al_n X hl 3 rfl rfl dL_law_633 ?_
  refine x_callV (As := []) (rest := []) (c1 := cells) (s1 := slots) X w hA (c_X3_paidBack l D cs L f0 x br ba pr sz lr σ hC) k_L_law_X3_paidBack (by decide) hC.mx hC.fx rfl rfl rfl hl rfl (Nat.le_of_ble_eq_true rfl) ⟨by show cells + 0 ≤ 628090; omega, by show slots + 0 ≤ 7211835; omega⟩ rfl rfl dL_law_634 (fun v L1 f1 H locs w hp => ?_)
  obtain ⟨rfl, rfl, hp⟩ := hp
  subst hp
  have hX9 := hX
  obtain ⟨g9, z9, w9, hM9, hag9⟩ := hX9
  have hMm := hM9.mm
  have hMf := hM9.fm
  show W p l e _ s m _ below meth c _ _ _ _ _ (F0 m 637 ls [.int (iI (gB σ))])
  refine x_al_n X hl 2 rfl rfl dL_law_637 ?_
  refine x_callV (As := []) (rest := [.int (iI (gB σ))]) (c1 := cells) (s1 := slots) X w hA (c_X4_paidBack l D cs L f0 mo B _ σ hX hI) k_L_law_X4_paidBack (by decide) hMm hMf rfl rfl rfl hl rfl (Nat.le_of_ble_eq_true rfl) ⟨by show cells + 0 ≤ 628090; omega, by show slots + 0 ≤ 7211835; omega⟩ rfl rfl dL_law_638 (fun v L1 f1 H locs w hp => ?_)
  obtain ⟨rfl, rfl, hfm, hX2⟩ := hp
  have hC := CX.fm hX hB hC hfm
  have hou := OU.fm hX hB hou hfm
  have hX := hX2
  show W p l e _ s m _ below meth c _ _ _ _ _ (F0 m 641 ls [.int (iI (gB σ)), .int (iI (gB σ))])
  refine x_icmpS_eq (tgt := 1057) X (by decide) dL_law_641 ?_
  refine W.widen (k := cells + 2) (n := slots + 12) (by omega) (by omega) ?_
  exact K _ _ _ _ _ _ ⟨hC, ⟨_, hX⟩, hI, hB, hmo, _, hou⟩ w (lv_sub hl [0, 1, 2, 3, 4] rfl)

theorem k_L_law_L_pass : XH wsL_law RL 115 yL_pass cL_pass 4 (some .int) [(0, 9, 12, 13), (0, 9, 15, 15)] wsL_pass 3 := ⟨gL_law_L_pass, ⟨_, rfl⟩, by decide, by decide, by decide +kernel⟩
theorem k_L_law_X4_pass : XV wsL_law RL 117 RX4 yX4_pass cX4_pass 6 (some .int) wsX4_pass 1 := ⟨gL_law_X4_pass, ⟨_, rfl⟩, rfl, by decide, by decide, by decide +kernel⟩
set_option maxHeartbeats 4000000 in
set_option maxRecDepth 100000 in
theorem lc_11 (X : XX p m c cL_law 7 s #[Value.ref b] wsL_law RL D cs) (hl9 : l.stackTraces = false) (hV : EV s) (hZ : EZ A s s.heap) (hA : ∀ q, s.heap.size ≤ q → A q) (hXs : va_X b LL xs s s.heap) (hbl : b < s.heap.size) (hbA : ¬ A b) (hLL : LL ≤ 2048) (hLI : LI cs L f0 x br ba pr sz lr mo B ou σ) (w : XW D A s.heap L f0 H locs) (hi : 0 ≤ i ∧ i + 3 < (LL : Int)) (hcs : cells + 2 ≤ 628090 ∧ slots + 12 ≤ 7211835) (hl : lv_has ls 7 [(4, .int (iI i)), (3, .ref ou), (2, .ref mo), (1, .ref x), (0, .ref b)])
  (K : ∀ (σ2 : Sg) (L2 : List Nat) (f2 : Nat → va_E) (H2 : Heap) (locs2 : List Loc) (ls2 : Array Slot), LI cs L2 f2 x br ba pr sz lr mo B ou σ2 → XW D A s.heap L2 f2 H2 locs2 → lv_has ls2 7 [(4, .int (iI i)), (3, .ref ou), (2, .ref mo), (1, .ref x), (0, .ref b)] → W p l e room_1 s m #[Value.ref b] below meth c H2 locs2 (cells + 2) (slots + 12) Q (F0 m 1057 ls2 [])) :
  W p l e room_1 s m #[Value.ref b] below meth c H locs cells slots Q (F0 m 646 ls []) := by
  obtain ⟨hC, ⟨t0, hX⟩, hI, hB, hmo, g0, hou⟩ := hLI
  refine x_al_n X hl 3 rfl rfl dL_law_646 ?_
  refine x_al_n X hl 4 rfl rfl dL_law_647 ?_
  refine x_il X hl 0 rfl dL_law_648 ?_
  refine x_iconst X dL_law_650 ?_
  refine x_iadd X dL_law_651 ?_
  refine x_sld (xs := xs) X w hXs hbl hbA (by omega) dL_law_652 ?_
  refine x_al_n X hl 1 rfl rfl dL_law_653 ?_
  refine x_callH1 (As := [.ref x, .int (iI (sv xs (i + 1))), .ref ou]) (rest := []) (c1 := cells + 1) (s1 := slots + 6) X w hA hV hZ (c_L_pass l D cs hl9 L f0 x br ba pr sz lr ou σ (sv xs (i + 1)) g0 hC hI (sv_rg xs (i + 1)) hmo hou) k_L_law_L_pass (by decide) rfl hl rfl (Nat.le_of_ble_eq_true rfl) ⟨by show cells + 1 ≤ 628090; omega, by show slots + 6 ≤ 7211835; omega⟩ rfl rfl dL_law_654 (fun v L1 f1 H locs w hp => ?_)
  obtain ⟨rfl, hC2, hsub, hFO, hob, g2, hou2, hov⟩ := hp
  have hX := MX.fo hX hB hC hou hFO hsub
  have hmo := hsub _ hmo
  have hC := hC2
  have hou := hou2
  have hX9 := hX
  obtain ⟨g9, z9, w9, hM9, hag9⟩ := hX9
  have hMm := hM9.mm
  have hMf := hM9.fm
  show W p l e _ s m _ below meth c _ _ _ _ _ (F0 m 657 ls [.int (iI ((oPas (sv xs (i + 1)) σ).1))])
  refine x_is (lv' := [(5, .int (iI ((oPas (sv xs (i + 1)) σ).1))), (4, .int (iI i)), (3, .ref ou), (2, .ref mo), (1, .ref x), (0, .ref b)]) X hl (by decide) rfl dL_law_657 (fun ls hl => ?_)
  refine x_al_n X hl 3 rfl rfl dL_law_659 ?_
  refine x_al_n X hl 5 rfl rfl dL_law_660 ?_
  refine x_il X hl 1 rfl dL_law_661 ?_
  refine x_iconst X dL_law_663 ?_
  refine x_iadd X dL_law_664 ?_
  refine x_sld (xs := xs) X w hXs hbl hbA (by omega) dL_law_665 ?_
  refine x_callV (As := [.int (iI (sv xs (i + 1)))]) (rest := []) (c1 := cells + 1) (s1 := slots + 6) X w hA (c_X4_pass l D cs L1 f1 mo B _ σ (sv xs (i + 1)) hX hI (sv_rg xs (i + 1))) k_L_law_X4_pass (by decide) hMm hMf rfl rfl rfl hl rfl (Nat.le_of_ble_eq_true rfl) ⟨by show cells + 1 + 0 ≤ 628090; omega, by show slots + 6 + 0 ≤ 7211835; omega⟩ rfl rfl dL_law_666 (fun v L1 f1 H locs w hp => ?_)
  obtain ⟨rfl, rfl, hfm, hX2⟩ := hp
  have hC := CX.fm hX hB hC hfm
  have hou := OU.fm hX hB hou hfm
  have hX := hX2
  have hX9 := hX
  obtain ⟨g9, z9, w9, hM9, hag9⟩ := hX9
  have hMm := hM9.mm
  have hMf := hM9.fm
  show W p l e _ s m _ below meth c _ _ _ _ _ (F0 m 669 ls [.int (iI ((oPas (sv xs (i + 1)) σ).2.1))])
  refine x_is (lv' := [(6, .int (iI ((oPas (sv xs (i + 1)) σ).2.1))), (5, .int (iI ((oPas (sv xs (i + 1)) σ).1))), (4, .int (iI i)), (3, .ref ou), (2, .ref mo), (1, .ref x), (0, .ref b)]) X hl (by decide) rfl dL_law_669 (fun ls hl => ?_)
  refine x_al_n X hl 4 rfl rfl dL_law_671 ?_
  refine x_callV (As := []) (rest := []) (c1 := cells + 1) (s1 := slots + 6) X w hA (c_X4_thrown l D cs L1 f1 mo B _ _ _ _ _ _ _ _ _ _ hM9) k_L_law_X4_thrown (by decide) hMm hMf rfl rfl rfl hl rfl (Nat.le_of_ble_eq_true rfl) ⟨by show cells + 1 + 0 ≤ 628090; omega, by show slots + 6 + 0 ≤ 7211835; omega⟩ rfl rfl dL_law_672 (fun v L1 f1 H locs w hp => ?_)
  obtain ⟨rfl, rfl, hp⟩ := hp
  subst hp
  show W p l e _ s m _ below meth c _ _ _ _ _ (F0 m 675 ls [.int (iI ((oPas (sv xs (i + 1)) σ).1))])
  refine x_il X hl 1 rfl dL_law_675 ?_
  refine x_icmpS_eq (tgt := 682) X (by decide) dL_law_677 ?_
  refine x_il X hl 1 rfl dL_law_682 ?_
  refine x_if_ne (tgt := 699) X (by omega) (by decide) dL_law_684 (fun hb684 => ?_) (fun hb684 => ?_)
  · refine x_goto (tgt := 1057) X (by decide) dL_law_699 ?_
    refine W.widen (k := cells + 2) (n := slots + 12) (by omega) (by omega) ?_
    exact K _ _ _ _ _ _ ⟨hC, ⟨_, hX⟩, (oPas_v hI _), hB, hmo, _, hou⟩ w (lv_sub hl [2, 3, 4, 5, 6] rfl)
  · refine x_al_n X hl 3 rfl rfl dL_law_687 ?_
    refine x_iconst X dL_law_688 ?_
    refine x_lald (v := iL ((oPas (sv xs (i + 1)) σ).2.1)) X w hmo hou (hov hb684) dL_law_689 ?_
    refine x_il X hl 0 rfl dL_law_690 ?_
    refine x_i2l X dL_law_692 ?_
    refine x_lcmpS X rfl dL_law_693 ?_
    refine x_ifT_eq (tgt := 699) X (by decide) (by decide) (by decide) dL_law_694 ?_
    refine x_goto (tgt := 1057) X (by decide) dL_law_699 ?_
    refine W.widen (k := cells + 2) (n := slots + 12) (by omega) (by omega) ?_
    exact K _ _ _ _ _ _ ⟨hC, ⟨_, hX⟩, (oPas_v hI _), hB, hmo, _, hou⟩ w (lv_sub hl [2, 3, 4, 5, 6] rfl)

theorem k_L_law_X3_today : XV wsL_law RL 118 RX3 yX3_today cX3_today 1 (some .int) wsX3_today 0 := ⟨gL_law_X3_today, ⟨_, rfl⟩, rfl, by decide, by decide, by decide +kernel⟩
theorem k_L_law_X4_today : XV wsL_law RL 121 RX4 yX4_today cX4_today 1 (some .int) wsX4_today 0 := ⟨gL_law_X4_today, ⟨_, rfl⟩, rfl, by decide, by decide, by decide +kernel⟩
set_option maxHeartbeats 4000000 in
set_option maxRecDepth 100000 in
theorem lc_12 (X : XX p m c cL_law 7 s #[Value.ref b] wsL_law RL D cs) (hl9 : l.stackTraces = false) (hV : EV s) (hZ : EZ A s s.heap) (hA : ∀ q, s.heap.size ≤ q → A q) (hXs : va_X b LL xs s s.heap) (hbl : b < s.heap.size) (hbA : ¬ A b) (hLL : LL ≤ 2048) (hLI : LI cs L f0 x br ba pr sz lr mo B ou σ) (w : XW D A s.heap L f0 H locs) (hi : 0 ≤ i ∧ i + 3 < (LL : Int)) (hcs : cells + 2 ≤ 628090 ∧ slots + 12 ≤ 7211835) (hl : lv_has ls 7 [(4, .int (iI i)), (3, .ref ou), (2, .ref mo), (1, .ref x), (0, .ref b)])
  (K : ∀ (σ2 : Sg) (L2 : List Nat) (f2 : Nat → va_E) (H2 : Heap) (locs2 : List Loc) (ls2 : Array Slot), LI cs L2 f2 x br ba pr sz lr mo B ou σ2 → XW D A s.heap L2 f2 H2 locs2 → lv_has ls2 7 [(4, .int (iI i)), (3, .ref ou), (2, .ref mo), (1, .ref x), (0, .ref b)] → W p l e room_1 s m #[Value.ref b] below meth c H2 locs2 (cells + 2) (slots + 12) Q (F0 m 1057 ls2 [])) :
  W p l e room_1 s m #[Value.ref b] below meth c H locs cells slots Q (F0 m 702 ls []) := by
  obtain ⟨hC, ⟨t0, hX⟩, hI, hB, hmo, g0, hou⟩ := hLI
  refine x_al_n X hl 3 rfl rfl dL_law_702 ?_
  refine x_callV (As := []) (rest := []) (c1 := cells) (s1 := slots) X w hA (c_X3_today l D cs L f0 x br ba pr sz lr σ hC) k_L_law_X3_today (by decide) hC.mx hC.fx rfl rfl rfl hl rfl (Nat.le_of_ble_eq_true rfl) ⟨by show cells + 0 ≤ 628090; omega, by show slots + 0 ≤ 7211835; omega⟩ rfl rfl dL_law_703 (fun v L1 f1 H locs w hp => ?_)
  obtain ⟨rfl, rfl, hp⟩ := hp
  subst hp
  have hX9 := hX
  obtain ⟨g9, z9, w9, hM9, hag9⟩ := hX9
  have hMm := hM9.mm
  have hMf := hM9.fm
  show W p l e _ s m _ below meth c _ _ _ _ _ (F0 m 706 ls [.int (iI (gT σ))])
  refine x_al_n X hl 2 rfl rfl dL_law_706 ?_
  refine x_callV (As := []) (rest := [.int (iI (gT σ))]) (c1 := cells) (s1 := slots) X w hA (c_X4_today l D cs L f0 mo B _ σ hX hI) k_L_law_X4_today (by decide) hMm hMf rfl rfl rfl hl rfl (Nat.le_of_ble_eq_true rfl) ⟨by show cells + 0 ≤ 628090; omega, by show slots + 0 ≤ 7211835; omega⟩ rfl rfl dL_law_707 (fun v L1 f1 H locs w hp => ?_)
  obtain ⟨rfl, rfl, hfm, hX2⟩ := hp
  have hC := CX.fm hX hB hC hfm
  have hou := OU.fm hX hB hou hfm
  have hX := hX2
  show W p l e _ s m _ below meth c _ _ _ _ _ (F0 m 710 ls [.int (iI (gT σ)), .int (iI (gT σ))])
  refine x_icmpS_eq (tgt := 1057) X (by decide) dL_law_710 ?_
  refine W.widen (k := cells + 2) (n := slots + 12) (by omega) (by omega) ?_
  exact K _ _ _ _ _ _ ⟨hC, ⟨_, hX⟩, hI, hB, hmo, _, hou⟩ w (lv_sub hl [0, 1, 2, 3, 4] rfl)

theorem k_L_law_X3_pages : XV wsL_law RL 122 RX3 yX3_pages cX3_pages 1 (some .int) wsX3_pages 0 := ⟨gL_law_X3_pages, ⟨_, rfl⟩, rfl, by decide, by decide, by decide +kernel⟩
theorem k_L_law_X4_pages : XV wsL_law RL 125 RX4 yX4_pages cX4_pages 1 (some .int) wsX4_pages 0 := ⟨gL_law_X4_pages, ⟨_, rfl⟩, rfl, by decide, by decide, by decide +kernel⟩
set_option maxHeartbeats 4000000 in
set_option maxRecDepth 100000 in
theorem lc_13 (X : XX p m c cL_law 7 s #[Value.ref b] wsL_law RL D cs) (hl9 : l.stackTraces = false) (hV : EV s) (hZ : EZ A s s.heap) (hA : ∀ q, s.heap.size ≤ q → A q) (hXs : va_X b LL xs s s.heap) (hbl : b < s.heap.size) (hbA : ¬ A b) (hLL : LL ≤ 2048) (hLI : LI cs L f0 x br ba pr sz lr mo B ou σ) (w : XW D A s.heap L f0 H locs) (hi : 0 ≤ i ∧ i + 3 < (LL : Int)) (hcs : cells + 2 ≤ 628090 ∧ slots + 12 ≤ 7211835) (hl : lv_has ls 7 [(4, .int (iI i)), (3, .ref ou), (2, .ref mo), (1, .ref x), (0, .ref b)])
  (K : ∀ (σ2 : Sg) (L2 : List Nat) (f2 : Nat → va_E) (H2 : Heap) (locs2 : List Loc) (ls2 : Array Slot), LI cs L2 f2 x br ba pr sz lr mo B ou σ2 → XW D A s.heap L2 f2 H2 locs2 → lv_has ls2 7 [(4, .int (iI i)), (3, .ref ou), (2, .ref mo), (1, .ref x), (0, .ref b)] → W p l e room_1 s m #[Value.ref b] below meth c H2 locs2 (cells + 2) (slots + 12) Q (F0 m 1057 ls2 [])) :
  W p l e room_1 s m #[Value.ref b] below meth c H locs cells slots Q (F0 m 715 ls []) := by
  obtain ⟨hC, ⟨t0, hX⟩, hI, hB, hmo, g0, hou⟩ := hLI
  refine x_al_n X hl 3 rfl rfl dL_law_715 ?_
  refine x_callV (As := []) (rest := []) (c1 := cells) (s1 := slots) X w hA (c_X3_pages l D cs L f0 x br ba pr sz lr σ hC) k_L_law_X3_pages (by decide) hC.mx hC.fx rfl rfl rfl hl rfl (Nat.le_of_ble_eq_true rfl) ⟨by show cells + 0 ≤ 628090; omega, by show slots + 0 ≤ 7211835; omega⟩ rfl rfl dL_law_716 (fun v L1 f1 H locs w hp => ?_)
  obtain ⟨rfl, rfl, hp⟩ := hp
  subst hp
  have hX9 := hX
  obtain ⟨g9, z9, w9, hM9, hag9⟩ := hX9
  have hMm := hM9.mm
  have hMf := hM9.fm
  show W p l e _ s m _ below meth c _ _ _ _ _ (F0 m 719 ls [.int (iI (gK σ))])
  refine x_al_n X hl 2 rfl rfl dL_law_719 ?_
  refine x_callV (As := []) (rest := [.int (iI (gK σ))]) (c1 := cells) (s1 := slots) X w hA (c_X4_pages l D cs L f0 mo B _ σ hX hI) k_L_law_X4_pages (by decide) hMm hMf rfl rfl rfl hl rfl (Nat.le_of_ble_eq_true rfl) ⟨by show cells + 0 ≤ 628090; omega, by show slots + 0 ≤ 7211835; omega⟩ rfl rfl dL_law_720 (fun v L1 f1 H locs w hp => ?_)
  obtain ⟨rfl, rfl, hfm, hX2⟩ := hp
  have hC := CX.fm hX hB hC hfm
  have hou := OU.fm hX hB hou hfm
  have hX := hX2
  show W p l e _ s m _ below meth c _ _ _ _ _ (F0 m 723 ls [.int (iI (gK σ)), .int (iI (gK σ))])
  refine x_icmpS_eq (tgt := 1057) X (by decide) dL_law_723 ?_
  refine W.widen (k := cells + 2) (n := slots + 12) (by omega) (by omega) ?_
  exact K _ _ _ _ _ _ ⟨hC, ⟨_, hX⟩, hI, hB, hmo, _, hou⟩ w (lv_sub hl [0, 1, 2, 3, 4] rfl)

theorem k_L_law_L_size : XH wsL_law RL 126 yL_size cL_size 4 (some .int) [(0, 9, 12, 48)] wsL_size 3 := ⟨gL_law_L_size, ⟨_, rfl⟩, by decide, by decide, by decide +kernel⟩
theorem k_L_law_X4_size : XV wsL_law RL 128 RX4 yX4_size cX4_size 2 (some .int) wsX4_size 1 := ⟨gL_law_X4_size, ⟨_, rfl⟩, rfl, by decide, by decide, by decide +kernel⟩
set_option maxHeartbeats 4000000 in
set_option maxRecDepth 100000 in
theorem lc_14 (X : XX p m c cL_law 7 s #[Value.ref b] wsL_law RL D cs) (hl9 : l.stackTraces = false) (hV : EV s) (hZ : EZ A s s.heap) (hA : ∀ q, s.heap.size ≤ q → A q) (hXs : va_X b LL xs s s.heap) (hbl : b < s.heap.size) (hbA : ¬ A b) (hLL : LL ≤ 2048) (hLI : LI cs L f0 x br ba pr sz lr mo B ou σ) (w : XW D A s.heap L f0 H locs) (hi : 0 ≤ i ∧ i + 3 < (LL : Int)) (hcs : cells + 2 ≤ 628090 ∧ slots + 12 ≤ 7211835) (hl : lv_has ls 7 [(4, .int (iI i)), (3, .ref ou), (2, .ref mo), (1, .ref x), (0, .ref b)])
  (K : ∀ (σ2 : Sg) (L2 : List Nat) (f2 : Nat → va_E) (H2 : Heap) (locs2 : List Loc) (ls2 : Array Slot), LI cs L2 f2 x br ba pr sz lr mo B ou σ2 → XW D A s.heap L2 f2 H2 locs2 → lv_has ls2 7 [(4, .int (iI i)), (3, .ref ou), (2, .ref mo), (1, .ref x), (0, .ref b)] → W p l e room_1 s m #[Value.ref b] below meth c H2 locs2 (cells + 2) (slots + 12) Q (F0 m 1057 ls2 [])) :
  W p l e room_1 s m #[Value.ref b] below meth c H locs cells slots Q (F0 m 728 ls []) := by
  obtain ⟨hC, ⟨t0, hX⟩, hI, hB, hmo, g0, hou⟩ := hLI
  refine x_al_n X hl 3 rfl rfl dL_law_728 ?_
  refine x_al_n X hl 4 rfl rfl dL_law_729 ?_
  refine x_il X hl 0 rfl dL_law_730 ?_
  refine x_iconst X dL_law_732 ?_
  refine x_iadd X dL_law_733 ?_
  refine x_sld (xs := xs) X w hXs hbl hbA (by omega) dL_law_734 ?_
  refine x_al_n X hl 1 rfl rfl dL_law_735 ?_
  refine x_callH1 (As := [.ref x, .int (iI (sv xs (i + 1))), .ref ou]) (rest := []) (c1 := cells + 1) (s1 := slots + 6) X w hA hV hZ (c_L_size l D cs hl9 L f0 x br ba pr sz lr ou σ (sv xs (i + 1)) g0 hC hI (sv_rg xs (i + 1)) hmo hou) k_L_law_L_size (by decide) rfl hl rfl (Nat.le_of_ble_eq_true rfl) ⟨by show cells + 1 ≤ 628090; omega, by show slots + 6 ≤ 7211835; omega⟩ rfl rfl dL_law_736 (fun v L1 f1 H locs w hp => ?_)
  obtain ⟨rfl, hC2, hsub, hFO, hob, g2, hou2, hov⟩ := hp
  have hX := MX.fo hX hB hC hou hFO hsub
  have hmo := hsub _ hmo
  have hC := hC2
  have hou := hou2
  have hX9 := hX
  obtain ⟨g9, z9, w9, hM9, hag9⟩ := hX9
  have hMm := hM9.mm
  have hMf := hM9.fm
  show W p l e _ s m _ below meth c _ _ _ _ _ (F0 m 739 ls [.int (iI ((oSiz (sv xs (i + 1)) σ).1))])
  refine x_is (lv' := [(5, .int (iI ((oSiz (sv xs (i + 1)) σ).1))), (4, .int (iI i)), (3, .ref ou), (2, .ref mo), (1, .ref x), (0, .ref b)]) X hl (by decide) rfl dL_law_739 (fun ls hl => ?_)
  refine x_al_n X hl 3 rfl rfl dL_law_741 ?_
  refine x_al_n X hl 5 rfl rfl dL_law_742 ?_
  refine x_il X hl 1 rfl dL_law_743 ?_
  refine x_iconst X dL_law_745 ?_
  refine x_iadd X dL_law_746 ?_
  refine x_sld (xs := xs) X w hXs hbl hbA (by omega) dL_law_747 ?_
  refine x_callV (As := [.int (iI (sv xs (i + 1)))]) (rest := []) (c1 := cells + 1) (s1 := slots + 6) X w hA (c_X4_size l D cs L1 f1 mo B _ σ (sv xs (i + 1)) hX hI (sv_rg xs (i + 1))) k_L_law_X4_size (by decide) hMm hMf rfl rfl rfl hl rfl (Nat.le_of_ble_eq_true rfl) ⟨by show cells + 1 + 0 ≤ 628090; omega, by show slots + 6 + 0 ≤ 7211835; omega⟩ rfl rfl dL_law_748 (fun v L1 f1 H locs w hp => ?_)
  obtain ⟨rfl, rfl, hfm, hX2⟩ := hp
  have hC := CX.fm hX hB hC hfm
  have hou := OU.fm hX hB hou hfm
  have hX := hX2
  have hX9 := hX
  obtain ⟨g9, z9, w9, hM9, hag9⟩ := hX9
  have hMm := hM9.mm
  have hMf := hM9.fm
  show W p l e _ s m _ below meth c _ _ _ _ _ (F0 m 751 ls [.int (iI ((oSiz (sv xs (i + 1)) σ).2.1))])
  refine x_is (lv' := [(6, .int (iI ((oSiz (sv xs (i + 1)) σ).2.1))), (5, .int (iI ((oSiz (sv xs (i + 1)) σ).1))), (4, .int (iI i)), (3, .ref ou), (2, .ref mo), (1, .ref x), (0, .ref b)]) X hl (by decide) rfl dL_law_751 (fun ls hl => ?_)
  refine x_al_n X hl 4 rfl rfl dL_law_753 ?_
  refine x_callV (As := []) (rest := []) (c1 := cells + 1) (s1 := slots + 6) X w hA (c_X4_thrown l D cs L1 f1 mo B _ _ _ _ _ _ _ _ _ _ hM9) k_L_law_X4_thrown (by decide) hMm hMf rfl rfl rfl hl rfl (Nat.le_of_ble_eq_true rfl) ⟨by show cells + 1 + 0 ≤ 628090; omega, by show slots + 6 + 0 ≤ 7211835; omega⟩ rfl rfl dL_law_754 (fun v L1 f1 H locs w hp => ?_)
  obtain ⟨rfl, rfl, hp⟩ := hp
  subst hp
  show W p l e _ s m _ below meth c _ _ _ _ _ (F0 m 757 ls [.int (iI ((oSiz (sv xs (i + 1)) σ).1))])
  refine x_il X hl 1 rfl dL_law_757 ?_
  refine x_icmpS_eq (tgt := 764) X (by decide) dL_law_759 ?_
  refine x_il X hl 1 rfl dL_law_764 ?_
  refine x_if_ne (tgt := 781) X (by omega) (by decide) dL_law_766 (fun hb766 => ?_) (fun hb766 => ?_)
  · refine x_goto (tgt := 1057) X (by decide) dL_law_781 ?_
    refine W.widen (k := cells + 2) (n := slots + 12) (by omega) (by omega) ?_
    exact K _ _ _ _ _ _ ⟨hC, ⟨_, hX⟩, (oSiz_v hI _), hB, hmo, _, hou⟩ w (lv_sub hl [2, 3, 4, 5, 6] rfl)
  · refine x_al_n X hl 3 rfl rfl dL_law_769 ?_
    refine x_iconst X dL_law_770 ?_
    refine x_lald (v := iL ((oSiz (sv xs (i + 1)) σ).2.1)) X w hmo hou (hov hb766) dL_law_771 ?_
    refine x_il X hl 0 rfl dL_law_772 ?_
    refine x_i2l X dL_law_774 ?_
    refine x_lcmpS X rfl dL_law_775 ?_
    refine x_ifT_eq (tgt := 781) X (by decide) (by decide) (by decide) dL_law_776 ?_
    refine x_goto (tgt := 1057) X (by decide) dL_law_781 ?_
    refine W.widen (k := cells + 2) (n := slots + 12) (by omega) (by omega) ?_
    exact K _ _ _ _ _ _ ⟨hC, ⟨_, hX⟩, (oSiz_v hI _), hB, hmo, _, hou⟩ w (lv_sub hl [2, 3, 4, 5, 6] rfl)

theorem k_L_law_L_at : XH wsL_law RL 129 yL_at cL_at 5 (some .int) [(0, 10, 13, 48)] wsL_at 4 := ⟨gL_law_L_at, ⟨_, rfl⟩, by decide, by decide, by decide +kernel⟩
theorem k_L_law_X4_at : XV wsL_law RL 131 RX4 yX4_at cX4_at 4 (some .int) wsX4_at 2 := ⟨gL_law_X4_at, ⟨_, rfl⟩, rfl, by decide, by decide, by decide +kernel⟩
set_option maxHeartbeats 4000000 in
set_option maxRecDepth 100000 in
theorem lc_15 (X : XX p m c cL_law 7 s #[Value.ref b] wsL_law RL D cs) (hl9 : l.stackTraces = false) (hV : EV s) (hZ : EZ A s s.heap) (hA : ∀ q, s.heap.size ≤ q → A q) (hXs : va_X b LL xs s s.heap) (hbl : b < s.heap.size) (hbA : ¬ A b) (hLL : LL ≤ 2048) (hLI : LI cs L f0 x br ba pr sz lr mo B ou σ) (w : XW D A s.heap L f0 H locs) (hi : 0 ≤ i ∧ i + 3 < (LL : Int)) (hcs : cells + 2 ≤ 628090 ∧ slots + 12 ≤ 7211835) (hl : lv_has ls 7 [(4, .int (iI i)), (3, .ref ou), (2, .ref mo), (1, .ref x), (0, .ref b)])
  (K : ∀ (σ2 : Sg) (L2 : List Nat) (f2 : Nat → va_E) (H2 : Heap) (locs2 : List Loc) (ls2 : Array Slot), LI cs L2 f2 x br ba pr sz lr mo B ou σ2 → XW D A s.heap L2 f2 H2 locs2 → lv_has ls2 7 [(4, .int (iI i)), (3, .ref ou), (2, .ref mo), (1, .ref x), (0, .ref b)] → W p l e room_1 s m #[Value.ref b] below meth c H2 locs2 (cells + 2) (slots + 12) Q (F0 m 1057 ls2 [])) :
  W p l e room_1 s m #[Value.ref b] below meth c H locs cells slots Q (F0 m 784 ls []) := by
  obtain ⟨hC, ⟨t0, hX⟩, hI, hB, hmo, g0, hou⟩ := hLI
  refine x_al_n X hl 3 rfl rfl dL_law_784 ?_
  refine x_al_n X hl 4 rfl rfl dL_law_785 ?_
  refine x_il X hl 0 rfl dL_law_786 ?_
  refine x_iconst X dL_law_788 ?_
  refine x_iadd X dL_law_789 ?_
  refine x_sld (xs := xs) X w hXs hbl hbA (by omega) dL_law_790 ?_
  refine x_al_n X hl 4 rfl rfl dL_law_791 ?_
  refine x_il X hl 0 rfl dL_law_792 ?_
  refine x_iconst X dL_law_794 ?_
  refine x_iadd X dL_law_795 ?_
  refine x_sld (xs := xs) X w hXs hbl hbA (by omega) dL_law_796 ?_
  refine x_al_n X hl 1 rfl rfl dL_law_797 ?_
  refine x_callH1 (As := [.ref x, .int (iI (sv xs (i + 1))), .int (iI (sv xs (i + 2))), .ref ou]) (rest := []) (c1 := cells + 1) (s1 := slots + 6) X w hA hV hZ (c_L_at l D cs hl9 L f0 x br ba pr sz lr ou σ (sv xs (i + 1)) (sv xs (i + 2)) g0 hC hI (⟨sv_rg xs (i + 1), sv_rg xs (i + 2)⟩) hmo hou) k_L_law_L_at (by decide) rfl hl rfl (Nat.le_of_ble_eq_true rfl) ⟨by show cells + 1 ≤ 628090; omega, by show slots + 6 ≤ 7211835; omega⟩ rfl rfl dL_law_798 (fun v L1 f1 H locs w hp => ?_)
  obtain ⟨rfl, hC2, hsub, hFO, hob, g2, hou2, hov⟩ := hp
  have hX := MX.fo hX hB hC hou hFO hsub
  have hmo := hsub _ hmo
  have hC := hC2
  have hou := hou2
  have hX9 := hX
  obtain ⟨g9, z9, w9, hM9, hag9⟩ := hX9
  have hMm := hM9.mm
  have hMf := hM9.fm
  show W p l e _ s m _ below meth c _ _ _ _ _ (F0 m 801 ls [.int (iI ((oAt (sv xs (i + 1)) (sv xs (i + 2)) σ).1))])
  refine x_is (lv' := [(5, .int (iI ((oAt (sv xs (i + 1)) (sv xs (i + 2)) σ).1))), (4, .int (iI i)), (3, .ref ou), (2, .ref mo), (1, .ref x), (0, .ref b)]) X hl (by decide) rfl dL_law_801 (fun ls hl => ?_)
  refine x_al_n X hl 3 rfl rfl dL_law_803 ?_
  refine x_al_n X hl 5 rfl rfl dL_law_804 ?_
  refine x_il X hl 1 rfl dL_law_805 ?_
  refine x_iconst X dL_law_807 ?_
  refine x_iadd X dL_law_808 ?_
  refine x_sld (xs := xs) X w hXs hbl hbA (by omega) dL_law_809 ?_
  refine x_al_n X hl 5 rfl rfl dL_law_810 ?_
  refine x_il X hl 1 rfl dL_law_811 ?_
  refine x_iconst X dL_law_813 ?_
  refine x_iadd X dL_law_814 ?_
  refine x_sld (xs := xs) X w hXs hbl hbA (by omega) dL_law_815 ?_
  refine x_callV (As := [.int (iI (sv xs (i + 1))), .int (iI (sv xs (i + 2)))]) (rest := []) (c1 := cells + 1) (s1 := slots + 6) X w hA (c_X4_at l D cs L1 f1 mo B _ σ (sv xs (i + 1)) (sv xs (i + 2)) hX hI (⟨sv_rg xs (i + 1), sv_rg xs (i + 2)⟩)) k_L_law_X4_at (by decide) hMm hMf rfl rfl rfl hl rfl (Nat.le_of_ble_eq_true rfl) ⟨by show cells + 1 + 0 ≤ 628090; omega, by show slots + 6 + 0 ≤ 7211835; omega⟩ rfl rfl dL_law_816 (fun v L1 f1 H locs w hp => ?_)
  obtain ⟨rfl, rfl, hfm, hX2⟩ := hp
  have hC := CX.fm hX hB hC hfm
  have hou := OU.fm hX hB hou hfm
  have hX := hX2
  have hX9 := hX
  obtain ⟨g9, z9, w9, hM9, hag9⟩ := hX9
  have hMm := hM9.mm
  have hMf := hM9.fm
  show W p l e _ s m _ below meth c _ _ _ _ _ (F0 m 819 ls [.int (iI ((oAt (sv xs (i + 1)) (sv xs (i + 2)) σ).2.1))])
  refine x_is (lv' := [(6, .int (iI ((oAt (sv xs (i + 1)) (sv xs (i + 2)) σ).2.1))), (5, .int (iI ((oAt (sv xs (i + 1)) (sv xs (i + 2)) σ).1))), (4, .int (iI i)), (3, .ref ou), (2, .ref mo), (1, .ref x), (0, .ref b)]) X hl (by decide) rfl dL_law_819 (fun ls hl => ?_)
  refine x_al_n X hl 4 rfl rfl dL_law_821 ?_
  refine x_callV (As := []) (rest := []) (c1 := cells + 1) (s1 := slots + 6) X w hA (c_X4_thrown l D cs L1 f1 mo B _ _ _ _ _ _ _ _ _ _ hM9) k_L_law_X4_thrown (by decide) hMm hMf rfl rfl rfl hl rfl (Nat.le_of_ble_eq_true rfl) ⟨by show cells + 1 + 0 ≤ 628090; omega, by show slots + 6 + 0 ≤ 7211835; omega⟩ rfl rfl dL_law_822 (fun v L1 f1 H locs w hp => ?_)
  obtain ⟨rfl, rfl, hp⟩ := hp
  subst hp
  show W p l e _ s m _ below meth c _ _ _ _ _ (F0 m 825 ls [.int (iI ((oAt (sv xs (i + 1)) (sv xs (i + 2)) σ).1))])
  refine x_il X hl 1 rfl dL_law_825 ?_
  refine x_icmpS_eq (tgt := 832) X (by decide) dL_law_827 ?_
  refine x_il X hl 1 rfl dL_law_832 ?_
  refine x_if_ne (tgt := 849) X (by omega) (by decide) dL_law_834 (fun hb834 => ?_) (fun hb834 => ?_)
  · refine x_goto (tgt := 1057) X (by decide) dL_law_849 ?_
    refine W.widen (k := cells + 2) (n := slots + 12) (by omega) (by omega) ?_
    exact K _ _ _ _ _ _ ⟨hC, ⟨_, hX⟩, (oAt_v hI _ _), hB, hmo, _, hou⟩ w (lv_sub hl [2, 3, 4, 5, 6] rfl)
  · refine x_al_n X hl 3 rfl rfl dL_law_837 ?_
    refine x_iconst X dL_law_838 ?_
    refine x_lald (v := iL ((oAt (sv xs (i + 1)) (sv xs (i + 2)) σ).2.1)) X w hmo hou (hov hb834) dL_law_839 ?_
    refine x_il X hl 0 rfl dL_law_840 ?_
    refine x_i2l X dL_law_842 ?_
    refine x_lcmpS X rfl dL_law_843 ?_
    refine x_ifT_eq (tgt := 849) X (by decide) (by decide) (by decide) dL_law_844 ?_
    refine x_goto (tgt := 1057) X (by decide) dL_law_849 ?_
    refine W.widen (k := cells + 2) (n := slots + 12) (by omega) (by omega) ?_
    exact K _ _ _ _ _ _ ⟨hC, ⟨_, hX⟩, (oAt_v hI _ _), hB, hmo, _, hou⟩ w (lv_sub hl [2, 3, 4, 5, 6] rfl)

theorem k_L_law_L_pageOf : XH wsL_law RL 132 yL_pageOf cL_pageOf 4 (some .int) [(0, 9, 12, 13)] wsL_pageOf 3 := ⟨gL_law_L_pageOf, ⟨_, rfl⟩, by decide, by decide, by decide +kernel⟩
theorem k_L_law_X4_pageOf : XV wsL_law RL 134 RX4 yX4_pageOf cX4_pageOf 3 (some .int) wsX4_pageOf 1 := ⟨gL_law_X4_pageOf, ⟨_, rfl⟩, rfl, by decide, by decide, by decide +kernel⟩
set_option maxHeartbeats 4000000 in
set_option maxRecDepth 100000 in
theorem lc_16 (X : XX p m c cL_law 7 s #[Value.ref b] wsL_law RL D cs) (hl9 : l.stackTraces = false) (hV : EV s) (hZ : EZ A s s.heap) (hA : ∀ q, s.heap.size ≤ q → A q) (hXs : va_X b LL xs s s.heap) (hbl : b < s.heap.size) (hbA : ¬ A b) (hLL : LL ≤ 2048) (hLI : LI cs L f0 x br ba pr sz lr mo B ou σ) (w : XW D A s.heap L f0 H locs) (hi : 0 ≤ i ∧ i + 3 < (LL : Int)) (hcs : cells + 2 ≤ 628090 ∧ slots + 12 ≤ 7211835) (hl : lv_has ls 7 [(4, .int (iI i)), (3, .ref ou), (2, .ref mo), (1, .ref x), (0, .ref b)])
  (K : ∀ (σ2 : Sg) (L2 : List Nat) (f2 : Nat → va_E) (H2 : Heap) (locs2 : List Loc) (ls2 : Array Slot), LI cs L2 f2 x br ba pr sz lr mo B ou σ2 → XW D A s.heap L2 f2 H2 locs2 → lv_has ls2 7 [(4, .int (iI i)), (3, .ref ou), (2, .ref mo), (1, .ref x), (0, .ref b)] → W p l e room_1 s m #[Value.ref b] below meth c H2 locs2 (cells + 2) (slots + 12) Q (F0 m 1057 ls2 [])) :
  W p l e room_1 s m #[Value.ref b] below meth c H locs cells slots Q (F0 m 852 ls []) := by
  obtain ⟨hC, ⟨t0, hX⟩, hI, hB, hmo, g0, hou⟩ := hLI
  refine x_al_n X hl 3 rfl rfl dL_law_852 ?_
  refine x_al_n X hl 4 rfl rfl dL_law_853 ?_
  refine x_il X hl 0 rfl dL_law_854 ?_
  refine x_iconst X dL_law_856 ?_
  refine x_iadd X dL_law_857 ?_
  refine x_sld (xs := xs) X w hXs hbl hbA (by omega) dL_law_858 ?_
  refine x_al_n X hl 1 rfl rfl dL_law_859 ?_
  refine x_callH1 (As := [.ref x, .int (iI (sv xs (i + 1))), .ref ou]) (rest := []) (c1 := cells + 1) (s1 := slots + 6) X w hA hV hZ (c_L_pageOf l D cs hl9 L f0 x br ba pr sz lr ou σ (sv xs (i + 1)) g0 hC hI (sv_rg xs (i + 1)) hmo hou) k_L_law_L_pageOf (by decide) rfl hl rfl (Nat.le_of_ble_eq_true rfl) ⟨by show cells + 1 ≤ 628090; omega, by show slots + 6 ≤ 7211835; omega⟩ rfl rfl dL_law_860 (fun v L1 f1 H locs w hp => ?_)
  obtain ⟨rfl, hC2, hsub, hFO, hob, g2, hou2, hov⟩ := hp
  have hX := MX.fo hX hB hC hou hFO hsub
  have hmo := hsub _ hmo
  have hC := hC2
  have hou := hou2
  have hX9 := hX
  obtain ⟨g9, z9, w9, hM9, hag9⟩ := hX9
  have hMm := hM9.mm
  have hMf := hM9.fm
  show W p l e _ s m _ below meth c _ _ _ _ _ (F0 m 863 ls [.int (iI ((oPgO (sv xs (i + 1)) σ).1))])
  refine x_is (lv' := [(5, .int (iI ((oPgO (sv xs (i + 1)) σ).1))), (4, .int (iI i)), (3, .ref ou), (2, .ref mo), (1, .ref x), (0, .ref b)]) X hl (by decide) rfl dL_law_863 (fun ls hl => ?_)
  refine x_al_n X hl 3 rfl rfl dL_law_865 ?_
  refine x_al_n X hl 5 rfl rfl dL_law_866 ?_
  refine x_il X hl 1 rfl dL_law_867 ?_
  refine x_iconst X dL_law_869 ?_
  refine x_iadd X dL_law_870 ?_
  refine x_sld (xs := xs) X w hXs hbl hbA (by omega) dL_law_871 ?_
  refine x_callV (As := [.int (iI (sv xs (i + 1)))]) (rest := []) (c1 := cells + 1) (s1 := slots + 6) X w hA (c_X4_pageOf l D cs L1 f1 mo B _ σ (sv xs (i + 1)) hX hI (sv_rg xs (i + 1))) k_L_law_X4_pageOf (by decide) hMm hMf rfl rfl rfl hl rfl (Nat.le_of_ble_eq_true rfl) ⟨by show cells + 1 + 0 ≤ 628090; omega, by show slots + 6 + 0 ≤ 7211835; omega⟩ rfl rfl dL_law_872 (fun v L1 f1 H locs w hp => ?_)
  obtain ⟨rfl, rfl, hfm, hX2⟩ := hp
  have hC := CX.fm hX hB hC hfm
  have hou := OU.fm hX hB hou hfm
  have hX := hX2
  have hX9 := hX
  obtain ⟨g9, z9, w9, hM9, hag9⟩ := hX9
  have hMm := hM9.mm
  have hMf := hM9.fm
  show W p l e _ s m _ below meth c _ _ _ _ _ (F0 m 875 ls [.int (iI ((oPgO (sv xs (i + 1)) σ).2.1))])
  refine x_is (lv' := [(6, .int (iI ((oPgO (sv xs (i + 1)) σ).2.1))), (5, .int (iI ((oPgO (sv xs (i + 1)) σ).1))), (4, .int (iI i)), (3, .ref ou), (2, .ref mo), (1, .ref x), (0, .ref b)]) X hl (by decide) rfl dL_law_875 (fun ls hl => ?_)
  refine x_al_n X hl 4 rfl rfl dL_law_877 ?_
  refine x_callV (As := []) (rest := []) (c1 := cells + 1) (s1 := slots + 6) X w hA (c_X4_thrown l D cs L1 f1 mo B _ _ _ _ _ _ _ _ _ _ hM9) k_L_law_X4_thrown (by decide) hMm hMf rfl rfl rfl hl rfl (Nat.le_of_ble_eq_true rfl) ⟨by show cells + 1 + 0 ≤ 628090; omega, by show slots + 6 + 0 ≤ 7211835; omega⟩ rfl rfl dL_law_878 (fun v L1 f1 H locs w hp => ?_)
  obtain ⟨rfl, rfl, hp⟩ := hp
  subst hp
  show W p l e _ s m _ below meth c _ _ _ _ _ (F0 m 881 ls [.int (iI ((oPgO (sv xs (i + 1)) σ).1))])
  refine x_il X hl 1 rfl dL_law_881 ?_
  refine x_icmpS_eq (tgt := 888) X (by decide) dL_law_883 ?_
  refine x_il X hl 1 rfl dL_law_888 ?_
  refine x_if_ne (tgt := 905) X (by omega) (by decide) dL_law_890 (fun hb890 => ?_) (fun hb890 => ?_)
  · refine x_goto (tgt := 1057) X (by decide) dL_law_905 ?_
    refine W.widen (k := cells + 2) (n := slots + 12) (by omega) (by omega) ?_
    exact K _ _ _ _ _ _ ⟨hC, ⟨_, hX⟩, (oPgO_v hI _), hB, hmo, _, hou⟩ w (lv_sub hl [2, 3, 4, 5, 6] rfl)
  · refine x_al_n X hl 3 rfl rfl dL_law_893 ?_
    refine x_iconst X dL_law_894 ?_
    refine x_lald (v := iL ((oPgO (sv xs (i + 1)) σ).2.1)) X w hmo hou (hov hb890) dL_law_895 ?_
    refine x_il X hl 0 rfl dL_law_896 ?_
    refine x_i2l X dL_law_898 ?_
    refine x_lcmpS X rfl dL_law_899 ?_
    refine x_ifT_eq (tgt := 905) X (by decide) (by decide) (by decide) dL_law_900 ?_
    refine x_goto (tgt := 1057) X (by decide) dL_law_905 ?_
    refine W.widen (k := cells + 2) (n := slots + 12) (by omega) (by omega) ?_
    exact K _ _ _ _ _ _ ⟨hC, ⟨_, hX⟩, (oPgO_v hI _), hB, hmo, _, hou⟩ w (lv_sub hl [2, 3, 4, 5, 6] rfl)

theorem k_L_law_L_sweep : XH wsL_law RL 135 yL_sweep cL_sweep 2 (some .int) [(0, 4, 7, 15)] wsL_sweep 1 := ⟨gL_law_L_sweep, ⟨_, rfl⟩, by decide, by decide, by decide +kernel⟩
theorem k_L_law_X4_sweep : XV wsL_law RL 138 RX4 yX4_sweep cX4_sweep 1 none wsX4_sweep 0 := ⟨gL_law_X4_sweep, ⟨_, rfl⟩, rfl, by decide, by decide, by decide +kernel⟩
set_option maxHeartbeats 4000000 in
set_option maxRecDepth 100000 in
theorem lc_17 (X : XX p m c cL_law 7 s #[Value.ref b] wsL_law RL D cs) (hl9 : l.stackTraces = false) (hV : EV s) (hZ : EZ A s s.heap) (hA : ∀ q, s.heap.size ≤ q → A q) (hXs : va_X b LL xs s s.heap) (hbl : b < s.heap.size) (hbA : ¬ A b) (hLL : LL ≤ 2048) (hLI : LI cs L f0 x br ba pr sz lr mo B ou σ) (w : XW D A s.heap L f0 H locs) (hi : 0 ≤ i ∧ i + 3 < (LL : Int)) (hcs : cells + 2 ≤ 628090 ∧ slots + 12 ≤ 7211835) (hl : lv_has ls 7 [(4, .int (iI i)), (3, .ref ou), (2, .ref mo), (1, .ref x), (0, .ref b)])
  (K : ∀ (σ2 : Sg) (L2 : List Nat) (f2 : Nat → va_E) (H2 : Heap) (locs2 : List Loc) (ls2 : Array Slot), LI cs L2 f2 x br ba pr sz lr mo B ou σ2 → XW D A s.heap L2 f2 H2 locs2 → lv_has ls2 7 [(4, .int (iI i)), (3, .ref ou), (2, .ref mo), (1, .ref x), (0, .ref b)] → W p l e room_1 s m #[Value.ref b] below meth c H2 locs2 (cells + 2) (slots + 12) Q (F0 m 1057 ls2 [])) :
  W p l e room_1 s m #[Value.ref b] below meth c H locs cells slots Q (F0 m 908 ls []) := by
  obtain ⟨hC, ⟨t0, hX⟩, hI, hB, hmo, g0, hou⟩ := hLI
  refine x_al_n X hl 3 rfl rfl dL_law_908 ?_
  refine x_callH1 (As := [.ref x]) (rest := []) (c1 := cells + 1) (s1 := slots + 6) X w hA hV hZ (c_L_sweep l D cs hl9 L f0 x br ba pr sz lr σ hC hI) k_L_law_L_sweep (by decide) rfl hl rfl (Nat.le_of_ble_eq_true rfl) ⟨by show cells + 1 ≤ 628090; omega, by show slots + 6 ≤ 7211835; omega⟩ rfl rfl dL_law_909 (fun v L1 f1 H locs w hp => ?_)
  obtain ⟨rfl, hC2, hsub, hF2, hob⟩ := hp
  have hFO := FO.of (ou := ou) hF2 (fun _ _ => rfl)
  have hou2 := FC.oul hC hmo hou hF2
  have hX := MX.fo hX hB hC hou hFO hsub
  have hmo := hsub _ hmo
  have hC := hC2
  have hou := hou2
  have hX9 := hX
  obtain ⟨g9, z9, w9, hM9, hag9⟩ := hX9
  have hMm := hM9.mm
  have hMf := hM9.fm
  show W p l e _ s m _ below meth c _ _ _ _ _ (F0 m 912 ls [.int (iI ((oSwe σ).1))])
  refine x_is (lv' := [(5, .int (iI ((oSwe σ).1))), (4, .int (iI i)), (3, .ref ou), (2, .ref mo), (1, .ref x), (0, .ref b)]) X hl (by decide) rfl dL_law_912 (fun ls hl => ?_)
  refine x_al_n X hl 3 rfl rfl dL_law_914 ?_
  refine x_callV (As := []) (rest := []) (c1 := cells + 1) (s1 := slots + 6) X w hA (c_X4_sweep l D cs L1 f1 mo B _ σ hX hI) k_L_law_X4_sweep (by decide) hMm hMf rfl rfl rfl hl rfl (Nat.le_of_ble_eq_true rfl) ⟨by show cells + 1 + 0 ≤ 628090; omega, by show slots + 6 + 0 ≤ 7211835; omega⟩ rfl rfl dL_law_915 (fun v L1 f1 H locs w hp => ?_)
  obtain ⟨rfl, rfl, hfm, hX2⟩ := hp
  have hC := CX.fm hX hB hC hfm
  have hou := OU.fm hX hB hou hfm
  have hX := hX2
  have hX9 := hX
  obtain ⟨g9, z9, w9, hM9, hag9⟩ := hX9
  have hMm := hM9.mm
  have hMf := hM9.fm
  show W p l e _ s m _ below meth c _ _ _ _ _ (F0 m 918 ls [])
  refine x_al_n X hl 3 rfl rfl dL_law_918 ?_
  refine x_callV (As := []) (rest := []) (c1 := cells + 1) (s1 := slots + 6) X w hA (c_X4_thrown l D cs L1 f1 mo B _ _ _ _ _ _ _ _ _ _ hM9) k_L_law_X4_thrown (by decide) hMm hMf rfl rfl rfl hl rfl (Nat.le_of_ble_eq_true rfl) ⟨by show cells + 1 + 0 ≤ 628090; omega, by show slots + 6 + 0 ≤ 7211835; omega⟩ rfl rfl dL_law_919 (fun v L1 f1 H locs w hp => ?_)
  obtain ⟨rfl, rfl, hp⟩ := hp
  subst hp
  show W p l e _ s m _ below meth c _ _ _ _ _ (F0 m 922 ls [.int (iI ((oSwe σ).1))])
  refine x_il X hl 0 rfl dL_law_922 ?_
  refine x_icmpS_eq (tgt := 929) X (by decide) dL_law_924 ?_
  refine x_goto (tgt := 1057) X (by decide) dL_law_929 ?_
  refine W.widen (k := cells + 2) (n := slots + 12) (by omega) (by omega) ?_
  exact K _ _ _ _ _ _ ⟨hC, ⟨_, hX⟩, (oSwe_v hI), hB, hmo, _, hou⟩ w (lv_sub hl [1, 2, 3, 4, 5] rfl)

theorem k_L_law_L_step : XH wsL_law RL 139 yL_step cL_step 4 (some .int) [(0, 9, 12, 13), (0, 9, 15, 15)] wsL_step 3 := ⟨gL_law_L_step, ⟨_, rfl⟩, by decide, by decide, by decide +kernel⟩
theorem k_L_law_X4_step : XV wsL_law RL 141 RX4 yX4_step cX4_step 4 (some .int) wsX4_step 1 := ⟨gL_law_X4_step, ⟨_, rfl⟩, rfl, by decide, by decide, by decide +kernel⟩
set_option maxHeartbeats 4000000 in
set_option maxRecDepth 100000 in
theorem lc_18 (X : XX p m c cL_law 7 s #[Value.ref b] wsL_law RL D cs) (hl9 : l.stackTraces = false) (hV : EV s) (hZ : EZ A s s.heap) (hA : ∀ q, s.heap.size ≤ q → A q) (hXs : va_X b LL xs s s.heap) (hbl : b < s.heap.size) (hbA : ¬ A b) (hLL : LL ≤ 2048) (hLI : LI cs L f0 x br ba pr sz lr mo B ou σ) (w : XW D A s.heap L f0 H locs) (hi : 0 ≤ i ∧ i + 3 < (LL : Int)) (hcs : cells + 2 ≤ 628090 ∧ slots + 12 ≤ 7211835) (hl : lv_has ls 7 [(4, .int (iI i)), (3, .ref ou), (2, .ref mo), (1, .ref x), (0, .ref b)])
  (K : ∀ (σ2 : Sg) (L2 : List Nat) (f2 : Nat → va_E) (H2 : Heap) (locs2 : List Loc) (ls2 : Array Slot), LI cs L2 f2 x br ba pr sz lr mo B ou σ2 → XW D A s.heap L2 f2 H2 locs2 → lv_has ls2 7 [(4, .int (iI i)), (3, .ref ou), (2, .ref mo), (1, .ref x), (0, .ref b)] → W p l e room_1 s m #[Value.ref b] below meth c H2 locs2 (cells + 2) (slots + 12) Q (F0 m 1057 ls2 [])) :
  W p l e room_1 s m #[Value.ref b] below meth c H locs cells slots Q (F0 m 932 ls []) := by
  obtain ⟨hC, ⟨t0, hX⟩, hI, hB, hmo, g0, hou⟩ := hLI
  refine x_al_n X hl 3 rfl rfl dL_law_932 ?_
  refine x_al_n X hl 4 rfl rfl dL_law_933 ?_
  refine x_il X hl 0 rfl dL_law_934 ?_
  refine x_iconst X dL_law_936 ?_
  refine x_iadd X dL_law_937 ?_
  refine x_sld (xs := xs) X w hXs hbl hbA (by omega) dL_law_938 ?_
  refine x_al_n X hl 1 rfl rfl dL_law_939 ?_
  refine x_callH1 (As := [.ref x, .int (iI (sv xs (i + 1))), .ref ou]) (rest := []) (c1 := cells + 1) (s1 := slots + 6) X w hA hV hZ (c_L_step l D cs hl9 L f0 x br ba pr sz lr ou σ (sv xs (i + 1)) g0 hC hI (sv_rg xs (i + 1)) hmo hou) k_L_law_L_step (by decide) rfl hl rfl (Nat.le_of_ble_eq_true rfl) ⟨by show cells + 1 ≤ 628090; omega, by show slots + 6 ≤ 7211835; omega⟩ rfl rfl dL_law_940 (fun v L1 f1 H locs w hp => ?_)
  obtain ⟨rfl, hC2, hsub, hFO, hob, g2, hou2, hov⟩ := hp
  have hX := MX.fo hX hB hC hou hFO hsub
  have hmo := hsub _ hmo
  have hC := hC2
  have hou := hou2
  have hX9 := hX
  obtain ⟨g9, z9, w9, hM9, hag9⟩ := hX9
  have hMm := hM9.mm
  have hMf := hM9.fm
  show W p l e _ s m _ below meth c _ _ _ _ _ (F0 m 943 ls [.int (iI ((oSte (sv xs (i + 1)) σ).1))])
  refine x_is (lv' := [(5, .int (iI ((oSte (sv xs (i + 1)) σ).1))), (4, .int (iI i)), (3, .ref ou), (2, .ref mo), (1, .ref x), (0, .ref b)]) X hl (by decide) rfl dL_law_943 (fun ls hl => ?_)
  refine x_al_n X hl 3 rfl rfl dL_law_945 ?_
  refine x_al_n X hl 5 rfl rfl dL_law_946 ?_
  refine x_il X hl 1 rfl dL_law_947 ?_
  refine x_iconst X dL_law_949 ?_
  refine x_iadd X dL_law_950 ?_
  refine x_sld (xs := xs) X w hXs hbl hbA (by omega) dL_law_951 ?_
  refine x_callV (As := [.int (iI (sv xs (i + 1)))]) (rest := []) (c1 := cells + 1) (s1 := slots + 6) X w hA (c_X4_step l D cs L1 f1 mo B _ σ (sv xs (i + 1)) hX hI (sv_rg xs (i + 1))) k_L_law_X4_step (by decide) hMm hMf rfl rfl rfl hl rfl (Nat.le_of_ble_eq_true rfl) ⟨by show cells + 1 + 0 ≤ 628090; omega, by show slots + 6 + 0 ≤ 7211835; omega⟩ rfl rfl dL_law_952 (fun v L1 f1 H locs w hp => ?_)
  obtain ⟨rfl, rfl, hfm, hX2⟩ := hp
  have hC := CX.fm hX hB hC hfm
  have hou := OU.fm hX hB hou hfm
  have hX := hX2
  have hX9 := hX
  obtain ⟨g9, z9, w9, hM9, hag9⟩ := hX9
  have hMm := hM9.mm
  have hMf := hM9.fm
  show W p l e _ s m _ below meth c _ _ _ _ _ (F0 m 955 ls [.int (iI ((oSte (sv xs (i + 1)) σ).2.1))])
  refine x_is (lv' := [(6, .int (iI ((oSte (sv xs (i + 1)) σ).2.1))), (5, .int (iI ((oSte (sv xs (i + 1)) σ).1))), (4, .int (iI i)), (3, .ref ou), (2, .ref mo), (1, .ref x), (0, .ref b)]) X hl (by decide) rfl dL_law_955 (fun ls hl => ?_)
  refine x_al_n X hl 4 rfl rfl dL_law_957 ?_
  refine x_callV (As := []) (rest := []) (c1 := cells + 1) (s1 := slots + 6) X w hA (c_X4_thrown l D cs L1 f1 mo B _ _ _ _ _ _ _ _ _ _ hM9) k_L_law_X4_thrown (by decide) hMm hMf rfl rfl rfl hl rfl (Nat.le_of_ble_eq_true rfl) ⟨by show cells + 1 + 0 ≤ 628090; omega, by show slots + 6 + 0 ≤ 7211835; omega⟩ rfl rfl dL_law_958 (fun v L1 f1 H locs w hp => ?_)
  obtain ⟨rfl, rfl, hp⟩ := hp
  subst hp
  show W p l e _ s m _ below meth c _ _ _ _ _ (F0 m 961 ls [.int (iI ((oSte (sv xs (i + 1)) σ).1))])
  refine x_il X hl 1 rfl dL_law_961 ?_
  refine x_icmpS_eq (tgt := 968) X (by decide) dL_law_963 ?_
  refine x_il X hl 1 rfl dL_law_968 ?_
  refine x_if_ne (tgt := 985) X (by omega) (by decide) dL_law_970 (fun hb970 => ?_) (fun hb970 => ?_)
  · refine x_goto (tgt := 1057) X (by decide) dL_law_985 ?_
    refine W.widen (k := cells + 2) (n := slots + 12) (by omega) (by omega) ?_
    exact K _ _ _ _ _ _ ⟨hC, ⟨_, hX⟩, (oSte_v hI _), hB, hmo, _, hou⟩ w (lv_sub hl [2, 3, 4, 5, 6] rfl)
  · refine x_al_n X hl 3 rfl rfl dL_law_973 ?_
    refine x_iconst X dL_law_974 ?_
    refine x_lald (v := iL ((oSte (sv xs (i + 1)) σ).2.1)) X w hmo hou (hov hb970) dL_law_975 ?_
    refine x_il X hl 0 rfl dL_law_976 ?_
    refine x_i2l X dL_law_978 ?_
    refine x_lcmpS X rfl dL_law_979 ?_
    refine x_ifT_eq (tgt := 985) X (by decide) (by decide) (by decide) dL_law_980 ?_
    refine x_goto (tgt := 1057) X (by decide) dL_law_985 ?_
    refine W.widen (k := cells + 2) (n := slots + 12) (by omega) (by omega) ?_
    exact K _ _ _ _ _ _ ⟨hC, ⟨_, hX⟩, (oSte_v hI _), hB, hmo, _, hou⟩ w (lv_sub hl [2, 3, 4, 5, 6] rfl)

theorem k_L_law_X3_sweeping : XV wsL_law RL 142 RX3 yX3_sweeping cX3_sweeping 1 (some .int) wsX3_sweeping 0 := ⟨gL_law_X3_sweeping, ⟨_, rfl⟩, rfl, by decide, by decide, by decide +kernel⟩
theorem k_L_law_X4_sweeping : XV wsL_law RL 145 RX4 yX4_sweeping cX4_sweeping 1 (some .int) wsX4_sweeping 0 := ⟨gL_law_X4_sweeping, ⟨_, rfl⟩, rfl, by decide, by decide, by decide +kernel⟩
set_option maxHeartbeats 4000000 in
set_option maxRecDepth 100000 in
theorem lc_19 (X : XX p m c cL_law 7 s #[Value.ref b] wsL_law RL D cs) (hl9 : l.stackTraces = false) (hV : EV s) (hZ : EZ A s s.heap) (hA : ∀ q, s.heap.size ≤ q → A q) (hXs : va_X b LL xs s s.heap) (hbl : b < s.heap.size) (hbA : ¬ A b) (hLL : LL ≤ 2048) (hLI : LI cs L f0 x br ba pr sz lr mo B ou σ) (w : XW D A s.heap L f0 H locs) (hi : 0 ≤ i ∧ i + 3 < (LL : Int)) (hcs : cells + 2 ≤ 628090 ∧ slots + 12 ≤ 7211835) (hl : lv_has ls 7 [(4, .int (iI i)), (3, .ref ou), (2, .ref mo), (1, .ref x), (0, .ref b)])
  (K : ∀ (σ2 : Sg) (L2 : List Nat) (f2 : Nat → va_E) (H2 : Heap) (locs2 : List Loc) (ls2 : Array Slot), LI cs L2 f2 x br ba pr sz lr mo B ou σ2 → XW D A s.heap L2 f2 H2 locs2 → lv_has ls2 7 [(4, .int (iI i)), (3, .ref ou), (2, .ref mo), (1, .ref x), (0, .ref b)] → W p l e room_1 s m #[Value.ref b] below meth c H2 locs2 (cells + 2) (slots + 12) Q (F0 m 1057 ls2 [])) :
  W p l e room_1 s m #[Value.ref b] below meth c H locs cells slots Q (F0 m 988 ls []) := by
  obtain ⟨hC, ⟨t0, hX⟩, hI, hB, hmo, g0, hou⟩ := hLI
  refine x_al_n X hl 3 rfl rfl dL_law_988 ?_
  refine x_callV (As := []) (rest := []) (c1 := cells) (s1 := slots) X w hA (c_X3_sweeping l D cs L f0 x br ba pr sz lr σ hC) k_L_law_X3_sweeping (by decide) hC.mx hC.fx rfl rfl rfl hl rfl (Nat.le_of_ble_eq_true rfl) ⟨by show cells + 0 ≤ 628090; omega, by show slots + 0 ≤ 7211835; omega⟩ rfl rfl dL_law_989 (fun v L1 f1 H locs w hp => ?_)
  obtain ⟨rfl, rfl, hp⟩ := hp
  subst hp
  have hX9 := hX
  obtain ⟨g9, z9, w9, hM9, hag9⟩ := hX9
  have hMm := hM9.mm
  have hMf := hM9.fm
  show W p l e _ s m _ below meth c _ _ _ _ _ (F0 m 992 ls [.int (iI (gS σ))])
  refine x_al_n X hl 2 rfl rfl dL_law_992 ?_
  refine x_callV (As := []) (rest := [.int (iI (gS σ))]) (c1 := cells) (s1 := slots) X w hA (c_X4_sweeping l D cs L f0 mo B _ σ hX hI) k_L_law_X4_sweeping (by decide) hMm hMf rfl rfl rfl hl rfl (Nat.le_of_ble_eq_true rfl) ⟨by show cells + 0 ≤ 628090; omega, by show slots + 0 ≤ 7211835; omega⟩ rfl rfl dL_law_993 (fun v L1 f1 H locs w hp => ?_)
  obtain ⟨rfl, rfl, hfm, hX2⟩ := hp
  have hC := CX.fm hX hB hC hfm
  have hou := OU.fm hX hB hou hfm
  have hX := hX2
  show W p l e _ s m _ below meth c _ _ _ _ _ (F0 m 996 ls [.int (iI (gS σ)), .int (iI (gS σ))])
  refine x_icmpS_eq (tgt := 1057) X (by decide) dL_law_996 ?_
  refine W.widen (k := cells + 2) (n := slots + 12) (by omega) (by omega) ?_
  exact K _ _ _ _ _ _ ⟨hC, ⟨_, hX⟩, hI, hB, hmo, _, hou⟩ w (lv_sub hl [0, 1, 2, 3, 4] rfl)

theorem k_L_law_L_walk : XH wsL_law RL 146 yL_walk cL_walk 4 (some .int) [(0, 9, 12, 13)] wsL_walk 3 := ⟨gL_law_L_walk, ⟨_, rfl⟩, by decide, by decide, by decide +kernel⟩
theorem k_L_law_X4_walk : XV wsL_law RL 148 RX4 yX4_walk cX4_walk 3 (some .int) wsX4_walk 1 := ⟨gL_law_X4_walk, ⟨_, rfl⟩, rfl, by decide, by decide, by decide +kernel⟩
set_option maxHeartbeats 4000000 in
set_option maxRecDepth 100000 in
theorem lc_20 (X : XX p m c cL_law 7 s #[Value.ref b] wsL_law RL D cs) (hl9 : l.stackTraces = false) (hV : EV s) (hZ : EZ A s s.heap) (hA : ∀ q, s.heap.size ≤ q → A q) (hXs : va_X b LL xs s s.heap) (hbl : b < s.heap.size) (hbA : ¬ A b) (hLL : LL ≤ 2048) (hLI : LI cs L f0 x br ba pr sz lr mo B ou σ) (w : XW D A s.heap L f0 H locs) (hi : 0 ≤ i ∧ i + 3 < (LL : Int)) (hcs : cells + 2 ≤ 628090 ∧ slots + 12 ≤ 7211835) (hl : lv_has ls 7 [(4, .int (iI i)), (3, .ref ou), (2, .ref mo), (1, .ref x), (0, .ref b)])
  (K : ∀ (σ2 : Sg) (L2 : List Nat) (f2 : Nat → va_E) (H2 : Heap) (locs2 : List Loc) (ls2 : Array Slot), LI cs L2 f2 x br ba pr sz lr mo B ou σ2 → XW D A s.heap L2 f2 H2 locs2 → lv_has ls2 7 [(4, .int (iI i)), (3, .ref ou), (2, .ref mo), (1, .ref x), (0, .ref b)] → W p l e room_1 s m #[Value.ref b] below meth c H2 locs2 (cells + 2) (slots + 12) Q (F0 m 1057 ls2 [])) :
  W p l e room_1 s m #[Value.ref b] below meth c H locs cells slots Q (F0 m 1001 ls []) := by
  obtain ⟨hC, ⟨t0, hX⟩, hI, hB, hmo, g0, hou⟩ := hLI
  refine x_al_n X hl 3 rfl rfl dL_law_1001 ?_
  refine x_al_n X hl 4 rfl rfl dL_law_1002 ?_
  refine x_il X hl 0 rfl dL_law_1003 ?_
  refine x_iconst X dL_law_1005 ?_
  refine x_iadd X dL_law_1006 ?_
  refine x_sld (xs := xs) X w hXs hbl hbA (by omega) dL_law_1007 ?_
  refine x_al_n X hl 1 rfl rfl dL_law_1008 ?_
  refine x_callH1 (As := [.ref x, .int (iI (sv xs (i + 1))), .ref ou]) (rest := []) (c1 := cells + 1) (s1 := slots + 6) X w hA hV hZ (c_L_walk l D cs hl9 L f0 x br ba pr sz lr ou σ (sv xs (i + 1)) g0 hC hI (sv_rg xs (i + 1)) hmo hou) k_L_law_L_walk (by decide) rfl hl rfl (Nat.le_of_ble_eq_true rfl) ⟨by show cells + 1 ≤ 628090; omega, by show slots + 6 ≤ 7211835; omega⟩ rfl rfl dL_law_1009 (fun v L1 f1 H locs w hp => ?_)
  obtain ⟨rfl, hC2, hsub, hFO, hob, g2, hou2, hov⟩ := hp
  have hX := MX.fo hX hB hC hou hFO hsub
  have hmo := hsub _ hmo
  have hC := hC2
  have hou := hou2
  have hX9 := hX
  obtain ⟨g9, z9, w9, hM9, hag9⟩ := hX9
  have hMm := hM9.mm
  have hMf := hM9.fm
  show W p l e _ s m _ below meth c _ _ _ _ _ (F0 m 1012 ls [.int (iI ((oWal (sv xs (i + 1)) σ).1))])
  refine x_is (lv' := [(5, .int (iI ((oWal (sv xs (i + 1)) σ).1))), (4, .int (iI i)), (3, .ref ou), (2, .ref mo), (1, .ref x), (0, .ref b)]) X hl (by decide) rfl dL_law_1012 (fun ls hl => ?_)
  refine x_al_n X hl 3 rfl rfl dL_law_1014 ?_
  refine x_al_n X hl 5 rfl rfl dL_law_1015 ?_
  refine x_il X hl 1 rfl dL_law_1016 ?_
  refine x_iconst X dL_law_1018 ?_
  refine x_iadd X dL_law_1019 ?_
  refine x_sld (xs := xs) X w hXs hbl hbA (by omega) dL_law_1020 ?_
  refine x_callV (As := [.int (iI (sv xs (i + 1)))]) (rest := []) (c1 := cells + 1) (s1 := slots + 6) X w hA (c_X4_walk l D cs L1 f1 mo B _ σ (sv xs (i + 1)) hX hI (sv_rg xs (i + 1))) k_L_law_X4_walk (by decide) hMm hMf rfl rfl rfl hl rfl (Nat.le_of_ble_eq_true rfl) ⟨by show cells + 1 + 0 ≤ 628090; omega, by show slots + 6 + 0 ≤ 7211835; omega⟩ rfl rfl dL_law_1021 (fun v L1 f1 H locs w hp => ?_)
  obtain ⟨rfl, rfl, hfm, hX2⟩ := hp
  have hC := CX.fm hX hB hC hfm
  have hou := OU.fm hX hB hou hfm
  have hX := hX2
  have hX9 := hX
  obtain ⟨g9, z9, w9, hM9, hag9⟩ := hX9
  have hMm := hM9.mm
  have hMf := hM9.fm
  show W p l e _ s m _ below meth c _ _ _ _ _ (F0 m 1024 ls [.int (iI ((oWal (sv xs (i + 1)) σ).2.1))])
  refine x_is (lv' := [(6, .int (iI ((oWal (sv xs (i + 1)) σ).2.1))), (5, .int (iI ((oWal (sv xs (i + 1)) σ).1))), (4, .int (iI i)), (3, .ref ou), (2, .ref mo), (1, .ref x), (0, .ref b)]) X hl (by decide) rfl dL_law_1024 (fun ls hl => ?_)
  refine x_al_n X hl 4 rfl rfl dL_law_1026 ?_
  refine x_callV (As := []) (rest := []) (c1 := cells + 1) (s1 := slots + 6) X w hA (c_X4_thrown l D cs L1 f1 mo B _ _ _ _ _ _ _ _ _ _ hM9) k_L_law_X4_thrown (by decide) hMm hMf rfl rfl rfl hl rfl (Nat.le_of_ble_eq_true rfl) ⟨by show cells + 1 + 0 ≤ 628090; omega, by show slots + 6 + 0 ≤ 7211835; omega⟩ rfl rfl dL_law_1027 (fun v L1 f1 H locs w hp => ?_)
  obtain ⟨rfl, rfl, hp⟩ := hp
  subst hp
  show W p l e _ s m _ below meth c _ _ _ _ _ (F0 m 1030 ls [.int (iI ((oWal (sv xs (i + 1)) σ).1))])
  refine x_il X hl 1 rfl dL_law_1030 ?_
  refine x_icmpS_eq (tgt := 1037) X (by decide) dL_law_1032 ?_
  refine x_il X hl 1 rfl dL_law_1037 ?_
  refine x_if_ne (tgt := 1054) X (by omega) (by decide) dL_law_1039 (fun hb1039 => ?_) (fun hb1039 => ?_)
  · refine x_goto (tgt := 1057) X (by decide) dL_law_1054 ?_
    refine W.widen (k := cells + 2) (n := slots + 12) (by omega) (by omega) ?_
    exact K _ _ _ _ _ _ ⟨hC, ⟨_, hX⟩, (oWal_v hI _), hB, hmo, _, hou⟩ w (lv_sub hl [2, 3, 4, 5, 6] rfl)
  · refine x_al_n X hl 3 rfl rfl dL_law_1042 ?_
    refine x_iconst X dL_law_1043 ?_
    refine x_lald (v := iL ((oWal (sv xs (i + 1)) σ).2.1)) X w hmo hou (hov hb1039) dL_law_1044 ?_
    refine x_il X hl 0 rfl dL_law_1045 ?_
    refine x_i2l X dL_law_1047 ?_
    refine x_lcmpS X rfl dL_law_1048 ?_
    refine x_ifT_eq (tgt := 1054) X (by decide) (by decide) (by decide) dL_law_1049 ?_
    refine x_goto (tgt := 1057) X (by decide) dL_law_1054 ?_
    refine W.widen (k := cells + 2) (n := slots + 12) (by omega) (by omega) ?_
    exact K _ _ _ _ _ _ ⟨hC, ⟨_, hX⟩, (oWal_v hI _), hB, hmo, _, hou⟩ w (lv_sub hl [2, 3, 4, 5, 6] rfl)

end LCASES