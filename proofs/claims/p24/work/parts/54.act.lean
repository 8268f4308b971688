/-! one turn of the law: what it calls, of what register -/
def oD (v : Int) : Int := if lw (sh v 24) 9 = 0 then 1 else 0
def aNum (v od : Int) (σ : Sg) : Int := if od = 0 ∧ gK σ ≠ 0 then gR σ (sm (gZ σ) (lw v (gK σ)) + lw (sh v 6) (gZ σ (lw v (gK σ)))) 0 else lw v (if od = 0 then 60 else 1004) - (if od = 0 then 0 else 2)
noncomputable def aDo (v od : Int) (σ : Sg) : Int × Int × Sg :=
  if lw v 22 ≤ 4 then oPay (aNum (sh v 4) od σ) σ
  else if lw v 22 ≤ 6 then oFor (aNum (sh v 4) od σ) σ
  else if lw v 22 ≤ 7 then oUnd (aNum (sh v 4) od σ) σ
  else if lw v 22 ≤ 8 then (if 0 < lw (sh v 12) 3 then oUnd (aNum (sh v 4) 0 σ) σ else oAmn (if od = 0 then 1 + lw (sh v 4) 60 else lw (sh v 4) 10003 - 1) (gT σ - lw (sh v 10) 9 + (if od = 0 then 0 else 2)) σ)
  else if lw v 22 ≤ 9 then oPas (if od = 0 then 1 + lw (sh v 4) 6 else lw (sh v 4) 103) σ
  else if lw v 22 ≤ 10 then oSwe σ
  else if lw v 22 ≤ 12 then oSte (if od = 0 then 1 + lw (sh v 4) 4 else lw (sh v 4) 103) σ
  else if lw v 22 ≤ 13 then oWal (if od = 0 then lw (sh v 4) 4 else lw (sh v 4) 6 - 1) σ
  else oPut (if od = 0 then lw (sh v 4) 60 else lw (sh v 4) 1004 - 2) (if od = 0 then 1 + lw (sh v 9) 90 else lw (sh v 7) 10004 - 1) (if od = 0 then lw (sh v 11) 10 else lw (sh v 4) 12 - 1) σ
noncomputable def aAct (v : Int) (σ : Sg) : Int × Int × Sg := aDo v (oD v) σ
theorem aDo_g {σ : Sg} (hI : Inv σ) (v od : Int) : good σ (aDo v od σ) := by
  unfold aDo
  split
  · exact oPay_g hI _
  · split
    · exact oFor_g hI _
    · split
      · exact oUnd_g hI _
      · split
        · split
          · exact oUnd_g hI _
          · exact oAmn_g hI _ _
        · split
          · exact oPas_g hI _
          · split
            · exact oSwe_g hI
            · split
              · exact oSte_g hI _
              · split
                · exact oWal_g hI _
                · exact oPut_g hI _ _ _
theorem aAct_g {σ : Sg} (hI : Inv σ) (v : Int) : good σ (aAct v σ) := aDo_g hI v _
/-- the place that 'number' looks at -/
theorem aNum_i {σ : Sg} (hI : Inv σ) (v : Int) (hk : gK σ ≠ 0) : (0 ≤ lw v (gK σ) ∧ lw v (gK σ) < gK σ) ∧ (0 ≤ lw (sh v 6) (gZ σ (lw v (gK σ))) ∧ lw (sh v 6) (gZ σ (lw v (gK σ))) < gZ σ (lw v (gK σ))) := by
  have h1 := hI.k
  have h2 := lw_rg v (n := gK σ) (by omega)
  have h3 := hI.z1 _ h2.1 h2.2
  exact ⟨h2, lw_rg _ (by omega)⟩
theorem aNum_b {σ : Sg} (hI : Inv σ) (v : Int) {od : Int} (ho : od = 0 ∨ od = 1) : -2 ≤ aNum v od σ ∧ aNum v od σ ≤ 1004 := by
  unfold aNum
  by_cases c : od = 0 ∧ gK σ ≠ 0
  · rw [if_pos c]
    have h1 := aNum_i hI v c.2
    have h2 := pl_in hI h1.1 h1.2
    have h3 := hI.r0 _ h2.1.1 h2.1.2
    omega
  · rw [if_neg c]
    rcases ho with rfl | rfl
    · have h1 := lw_rg v (n := 60) (by omega)
      rw [if_pos rfl, if_pos rfl]; omega
    · have h1 := lw_rg v (n := 1004) (by omega)
      rw [if_neg (by decide), if_neg (by decide)]; omega
/-- the answer is told: then it is no throw; and what throws leaves the register -/
theorem aAct_t {σ : Sg} (hI : Inv σ) (v : Int) : (-99999 ≤ tv (aAct v σ) ∧ tv (aAct v σ) ≤ 100000) ∧ (tv (aAct v σ) = -99999 → (aAct v σ).2.2 = σ) := by
  have h := aAct_g hI v
  by_cases c : (aAct v σ).1 = 0
  · rw [tv_0 c]
    have h1 := h.2.2.1
    exact ⟨by omega, fun h9 => by omega⟩
  · rw [tv_t c]
    exact ⟨by decide, fun _ => h.1.resolve_left c⟩
