theorem nClaim_eq {σ : Sg} (hC : COk σ) (hn : nCl σ < 30) (hU : WU σ) (he x l : Int32) : nClaim σ he x l = up2 (up2 (up2 (up2 σ 5 (nCl σ) he) 6 (nCl σ) x) 7 (nCl σ) l) 13 1 (σ 13 1 + 1) := by
  obtain ⟨u8, u9, u10, u11⟩ := hU.2 (nCl σ) (Nat.le_refl _) hn
  unfold nClaim
  congr 1
  funext a b
  show up2 (up2 (up2 (nClr (nCl σ) 6 (nClr (nCl σ) 5 (nClr (nCl σ) 4 (nClr (nCl σ) 3 (nClr (nCl σ) 2 (nClr (nCl σ) 1 (nClr (nCl σ) 0 σ))))))) 5 (nCl σ) he) 6 (nCl σ) x) 7 (nCl σ) l a b = _
  unfold nClr
  simp only [up2c, Nat.reduceAdd]
  by_cases hb : b = nCl σ
  · subst hb
    by_cases h7 : a = 7
    · simp [h7]
    by_cases h6 : a = 6
    · simp [h6]
    by_cases h5 : a = 5
    · simp [h5]
    by_cases h8 : a = 8
    · simp [h8, u8]
    by_cases h9 : a = 9
    · simp [h9, u9]
    by_cases h10 : a = 10
    · simp [h10, u10]
    by_cases h11 : a = 11
    · simp [h11, u11]
    simp [h5, h6, h7, h8, h9, h10, h11]
  · simp [hb]
theorem mIn15 (x : Int32) {α : Type} (p q : α) : (if mIn x 1 5 = true then p else q) = if x < 1 then q else if x ≤ 5 then p else q := mIn_if p q
theorem eq_claim {σ : Sg} (hC : COk σ) (hU : WU σ) (he x ln : Int32) : oClaim σ he x ln = if wClaim σ he x ln < 0 then (wClaim σ he x ln, σ) else (σ 13 1, nClaim σ he x ln) := by
  unfold oClaim wClaim
  rw [mIn15]
  split
  · split
    · dsimp only
      split
      · rfl
      split
      · unfold sCanClaim sOver
        by_cases h3 : σ 2 x.toNatClampNeg = 3
        · by_cases hb : σ 0 3 < σ 4 x.toNatClampNeg
          · simp [h3, hb]
          · by_cases h0 : cOfHeir σ he &&& cStandTo σ x = 0
            · by_cases h30 : σ 13 1 < 30
              · have hn := cnt_lt (M := 30) hC.1 hC.2 (by decide) h30
                have e30 : ¬ σ 13 1 = 30 := fun q => (lt30 hC).mp q h30
                simp [h3, hb, h0, h30, e30, nClaim_eq hC hn hU]
              · simp [h3, hb, h0, (lt30 hC).mpr h30]
            · simp [h3, hb, h0]
        · by_cases h2 : σ 2 x.toNatClampNeg = 2
          · simp [h2]
          · by_cases h4 : σ 2 x.toNatClampNeg = 4
            · simp [h4]
            · by_cases h0 : cOfHeir σ he &&& cStandTo σ x = 0
              · by_cases h30 : σ 13 1 < 30
                · have hn := cnt_lt (M := 30) hC.1 hC.2 (by decide) h30
                  have e30 : ¬ σ 13 1 = 30 := fun q => (lt30 hC).mp q h30
                  simp [h3, h2, h4, h0, h30, e30, nClaim_eq hC hn hU]
                · simp [h3, h2, h4, h0, (lt30 hC).mpr h30]
              · simp [h3, h2, h4, h0]
      · rfl
    · rfl
  · rfl
