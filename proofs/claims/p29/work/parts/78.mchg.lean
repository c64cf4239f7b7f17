theorem wLot_ok {σ : Sg} (hL : LOk σ) {v : Int32} (h : ¬ wLot σ v < 0) : nLo σ < 12 := by
  unfold wLot at h
  split at h
  · split at h
    · exact absurd (by decide) h
    next q =>
      have h2 := hL.2
      rcases Nat.lt_or_ge (nLo σ) 12 with q1 | q1
      · exact q1
      · exact absurd (by rw [hL.1, show nLo σ = 12 by omega]; rfl) q
  · exact absurd (by decide) h
theorem wNotice_ok {σ : Sg} (hL : LOk σ) {x : Int32} (h : ¬ wNotice σ x < 0) : ∃ j, j < nLo σ ∧ x = nI j := by
  unfold wNotice at h
  split at h
  next q =>
    obtain ⟨j, _, hj, e⟩ := ax_ix_of hL.1 hL.2 (by decide) q
    exact ⟨j, hj, e⟩
  · exact absurd (by decide) h
theorem wSettle_ok {σ : Sg} (hL : LOk σ) {x : Int32} (h : ¬ wSettle σ x < 0) : ∃ j, j < nLo σ ∧ x = nI j := by
  unfold wSettle at h
  split at h
  next q =>
    obtain ⟨j, _, hj, e⟩ := ax_ix_of hL.1 hL.2 (by decide) q
    exact ⟨j, hj, e⟩
  · exact absurd (by decide) h
theorem wProve_ok {σ : Sg} (hC : COk σ) {x p : Int32} (h : ¬ wProve σ x p < 0) : ∃ j, j < nCl σ ∧ x = nI j := by
  unfold wProve at h
  split at h
  next q =>
    obtain ⟨j, _, hj, e⟩ := ax_ix_of hC.1 hC.2 (by decide) q
    exact ⟨j, hj, e⟩
  · exact absurd (by decide) h
theorem wDecide_ok {σ : Sg} (hC : COk σ) {x : Int32} (h : ¬ wDecide σ x < 0) : ∃ j, j < nCl σ ∧ x = nI j := by
  unfold wDecide at h
  split at h
  next q =>
    obtain ⟨j, _, hj, e⟩ := ax_ix_of hC.1 hC.2 (by decide) q
    exact ⟨j, hj, e⟩
  · exact absurd (by decide) h
theorem wWithdraw_ok {σ : Sg} (hC : COk σ) {x : Int32} (h : ¬ wWithdraw σ x < 0) : ∃ j, j < nCl σ ∧ x = nI j := by
  unfold wWithdraw at h
  split at h
  next q =>
    obtain ⟨j, _, hj, e⟩ := ax_ix_of hC.1 hC.2 (by decide) q
    exact ⟨j, hj, e⟩
  · exact absurd (by decide) h
theorem wClaim_ok {σ : Sg} (hC : COk σ) {y x l : Int32} (h : ¬ wClaim σ y x l < 0) : nCl σ < 30 := by
  have h2 := hC.2
  rcases Nat.lt_or_ge (nCl σ) 30 with q1 | q1
  · exact q1
  · have e : σ 13 1 = 30 := by rw [hC.1, show nCl σ = 30 by omega]; rfl
    refine absurd ?_ h
    unfold wClaim
    dsimp only
    split
    · split
      · split
        · split
          · decide
          split
          · decide
          split
          · first | decide | (rw [if_pos e]; decide)
          · decide
        · decide
      · decide
    · decide
theorem wPass_ok {σ : Sg} {v : Int32} (h : ¬ wPass σ v < 0) : ∃ j, 1 ≤ j ∧ j ≤ 400 ∧ v = nI j := by
  unfold wPass at h
  split at h
  next q => exact mIn_of (a := 1) (b := 400) (by decide) q (by decide)
  · exact absurd (by decide) h
theorem mVal_ok {s v : Int32} (h : mVal s v = true) : ∃ j, j < 5 ∧ s = nI j := by
  unfold mVal at h
  split at h
  next q => exact ⟨0, by decide, q⟩
  split at h
  next q => exact ⟨1, by decide, q⟩
  split at h
  next q => exact ⟨2, by decide, q⟩
  split at h
  next q => exact ⟨3, by decide, q⟩
  split at h
  next q => exact ⟨4, by decide, q⟩
  exact absurd h (by decide)
