/-! the reference's errors and changes are the class's -/
/-- rows of lots and claims that were never used are 0 -/
def WU (σ : Sg) : Prop := (∀ j, nLo σ ≤ j → j < 12 → σ 2 j = 0 ∧ σ 3 j = 0 ∧ σ 4 j = 0) ∧ ∀ c, nCl σ ≤ c → c < 30 → σ 8 c = 0 ∧ σ 9 c = 0 ∧ σ 10 c = 0 ∧ σ 11 c = 0
theorem mIn_if {α : Type} {x a b : Int32} (p q : α) : (if mIn x a b = true then p else q) = if x < a then q else if x ≤ b then p else q := by
  unfold mIn
  by_cases h1 : x < a
  · simp [h1]
  · by_cases h2 : x ≤ b
    · simp [h1, h2, Int32.not_lt.mpr h2]
    · simp [h1, h2, Int32.not_le.mp h2]
theorem lt12 {σ : Sg} (hL : LOk σ) : (σ 13 0 = 12) ↔ ¬ σ 13 0 < 12 := by
  have h2 := hL.2
  rw [hL.1, show (12 : Int32) = nI 12 from rfl, nI_ltI (by omega) (by decide)]
  constructor
  · intro q
    have := congrArg Int32.toNatClampNeg q
    rw [nI_clamp (by omega), nI_clamp (by omega)] at this
    omega
  · intro q
    rw [show nLo σ = 12 by omega]
theorem lt30 {σ : Sg} (hC : COk σ) : (σ 13 1 = 30) ↔ ¬ σ 13 1 < 30 := by
  have h2 := hC.2
  rw [hC.1, show (30 : Int32) = nI 30 from rfl, nI_ltI (by omega) (by decide)]
  constructor
  · intro q
    have := congrArg Int32.toNatClampNeg q
    rw [nI_clamp (by omega), nI_clamp (by omega)] at this
    omega
  · intro q
    rw [show nCl σ = 30 by omega]
theorem eq_lot {σ : Sg} (hL : LOk σ) (hU : WU σ) (v : Int32) : oLot σ v = if wLot σ v < 0 then (wLot σ v, σ) else (σ 13 0, nLot σ v) := by
  unfold oLot wLot
  rw [mIn_if]
  split
  · rfl
  split
  · by_cases h : σ 13 0 < 12
    · rw [if_pos h, if_neg (fun q => (lt12 hL).mp q h)]
      have hlt := cnt_lt (M := 12) hL.1 hL.2 (by decide) h
      obtain ⟨u2, u3, u4⟩ := hU.1 (nLo σ) (Nat.le_refl _) hlt
      have e2 : up2 (up2 σ 1 (nLo σ) v) 2 (nLo σ) 0 = up2 σ 1 (nLo σ) v := up2_id ((up2_k _ (by decide)).trans u2)
      have e3 : up2 (up2 σ 1 (nLo σ) v) 3 (nLo σ) 0 = up2 σ 1 (nLo σ) v := up2_id ((up2_k _ (by decide)).trans u3)
      have e4 : up2 (up2 σ 1 (nLo σ) v) 4 (nLo σ) 0 = up2 σ 1 (nLo σ) v := up2_id ((up2_k _ (by decide)).trans u4)
      unfold nLot
      rw [e2, e3, e4]
      rfl
    · rw [if_neg h, if_pos ((lt12 hL).mpr h)]
      rfl
  · rfl
theorem eq_decide {σ : Sg} (x : Int32) : oDecide σ x = if wDecide σ x < 0 then (wDecide σ x, σ) else (nVerd σ x.toNatClampNeg, up2 σ 9 x.toNatClampNeg (nVerd σ x.toNatClampNeg)) := by
  unfold oDecide wDecide wOpen sOpen nVerd
  split
  · dsimp only
    by_cases h : σ 9 x.toNatClampNeg = 0
    · simp [h]
    · simp [h]
  · rfl
theorem min100 (x : Int32) : min32 100 x = if x ≤ 100 then x else 100 := by
  unfold min32
  by_cases h : x = 100
  · subst h
    rfl
  · by_cases h1 : x < 100
    · rw [if_pos h1, if_pos (Int32.le_of_lt h1)]
    · rw [if_neg h1, if_neg]
      intro q
      exact h (Int32.le_antisymm q (Int32.not_lt.mp h1))
theorem eq_prove {σ : Sg} (x p : Int32) : oProve σ x p = if wProve σ x p < 0 then (wProve σ x p, σ) else (nProof σ x.toNatClampNeg p, nProve σ x.toNatClampNeg p) := by
  unfold oProve wProve
  rw [mIn_if]
  unfold wOpen sOpen nProve nProof
  simp only [min100]
  split
  · split
    · rfl
    split
    · by_cases h : σ 9 x.toNatClampNeg = 0
      · simp [h]
      · simp [h]
    · rfl
  · rfl
theorem ax_fv : ∀ j, j < 5 → ∀ (v : Int32), mVal (nI j) v = mIn v (ax_f 0 j) (ax_f 1 j) := by
  intro j hj v
  rcases (show j = 0 ∨ j = 1 ∨ j = 2 ∨ j = 3 ∨ j = 4 by omega) with rfl | rfl | rfl | rfl | rfl <;> rfl
theorem eq_set {σ : Sg} (s v : Int32) : oSet σ s v = if mVal s v = true then (σ 0 s.toNatClampNeg, up2 σ 0 s.toNatClampNeg v) else (-2, σ) := by
  have hout : (s < 0 ∨ ¬ s < 5) → mVal s v = false := by
    intro q
    cases e : mVal s v
    · rfl
    · obtain ⟨j, hj, rfl⟩ := mVal_ok e
      rcases q with q | q
      · exact absurd q (nI_pos (by omega))
      · exact absurd (nI_lt (a := j) (b := 5) hj (by decide)) q
  unfold oSet
  by_cases h0 : s < 0
  · rw [if_pos h0, hout (Or.inl h0)]
    rfl
  by_cases h5 : s < 5
  · rw [if_neg h0, if_pos h5]
    obtain ⟨j, hj, rfl⟩ := nI_of h0
    have hj5 : j < 5 := (nI_ltI hj (by decide)).mp h5
    dsimp only
    rw [nI_cl hj, ax_fv j hj5 v, mIn_if]
  · rw [if_neg h0, if_neg h5, hout (Or.inr h5)]
    rfl
