theorem gb_near {σ : Sg} {s : Int32} {i : Nat} (h : gb (cNearest σ s) i = true) : gb s i = true := gb_and_le h
theorem coins_small {σ : Sg} (h : JI σ) {j : Nat} (hj : j < nLo σ) : ∃ v, v ≤ 9999 ∧ sCoins σ j = nI v := by
  obtain ⟨v, hv, e⟩ := h.wv j hj
  obtain ⟨_, _, ⟨f, hf, e4⟩, _⟩ := h.wn
  unfold sCoins
  split
  · rw [e, e4, pk_mul]
    have h1 : v * f ≤ 9999 * 50 := Nat.mul_le_mul hv hf
    have h2 : v * f / 100 ≤ v := by
      have := Nat.mul_le_mul_left v hf
      omega
    rw [show (100 : Int32) = nI 100 from rfl, nI_div (by omega) (by decide), nI_subN h2]
    exact ⟨_, by omega, rfl⟩
  · exact ⟨v, hv, e⟩
theorem settle_both {ζ : Sg} (h : Inv ζ) {j : Nat} (hj : j < nLo ζ) : ∃ τ σ, τ = lp (mSetF (cUpTo ζ (nI j)) (mNear ζ (cUpTo ζ (nI j))) (sCoins ζ j)) 0 (nCl ζ) ζ ∧ σ = lp (shareF (cUpTo ζ (nI j)) (sCoins ζ j) (cNearest ζ (cUpTo ζ (nI j)))) 0 (nCl ζ) ζ ∧ Pur τ σ ∧ GI σ ∧ SFr (cUpTo ζ (nI j)) 0 (nCl ζ) ζ σ := by
  obtain ⟨v, hv, e⟩ := coins_small h.1 hj
  have hsub := cUpTo_sub h.1.cok (nI j)
  refine ⟨_, _, rfl, rfl, ?_⟩
  rw [e, mNear_eq h.1.cok hsub]
  refine settle_loop h.1.cok.2 (fun c _ q => gb_near q) (near_sub hsub) hv _ 0 ζ ζ (by omega) rfl h.pur h.1.gi fun c _ hc q => ?_
  have := h.1.cok.2
  rw [cUpTo_bs h.1.cok, gb_bs _ (by omega) (by omega)] at q
  simp only [Bool.and_eq_true, decide_eq_true_eq] at q
  unfold sStands
  rw [q.2.2]
  rfl
theorem settle_ok {σ : Sg} {x : Int32} (h : ¬ wSettle σ x < 0) : sOver σ x.toNatClampNeg = false ∧ cOpenTo σ x = 0 ∧ ¬ cUpTo σ x = 0 := by
  unfold wSettle at h
  split at h
  · split at h
    · exact absurd (by decide) h
    next q1 =>
      split at h
      next q2 =>
        split at h
        · exact absurd (by decide) h
        next q3 => exact ⟨by simpa using q1, q2, q3⟩
      · exact absurd (by decide) h
  · exact absurd (by decide) h
theorem eq_settle {ζ : Sg} (h : Inv ζ) (x : Int32) : (wSettle ζ x < 0 → oSettle ζ x = (wSettle ζ x, ζ)) ∧ (¬ wSettle ζ x < 0 → (oSettle ζ x).1 = mSize (mNear ζ (cUpTo ζ x)) ∧ Pur (mSettle ζ x.toNatClampNeg) (oSettle ζ x).2 ∧ Inv (mSettle ζ x.toNatClampNeg)) := by
  constructor
  · intro hw
    unfold oSettle
    unfold wSettle at *
    by_cases q0 : sExists (ζ 13 0) x = true
    · rw [if_pos q0] at hw ⊢
      rw [if_pos q0]
      dsimp only
      by_cases q1 : sOver ζ x.toNatClampNeg = true
      · simp [q1]
      · by_cases q2 : cOpenTo ζ x = 0
        · by_cases q3 : cUpTo ζ x = 0
          · simp [q1, q2, q3]
          · simp [q1, q2, q3] at hw
        · simp [q1, q2]
    · rw [if_neg q0, if_neg q0]
  · intro hw
    obtain ⟨j, hj, rfl⟩ := wSettle_ok h.1.lok hw
    have hl := h.1.lok.2
    obtain ⟨q1, q2, q3⟩ := settle_ok hw
    obtain ⟨τ, σ, eτ, eσ, hP, hG, hF⟩ := settle_both h hj
    rw [nI_clamp (by omega)] at q1 ⊢
    have hsub := cUpTo_sub h.1.cok (nI j)
    have e1 : oSettle ζ (nI j) = (sBit (cNearest ζ (cUpTo ζ (nI j))), sLeave σ j (sCoins ζ j)) := by
      unfold oSettle
      rw [if_pos (sEx_of h.1.lok.1 hj (by omega)), nI_clamp (by omega)]
      dsimp only
      rw [if_pos ⟨q1, q2, q3⟩, ← eσ]
    have e2 : mSettle ζ j = if ζ 2 j = 3 then up2 (up2 τ 13 3 (τ 13 3 - sCoins ζ j)) 2 j 4 else up2 τ 2 j 2 := by
      unfold mSettle
      dsimp only
      rw [← eτ]
    have e3 : σ 2 j = ζ 2 j := by rw [hF.1 2 (by omega)]
    have e4 : τ 13 3 = σ 13 3 := by rw [hP.1 13 (by decide)]
    have hPf : Pur (mSettle ζ j) (sLeave σ j (sCoins ζ j)) := by
      rw [e2]
      unfold sLeave
      rw [e3, e4]
      split
      · exact (hP.up _ ⟨by decide, by decide, by decide, fun _ => by decide⟩).up _ ⟨by decide, by decide, by decide, fun q => absurd q (by decide)⟩
      · exact hP.up _ ⟨by decide, by decide, by decide, fun q => absurd q (by decide)⟩
    refine ⟨?_, ?_, ?_⟩
    · rw [e1, mNear_eq h.1.cok hsub]
      exact (near_sub hsub).size h.1.cok.2
    · rw [e1]
      exact hPf
    · refine hPf.inv ?_
      have hc : COk ζ := h.1.cok
      have ec : σ 13 1 = ζ 13 1 := hF.2.1 1 (by decide)
      have nc := (hc.to ec).2
      have key : ∀ ρ : Sg, (∀ k, k ≠ 2 → k ≠ 13 → ρ k = σ k) → (∀ b, b ≠ 3 → ρ 13 b = σ 13 b) → (∀ i, i ≠ j → ρ 2 i = σ 2 i) → JI ρ := by
        intro ρ r1 r2 r3
        have d1 : ∀ k, k < 9 ∨ k = 10 → k ≠ 2 → ρ k = ζ k := fun k hk h2 => (r1 k h2 (by omega)).trans (hF.1 k hk)
        have d13 : ∀ b, b ≠ 2 → b ≠ 3 → ρ 13 b = ζ 13 b := fun b h2 h3 => (r2 b h3).trans (hF.2.1 b h2)
        have nc2 : nCl ρ = nCl ζ := (hc.to (d13 1 (by decide) (by decide))).2
        have hst1 : ∀ c, c < nCl σ → sStands ρ c = true → sStands σ c = true := by
          intro c _ q
          unfold sStands at *
          rw [r1 9 (by decide) (by decide)] at q
          exact q
        have hst : ∀ c, c < nCl ζ → sStands ρ c = true → sStands ζ c = true := by
          intro c _ q
          unfold sStands at *
          rw [r1 9 (by decide) (by decide), hF.2.2.1 c] at q
          split at q
          · exact absurd q (by decide)
          · exact q
        refine h.1.to2 (hG.to (r1 5 (by decide) (by decide)) (r1 11 (by decide) (by decide)) (r1 12 (by decide) (by decide)) (r2 1 (by decide)) (r2 2 (by decide)) hst1) hst (d1 1 (by decide) (by decide)) (d1 5 (by decide) (by decide)) (d1 6 (by decide) (by decide)) (d13 0 (by decide) (by decide)) (d13 1 (by decide) (by decide)) ?_ (h.1.wu.to (d13 0 (by decide) (by decide)) (d13 1 (by decide) (by decide)) (fun i hi => ⟨?_, by rw [d1 3 (by decide) (by decide)], by rw [d1 4 (by decide) (by decide)]⟩) fun c hc2 => ⟨by rw [d1 8 (by decide) (by decide)], ?_, by rw [d1 10 (by decide) (by decide)], ?_⟩) (h.1.wn.to (d13 0 (by decide) (by decide)) (d13 1 (by decide) (by decide)) (d13 4 (by decide) (by decide)) (fun i _ => by rw [d1 0 (by decide) (by decide)]) (d1 3 (by decide) (by decide)) fun c => Or.inl (by rw [d1 10 (by decide) (by decide)]))
        · intro c hc2
          rw [nc2] at hc2
          rw [r1 9 (by decide) (by decide), hF.2.2.1 c]
          split
          · exact ⟨5, by decide, rfl⟩
          · exact h.1.ws c hc2
        · rw [r3 i (by omega), hF.1 2 (by decide)]
        · rw [r1 9 (by decide) (by decide), hF.2.2.1 c, if_neg (by omega)]
        · rw [r1 11 (by decide) (by decide), hF.2.2.2 c (Or.inr (Or.inl hc2))]
      unfold sLeave
      split
      · refine key _ (fun k h2 h13 => ?_) (fun b hb => ?_) fun i hi => ?_
        · funext b
          rw [up2_k _ h2, up2_k _ h13]
        · rw [up2_k _ (by decide), up2_j _ hb]
        · rw [up2_j _ hi, up2_k _ (by decide)]
      · refine key _ (fun k h2 h13 => ?_) (fun b hb => ?_) fun i hi => ?_
        · funext b
          rw [up2_k _ h2]
        · rw [up2_k _ (by decide)]
        · rw [up2_j _ hi]
