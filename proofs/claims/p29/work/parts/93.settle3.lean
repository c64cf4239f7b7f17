theorem Pur.pd {τ σ : Sg} (h : Pur τ σ) : nPd τ = nPd σ ∧ mPd τ = mPd σ := by
  unfold mPd nPd
  rw [h.1 12 (by decide), h.1 13 (by decide)]
  exact ⟨rfl, rfl⟩
theorem purse_same {σ σ' : Sg} (h5 : σ' 5 = σ 5) (h11 : σ' 11 = σ 11) (h13 : σ' 13 1 = σ 13 1) (w : Int32) : sPurse σ' w = sPurse σ w := by
  unfold sPurse cOfHeir nCl
  rw [h5, h11, h13]
theorem pay_pur {τ σ : Sg} (hC : COk σ) (h : Pur τ σ) {c g : Nat} (hc : c < nCl σ) (hg : g < 16) (h5 : σ 5 c = nI g) (h0 : σ 11 c = 0) (hWP : WP σ) (hWQ : WQ σ) (p : Int32) : Pur (up2 (mPay τ c p) 9 c 5) (sSettleC σ c p) := by
  have e5 : τ 5 c = nI g := by rw [h.1 5 (by decide), h5]
  have hcl : (nI g).toNatClampNeg = g := nI_cl (by omega)
  have e14 : τ 14 g + p = sPurse (up2 σ 11 c p) (nI g) := by
    rw [h.2 g hg, purse_put hC hc p h5 h0]
  have o14 : ∀ j, j < 16 → j ≠ g → τ 14 j = sPurse (up2 σ 11 c p) (nI j) := by
    intro j hj hne
    rw [h.2 j hj, purse_up hC hc p]
    rw [h5]
    intro q
    have := congrArg Int32.toNatClampNeg q
    rw [nI_clamp (by omega), nI_clamp (by omega)] at this
    exact hne this.symm
  have key : ∀ σ2 τ2 : Sg, (∀ k, k ≠ 14 → τ2 k = up2 σ2 11 c p k) → (∀ j, τ2 14 j = up2 τ 14 g (τ 14 g + p) 14 j) → σ2 5 = σ 5 → σ2 11 = σ 11 → σ2 13 1 = σ 13 1 → Pur (up2 τ2 9 c 5) (up2 (up2 σ2 11 c p) 9 c 5) := by
    intro σ2 τ2 hr h14 s5 s11 s13
    refine ⟨fun k hk => ?_, fun j hj => ?_⟩
    · funext b
      simp only [up2c, hr k hk]
    · have ep : sPurse (up2 (up2 σ2 11 c p) 9 c 5) (nI j) = sPurse (up2 σ 11 c p) (nI j) := by
        refine purse_same ?_ ?_ ?_ _
        · exact s5
        · funext b
          show up2 σ2 11 c p 11 b = up2 σ 11 c p 11 b
          simp only [up2c, s11]
        · exact s13
      rw [ep, up2_k _ (by decide), h14 j]
      by_cases q : j = g
      · subst q
        rw [up2_s, e14]
      · rw [up2_j _ q, o14 j hj q]
  unfold mPay sSettleC sPayO
  rw [e5, h5, hcl]
  dsimp only
  by_cases hp : p ≤ 0
  · rw [if_pos hp, if_pos hp]
    refine key σ _ (fun k hk => ?_) (fun j => ?_) rfl rfl rfl
    · funext b
      simp only [up2c, h.1 k hk, hk, false_and, if_false]
    · simp [up2c]
  · rw [if_neg hp, if_neg hp, h.pd.2, h.pd.1]
    by_cases hm : mPd σ (nI g) = true
    · rw [if_pos hm, if_neg ((hWQ g hg).mp hm)]
      refine key σ _ (fun k hk => ?_) (fun j => ?_) rfl rfl rfl
      · funext b
        simp only [up2c, h.1 k hk, hk, false_and, if_false]
      · simp [up2c]
    · have hz : sPurse σ (nI g) = 0 := Classical.byContradiction fun q => hm ((hWQ g hg).mpr q)
      have hlt := hWP.lt hg (by simpa using hm)
      have h16 : ¬ 16 ≤ σ 13 2 := by
        rw [hWP.1.1]
        exact nI_ge (b := 16) hlt (by decide)
      rw [if_neg hm, if_pos hz, if_neg h16]
      refine key _ _ (fun k hk => ?_) (fun j => ?_) rfl rfl rfl
      · funext b
        have e13 : τ 13 2 = σ 13 2 := by rw [h.1 13 (by decide)]
        simp only [up2c, h.1 k hk, hk, false_and, if_false, e13]
        by_cases q : k = 11
        · subst q
          simp
        · simp [q]
      · simp [up2c]
