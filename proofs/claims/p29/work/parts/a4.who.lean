theorem who_gb {σ : Sg} (hC : COk σ) (hH : WH σ) : ∀ i, i < 32 → (gb (lp (sNumf (σ 5) (cAll σ)) 0 30 0) i = true ↔ ∃ c, c < nCl σ ∧ σ 5 c = nI i) := by
  have h30 := hC.2
  have e2 : lp (sNumf (σ 5) (cAll σ)) 0 30 0 = lp (fun c a => a ||| (if c < nCl σ then (1 : Int32) <<< (σ 5 c &&& 31) else 0)) 0 30 0 := by
    refine lp_ext _ _ _ fun c _ hc a => ?_
    unfold sNumf
    rw [sHolds_gb _ (by omega), gb_cAll hC (by omega)]
    by_cases q : c < nCl σ
    · rw [if_pos q, if_pos (decide_eq_true q)]
    · rw [if_neg q, if_neg (by simpa using q), or_0]
  intro i hi
  rw [e2, gb_lpor, gb_0]
  have key : ∀ c, c < nCl σ → (gb ((1 : Int32) <<< (σ 5 c &&& 31)) i = true ↔ σ 5 c = nI i) := by
    intro c hc
    obtain ⟨g, hg, e⟩ := hH c hc
    rw [e]
    show gb (bit g) i = true ↔ _
    rw [gb_bit g (by omega) i hi, decide_eq_true_eq]
    exact ⟨fun q => by rw [q], fun q => (nI_inj2 (by omega) (by omega) q).symm⟩
  constructor
  · rintro (q | ⟨c, _, _, q⟩)
    · exact absurd q (by decide)
    · by_cases hc : c < nCl σ
      · rw [if_pos hc] at q
        exact ⟨c, hc, (key c hc).mp q⟩
      · rw [if_neg hc, gb_0] at q
        exact absurd q (by decide)
  · rintro ⟨c, hc, e⟩
    exact Or.inr ⟨c, Nat.zero_le _, by omega, by rw [if_pos hc]; exact (key c hc).mpr e⟩
theorem cnt_cut {p : Nat → Bool} {n N : Nat} (h : n ≤ N) (h0 : ∀ j, n ≤ j → j < N → p j = false) : cnt p 0 N = cnt p 0 n := by
  have e := cnt_add p n (N - n) 0
  rw [Nat.add_sub_cancel' h, cnt_0 (N - n) (0 + n) fun j h1 h2 => h0 j (by omega) (by omega), Nat.add_zero] at e
  exact e
