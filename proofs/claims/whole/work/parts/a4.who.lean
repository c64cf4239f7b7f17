/-! heirs who have claimed -/
theorem who_cnt (σ : Sg) : mWho σ = nI (cnt (fun i => !decide (mCof σ (nI i) false = 0)) 0 16) := by
  have hf : ∀ (i : Nat) (a : Int32), (if mCof σ (nI i) false = 0 then a else a + 1) = if (!decide (mCof σ (nI i) false = 0)) = true then a + 1 else a := fun i a => by
    by_cases q : mCof σ (nI i) false = 0
    · rw [decide_eq_true q, if_pos q]
      rfl
    · rw [decide_eq_false q, if_neg q]
      rfl
  have e := lp_cntf hf 16 0 0
  rw [Nat.zero_add] at e
  exact e
theorem who_gb {σ : Sg} (hC : COk σ) (hH : WH σ) : ∀ i, i < 32 → (gb (lp (sNumf (σ 5) (cAll σ)) 0 30 0) i = true ↔ ∃ c, c < nCl σ ∧ σ 5 c = nI i) := by
  have h30 := hC.2
  have e2 : lp (sNumf (σ 5) (cAll σ)) 0 30 0 = lp (fun c a => a ||| (if c < nCl σ then (1 : Int32) <<< (σ 5 c &&& 31) else 0)) 0 30 0 := by
    refine lp_ext _ _ _ fun c _ hc a => ?_
    unfold sNumf
    rw [sHolds_gb _ (by omega), gb_cAll hC (by omega)]
    by_cases q : c < nCl σ
    · rw [if_pos q, if_pos (decide_eq_true q)]
    · rw [if_neg q, if_neg (by simpa using q), or_0]
  intro i hi
  rw [e2, gb_lpor, gb_0]
  have key : ∀ c, c < nCl σ → (gb ((1 : Int32) <<< (σ 5 c &&& 31)) i = true ↔ σ 5 c = nI i) := by
    intro c hc
    obtain ⟨g, hg, e⟩ := hH c hc
    rw [e]
    show gb (bit g) i = true ↔ _
    rw [gb_bit g (by omega) i hi, decide_eq_true_eq]
    exact ⟨fun q => by rw [q], fun q => (nI_inj2 (by omega) (by omega) q).symm⟩
  constructor
  · rintro (q | ⟨c, _, _, q⟩)
    · exact absurd q (by decide)
    · by_cases hc : c < nCl σ
      · rw [if_pos hc] at q
        exact ⟨c, hc, (key c hc).mp q⟩
      · rw [if_neg hc, gb_0] at q
        exact absurd q (by decide)
  · rintro ⟨c, hc, e⟩
    exact Or.inr ⟨c, Nat.zero_le _, by omega, by rw [if_pos hc]; exact (key c hc).mpr e⟩
theorem cnt_cut {p : Nat → Bool} {n N : Nat} (h : n ≤ N) (h0 : ∀ j, n ≤ j → j < N → p j = false) : cnt p 0 N = cnt p 0 n := by
  have e := cnt_add p n (N - n) 0
  rw [Nat.add_sub_cancel' h, cnt_0 (N - n) (0 + n) fun j h1 h2 => h0 j (by omega) (by omega), Nat.add_zero] at e
  exact e
theorem who_x {σ : Sg} (hC : COk σ) (hH : WH σ) {X : Int32} (gx : ∀ i, i < 32 → (gb X i = true ↔ ∃ c, c < nCl σ ∧ σ 5 c = nI i)) : cnt (fun i => !decide (mCof σ (nI i) false = 0)) 0 16 = cnt (gb X) 0 32 := by
  have h30 := hC.2
  have e3 : ∀ j, 16 ≤ j → j < 32 → gb X j = false := fun j h1 h2 => by
    cases q : gb X j
    · rfl
    · obtain ⟨c, hc, e⟩ := (gx j (by omega)).mp q
      obtain ⟨g, hg, e'⟩ := hH c hc
      have := nI_inj2 (by omega) (by omega) (e.symm.trans e')
      omega
  rw [cnt_cut (n := 16) (N := 32) (by decide) e3]
  refine cnt_ext _ _ fun j _ hj => ?_
  rw [Bool.eq_iff_iff, gx j (by omega), mCof_f]
  simp only [Bool.not_eq_true', decide_eq_false_iff_not]
  unfold cOfHeir
  rw [bs_eq0 (by omega)]
  constructor
  · intro q
    refine Classical.byContradiction fun hn => q fun c hc => ?_
    rw [decide_eq_false_iff_not]
    intro e
    exact hn ⟨c, hc, e⟩
  · rintro ⟨c, hc, e⟩ q
    have := q c hc
    rw [decide_eq_true e] at this
    exact absurd this (by decide)
theorem eq_13 {σ : Sg} (hC : COk σ) (hH : WH σ) : mWho σ = sBit (lp (sNumf (σ 5) (cAll σ)) 0 30 0) := by
  rw [who_cnt, sBit_cnt, who_x hC hH (who_gb hC hH)]
