/-! numbers of the office alike -/
theorem vals_cut {σ : Sg} (hL : LOk σ) {s t : Int32} (h : ∀ i, i < nLo σ → gb s i = gb t i) (hs : ∀ i, nLo σ ≤ i → i < 12 → gb t i = false) : mVals σ s = lp (sSumf (σ 1) t) 0 12 0 := by
  have hl := hL.2
  rw [lp_cut (f := sSumf (σ 1) t) hL.2]
  · unfold mVals
    refine lp_ext _ _ _ fun i _ hi a => ?_
    unfold sSumf
    rw [sHolds_gb _ (by omega), sHolds_gb _ (by omega), h i (by omega)]
  · intro i h1 h2 a
    unfold sSumf
    rw [sHolds_gb _ (by omega), hs i h1 h2]
    rfl
theorem eq_8 {σ : Sg} (hL : LOk σ) : mVals σ 4095 = lp (sSumf (σ 1) (lAll σ)) 0 12 0 := by
  have hl := hL.2
  have e : ∀ i, i < 12 → gb 4095 i = true := by decide
  refine vals_cut hL (fun i hi => ?_) fun i h1 h2 => ?_
  · rw [e i (by omega), gb_lAll hL (by omega), decide_eq_true hi]
  · rw [gb_lAll hL (by omega), decide_eq_false (by omega)]
theorem eq_9 {σ : Sg} (hL : LOk σ) : mVals σ (lIn σ 0 ||| lIn σ 1) = lp (sSumf (σ 1) (lIn σ 0 ||| lIn σ 1)) 0 12 0 := by
  have hl := hL.2
  refine vals_cut hL (fun i hi => rfl) fun i h1 h2 => ?_
  unfold lIn
  rw [gb_or, gb_bs _ (by omega) (by omega), gb_bs _ (by omega) (by omega), decide_eq_false (by omega)]
  rfl
theorem lp_addc (F : Nat → Int32) : ∀ (k i : Nat) (a b : Int32), lp (fun i a => a + F i) i k (a + b) = lp (fun i a => a + F i) i k a + b
  | 0, _, _, _ => rfl
  | k + 1, i, a, b => by
    rw [lp_s, lp_s, ← lp_addc F k (i + 1), Int32.add_assoc, Int32.add_comm b, ← Int32.add_assoc]
theorem lp_addp {F G : Nat → Int32} {g : Nat} {v : Int32} (hg : G g = F g + v) : ∀ (k i : Nat) (a : Int32), i ≤ g → g < i + k → (∀ j, i ≤ j → j < i + k → j ≠ g → G j = F j) → lp (fun i a => a + G i) i k a = lp (fun i a => a + F i) i k a + v
  | 0, i, a, h1, h2, _ => absurd h2 (by omega)
  | k + 1, i, a, h1, h2, ho => by
    rw [lp_s, lp_s]
    by_cases q : i = g
    · subst q
      rw [hg, ← Int32.add_assoc, ← lp_addc F k (i + 1)]
      refine lp_ext _ _ _ fun j h3 h4 b => ?_
      rw [ho j (by omega) (by omega) (by omega)]
    · rw [ho i (Nat.le_refl _) (by omega) q]
      exact lp_addp hg k (i + 1) _ (by omega) (by omega) fun j h3 h4 => ho j (by omega) (by omega)
theorem sSumf_last (f : Nat → Int32) (s : Int32) (k : Nat) : lp (sSumf f s) 0 (k + 1) 0 = if sHolds s (nI k) = true then lp (sSumf f s) 0 k 0 + f k else lp (sSumf f s) 0 k 0 := by
  rw [lp_last, Nat.zero_add]
  rfl
theorem purses_all {σ : Sg} (hC : COk σ) (hH : WH σ) : ∀ k, k ≤ nCl σ → lp (fun i a => a + lp (sSumf (σ 11) (cOfHeir σ (nI i))) 0 k 0) 0 16 0 = lp (sSumf (σ 11) (cAll σ)) 0 k 0
  | 0, _ => by
    rw [lp_0]
    refine lp_id _ _ _ fun j _ _ a => ?_
    rw [lp_0]
    exact Int32.add_zero a
  | k + 1, hk => by
    have h30 := hC.2
    obtain ⟨g, hg, e5⟩ := hH k (by omega)
    rw [sSumf_last, if_pos (by rw [sHolds_gb _ (by omega), gb_cAll hC (by omega), decide_eq_true (by omega)]), ← purses_all hC hH k (by omega)]
    refine lp_addp (g := g) ?_ 16 0 0 (by omega) (by omega) fun i _ hi16 hi => ?_
    · rw [sSumf_last, if_pos]
      rw [sHolds_gb _ (by omega), gb_cOfHeir hC _ (by omega), decide_eq_true (by omega), decide_eq_true e5]
      rfl
    · rw [sSumf_last, if_neg]
      rw [sHolds_gb _ (by omega), gb_cOfHeir hC _ (by omega), e5]
      intro q
      simp only [Bool.and_eq_true, decide_eq_true_eq] at q
      exact hi (nI_inj2 (by omega) (by omega) q.2.symm)
theorem eq_11 {ζ : Sg} (h : Inv ζ) : mPurses ζ = lp (sSumf (ζ 11) (cAll ζ)) 0 30 0 := by
  have h30 := h.1.cok.2
  have hcut : ∀ s, (∀ i, nCl ζ ≤ i → i < 30 → gb s i = false) → lp (sSumf (ζ 11) s) 0 30 0 = lp (sSumf (ζ 11) s) 0 (nCl ζ) 0 := by
    intro s hs
    refine lp_cut h30 _ fun i h1 h2 a => ?_
    unfold sSumf
    rw [sHolds_gb _ (by omega), hs i h1 h2]
    rfl
  rw [hcut _ (fun i h1 h2 => by rw [gb_cAll h.1.cok (by omega), decide_eq_false (by omega)]), ← purses_all h.1.cok h.1.wh (nCl ζ) (Nat.le_refl _)]
  unfold mPurses
  refine lp_ext _ _ _ fun j _ hj a => ?_
  rw [h.2 j (by omega)]
  unfold sPurse
  rw [hcut _ (fun i h1 h2 => by rw [gb_cOfHeir h.1.cok _ (by omega), decide_eq_false (by omega)]; rfl)]
theorem eq_12 {σ : Sg} (hC : COk σ) (hH : WH σ) : mStCl σ = cStanding σ := by
  have h30 := hC.2
  refine gb_ext fun i hi => ?_
  rw [Bool.eq_iff_iff]
  unfold mStCl
  rw [gb_lpor, gb_0, cStanding_bs hC, gb_bs _ (by omega) hi]
  constructor
  · rintro (q | ⟨g, _, _, q⟩)
    · exact absurd q (by decide)
    · rw [mCof_t hC, gb_and, cStanding_bs hC, gb_bs _ (by omega) hi, Bool.and_eq_true] at q
      exact q.2
  · intro q
    have q2 := q
    rw [Bool.and_eq_true, decide_eq_true_eq] at q2
    obtain ⟨g, hg, e⟩ := hH i q2.1
    refine Or.inr ⟨g, Nat.zero_le _, by omega, ?_⟩
    rw [mCof_t hC, gb_and, cStanding_bs hC, gb_bs _ (by omega) hi, q, gb_cOfHeir hC _ hi, decide_eq_true q2.1, decide_eq_true e]
    rfl
theorem lp_cntf {f : Nat → Int32 → Int32} {p : Nat → Bool} (hf : ∀ i a, f i a = if p i = true then a + 1 else a) : ∀ (k i n : Nat), lp f i k (nI n) = nI (n + cnt p i k)
  | 0, i, n => rfl
  | k + 1, i, n => by
    rw [lp_s, hf]
    show lp f (i + 1) k (if p i = true then nI n + 1 else nI n) = nI (n + ((if p i = true then 1 else 0) + cnt p (i + 1) k))
    by_cases q : p i = true
    · rw [if_pos q, if_pos q, nI_1, lp_cntf hf k (i + 1), Nat.add_assoc]
    · rw [if_neg q, if_neg q, lp_cntf hf k (i + 1), Nat.zero_add]
