/-! what an heir would get: of one claim -/
theorem lp_one {α : Type} {f : Nat → α → α} {c : Nat} : ∀ (k i : Nat) (a : α), i ≤ c → c < i + k → (∀ j, i ≤ j → j < i + k → j ≠ c → ∀ a, f j a = a) → lp f i k a = f c a
  | 0, i, a, h1, h2, _ => absurd h2 (by omega)
  | k + 1, i, a, h1, h2, h => by
    rw [lp_s]
    by_cases q : i = c
    · subst q
      exact lp_id k (i + 1) _ fun j h3 h4 a => h j (by omega) (by omega) (by omega) a
    · rw [h i (Nat.le_refl _) (by omega) q]
      exact lp_one k (i + 1) a (by omega) (by omega) fun j h3 h4 => h j (by omega) (by omega)
theorem share_part {σ : Sg} (h : JI σ) {s x he : Int32} {j : Nat} (hs : ∀ c, c < 32 → gb s c = true → c < nCl σ ∧ σ 6 c = x ∧ sStands σ c = true) : mShare σ j he s = sPart (sCoins σ j) (cNearest σ s) (cNearest σ s &&& cOfHeir σ he) := by
  have h30 := h.cok.2
  have hsub : Sub s (nCl σ) := fun i hi hn => by
    cases q : gb s i
    · rfl
    · have := (hs i hi q).1
      omega
  unfold mShare
  rw [mNear_eq h.cok hsub]
  generalize hn : cNearest σ s = near
  have hns : Sub near (nCl σ) := by
    rw [← hn]
    exact near_sub hsub
  have mem : ∀ c, c < nCl σ → (sHolds near (nI c) = true ↔ gb near c = true) := fun c hc => by rw [sHolds_gb _ (by omega)]
  by_cases hex : ∃ c, c < nCl σ ∧ gb near c = true ∧ σ 5 c = he
  · obtain ⟨c, hc, hg, h5⟩ := hex
    have hu : ∀ b, b < nCl σ → gb near b = true → σ 5 b = he → b = c := by
      intro b hb hgb hb5
      obtain ⟨_, e6, st⟩ := hs b (by omega) (gb_near (σ := σ) (by rw [hn]; exact hgb))
      obtain ⟨_, e6', st'⟩ := hs c (by omega) (gb_near (σ := σ) (by rw [hn]; exact hg))
      exact h.wo b c hb hc st st' (by rw [hb5, h5]) (by rw [e6, e6'])
    have e1 : near &&& cOfHeir σ he = bit c := by
      refine gb_ext fun i hi => ?_
      rw [gb_and, gb_cOfHeir h.cok _ hi, gb_bit c (by omega) i hi, Bool.eq_iff_iff]
      simp only [Bool.and_eq_true, decide_eq_true_eq]
      constructor
      · rintro ⟨a, b, d⟩
        exact hu i b a d
      · rintro rfl
        exact ⟨hg, hc, h5⟩
    rw [e1, sPart_eq hns h30 (by omega) hg]
    rw [lp_one (c := c) _ _ _ (Nat.zero_le _) (by omega)]
    · unfold mShF
      rw [if_pos ((mem c hc).mpr hg), if_pos h5, Int32.zero_add]
    · intro b _ hb hne a
      unfold mShF
      by_cases q : sHolds near (nI b) = true
      · rw [if_pos q, if_neg]
        intro q5
        exact hne (hu b (by omega) ((mem b (by omega)).mp q) q5)
      · rw [if_neg q]
  · have hno : ∀ c, c < nCl σ → gb near c = true → ¬ σ 5 c = he := fun c hc hg h5 => hex ⟨c, hc, hg, h5⟩
    have e1 : near &&& cOfHeir σ he = 0 := by
      refine gb_ext fun i hi => ?_
      rw [gb_and, gb_cOfHeir h.cok _ hi, gb_0]
      cases q : gb near i
      · rfl
      · by_cases q2 : i < nCl σ
        · rw [decide_eq_false (hno i q2 q)]
          simp
        · rw [decide_eq_false q2]
          rfl
    rw [e1]
    have e2 : sPart (sCoins σ j) near 0 = 0 := by
      unfold sPart
      have : near &&& 0 = 0 := gb_ext fun i hi => by
        rw [gb_and, gb_0]
        simp
      rw [if_pos this]
      split <;> rfl
    rw [e2]
    refine lp_id _ _ _ fun b _ hb a => ?_
    unfold mShF
    by_cases q : sHolds near (nI b) = true
    · rw [if_pos q, if_neg (hno b (by omega) ((mem b (by omega)).mp q))]
    · rw [if_neg q]
theorem eq_share {σ : Sg} (h : JI σ) (x he w : Int32) : mShr σ x he w = oShare σ x he w := by
  have h30 := h.cok.2
  unfold mShr oShare
  by_cases q1 : sExists (σ 13 0) x = true
  · rw [if_pos q1, if_pos q1]
    by_cases q2 : sHeir he = true
    · rw [if_pos q2, if_pos q2]
      by_cases q3 : mIn w 0 1 = true
      · have q4 : ¬ (w ≠ 0 ∧ w ≠ 1) := fun q => by
          rw [(mIn01 w).mpr q] at q3
          exact absurd q3 (by decide)
        rw [if_pos q3, if_neg q4]
        dsimp only
        by_cases q5 : sOver σ x.toNatClampNeg = true
        · rw [if_pos q5, if_pos q5]
        rw [if_neg q5, if_neg q5]
        refine share_part (x := x) h fun c hc hg => ?_
        by_cases q : w = 0
        · rw [if_pos q, cUpTo_bs h.cok, gb_bs _ (by omega) hc] at hg
          simp only [Bool.and_eq_true, decide_eq_true_eq] at hg
          refine ⟨hg.1, hg.2.1, ?_⟩
          unfold sStands
          rw [hg.2.2]
          rfl
        · rw [if_neg q, cStandTo_bs h.cok, gb_bs _ (by omega) hc] at hg
          simp only [Bool.and_eq_true, decide_eq_true_eq] at hg
          exact ⟨hg.1, hg.2.1, hg.2.2⟩
      · rw [if_neg q3, if_pos ((mIn01 w).mp (by simpa using q3))]
    · rw [if_neg q2, if_neg q2]
  · rw [if_neg q1, if_neg q1]
