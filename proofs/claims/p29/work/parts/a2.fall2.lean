/-! when a lot falls: lived through, and reckoned -/
theorem sLapse_n {σ : Sg} {c l w : Nat} (hl : σ 0 2 = nI l) (hw : σ 10 c = nI w) (h1 : l ≤ 200) (h2 : w < 2 ^ 30) : sLapse σ c = nI (max 1 (l - w)) := by
  unfold sLapse
  rw [hl, hw, max32_1]
  have e := nI_sub (a := l) (b := w) (by omega) h2
  have o1 : (1 : Int32).toInt = 1 := rfl
  by_cases q : 1 ≤ nI l - nI w
  · rw [if_pos q]
    rw [Int32.le_iff_toInt_le, e, o1] at q
    rw [nI_subN (by omega), Nat.max_eq_right (by omega)]
  · rw [if_neg q]
    rw [Int32.le_iff_toInt_le, e, o1] at q
    rw [Nat.max_eq_left (by omega)]
    rfl
theorem JI.wl {σ : Sg} (h : JI σ) : WL σ := by
  intro c hc
  obtain ⟨_, ⟨l, l1, l2, e2⟩, _, D, hD, _, _, hw⟩ := h.wn
  obtain ⟨w, w1, e10⟩ := hw c hc
  exact ⟨_, by omega, by omega, sLapse_n e2 e10 (by omega) (by omega)⟩
/-- idle days -/
theorem max32_n {a b : Nat} (ha : a < 2 ^ 31) (hb : b < 2 ^ 31) : max32 (nI a) (nI b) = nI (max a b) := by
  unfold max32
  by_cases q : a < b
  · rw [if_pos ((nI_ltI ha hb).mpr q), Nat.max_eq_right (by omega)]
  · rw [if_neg (fun h => q ((nI_ltI ha hb).mp h)), Nat.max_eq_left (by omega)]
theorem idle_lp {σ : Sg} {l W : Nat} (hl : σ 0 2 = nI l) (h200 : l ≤ 200) (hW : W < 2 ^ 30) {op : Int32} : ∀ (k i a : Nat), i + k ≤ 32 → a ≤ 199 → (∀ c, i ≤ c → c < i + k → gb op c = true → ∃ w, w ≤ W ∧ σ 10 c = nI w) → ∃ u, u ≤ 199 ∧ lp (idleF σ op) i k (nI a) = nI u ∧ a ≤ u ∧ (∀ c w, i ≤ c → c < i + k → gb op c = true → w ≤ W → σ 10 c = nI w → l - w ≤ u + 1) ∧ (u = a ∨ ∃ c w, i ≤ c ∧ c < i + k ∧ gb op c = true ∧ w ≤ W ∧ σ 10 c = nI w ∧ l - w = u + 1)
  | 0, i, a, _, h1, _ => ⟨a, h1, rfl, Nat.le_refl _, fun c w h1 h2 => by omega, Or.inl rfl⟩
  | k + 1, i, a, hi, h1, h => by
    rw [lp_s]
    by_cases q : gb op i = true
    · obtain ⟨w, w1, w2⟩ := h i (Nat.le_refl _) (by omega) q
      have e : idleF σ op i (nI a) = nI (max a (max 1 (l - w) - 1)) := by
        unfold idleF
        rw [sHolds_gb _ (by omega), if_pos q, sLapse_n hl w2 h200 (by omega), show (1 : Int32) = nI 1 from rfl, nI_subN (by omega), max32_n (by omega) (by omega)]
      rw [e]
      obtain ⟨u, u1, u2, u3, u4, u5⟩ := idle_lp hl h200 hW k (i + 1) (max a (max 1 (l - w) - 1)) (by omega) (by omega) (fun c a1 a2 a3 => h c (by omega) (by omega) a3)
      refine ⟨u, u1, u2, by omega, fun c w' a1 a2 a3 a4 a5 => ?_, ?_⟩
      · by_cases qc : c = i
        · subst qc
          have : w' = w := nI_inj2 (by omega) (by omega) (a5.symm.trans w2)
          omega
        · exact u4 c w' (by omega) (by omega) a3 a4 a5
      · rcases u5 with u5 | ⟨c, w', a1, a2, a3⟩
        · by_cases qa : u = a
          · exact Or.inl qa
          · exact Or.inr ⟨i, w, Nat.le_refl _, by omega, q, w1, w2, by omega⟩
        · exact Or.inr ⟨c, w', by omega, by omega, a3⟩
    · have e : idleF σ op i (nI a) = nI a := by
        unfold idleF
        rw [sHolds_gb _ (by omega), if_neg q]
      rw [e]
      obtain ⟨u, u1, u2, u3, u4, u5⟩ := idle_lp hl h200 hW k (i + 1) a (by omega) h1 (fun c a1 a2 a3 => h c (by omega) (by omega) a3)
      refine ⟨u, u1, u2, u3, fun c w' a1 a2 a3 a4 a5 => ?_, ?_⟩
      · by_cases qc : c = i
        · subst qc
          exact absurd a3 q
        · exact u4 c w' (by omega) (by omega) a3 a4 a5
      · rcases u5 with u5 | ⟨c, w', a1, a2, a3⟩
        · exact Or.inl u5
        · exact Or.inr ⟨c, w', by omega, by omega, a3⟩
