/-! what holds of the reference's numbers all along -/
def WS (σ : Sg) : Prop := ∀ c, c < nCl σ → ∃ w, w < 6 ∧ σ 9 c = nI w
def WH (σ : Sg) : Prop := ∀ c, c < nCl σ → ∃ g, g < 16 ∧ σ 5 c = nI g
def WT (σ : Sg) : Prop := ∀ c, c < nCl σ → ∃ j, j < nLo σ ∧ σ 6 c = nI j
def WB (σ : Sg) : Prop := ∀ c, c < nCl σ → ∃ b, b ≤ 9999 ∧ σ 11 c = nI b
def WL (σ : Sg) : Prop := ∀ c, c < nCl σ → ∃ l, 1 ≤ l ∧ l ≤ 200 ∧ sLapse σ c = nI l
def W14 (σ : Sg) : Prop := ∀ j, j < 16 → σ 14 j = sPurse σ (nI j)
theorem nI_int {a : Nat} (h : a < 2 ^ 31) : (nI a).toInt = (a : Int) := Int32.toInt_ofNat_of_lt h
theorem sHeir_of {x : Int32} (h : sHeir x = true) : ∃ j, j < 16 ∧ x = nI j := by
  obtain ⟨j, _, hj, rfl⟩ := ax_ix_of (n := 16) (N := 16) (len := 16) rfl (by decide) (by decide) h
  exact ⟨j, hj, rfl⟩
theorem sHeir_n : ∀ j, j < 16 → sHeir (nI j) = true := by decide
theorem mIn_of {x : Int32} {a b : Nat} (hb : b < 2 ^ 31) (h : mIn x (nI a) (nI b) = true) (ha : a < 2 ^ 31) : ∃ j, a ≤ j ∧ j ≤ b ∧ x = nI j := by
  unfold mIn at h
  simp only [Bool.and_eq_true, Bool.not_eq_true', decide_eq_false_iff_not] at h
  obtain ⟨h1, h2⟩ := h
  rw [Int32.lt_iff_toInt_lt, nI_int ha] at h1
  rw [Int32.lt_iff_toInt_lt, nI_int hb] at h2
  have h0 : ¬ x < 0 := by
    rw [Int32.lt_iff_toInt_lt]
    have : (0 : Int32).toInt = 0 := rfl
    omega
  obtain ⟨j, hj, rfl⟩ := nI_of h0
  rw [nI_int hj] at h1 h2
  exact ⟨j, by omega, by omega, rfl⟩
theorem nI_le0 {b : Nat} (hb : b ≤ 9999) : nI b ≤ 0 ↔ nI b = 0 := by
  rw [Int32.le_iff_toInt_le, ← Int32.toInt_inj, nI_int (by omega)]
  have : (0 : Int32).toInt = 0 := rfl
  omega
theorem nI_sub {a b : Nat} (ha : a < 2 ^ 30) (hb : b < 2 ^ 30) : (nI a - nI b).toInt = (a : Int) - b := by
  rw [Int32.toInt_sub, nI_int (by omega), nI_int (by omega)]
  exact Int.bmod_eq_of_le (by omega) (by omega)
