/-- sums stay small -/
theorem lp_small (f : Nat → Int32) (p : Nat → Bool) (B : Nat) : ∀ (k i a : Nat), (∀ j, i ≤ j → j < i + k → p j = true → ∃ b, b ≤ B ∧ f j = nI b) → ∃ s, s ≤ a + k * B ∧ lp (fun i a => if p i = true then a + f i else a) i k (nI a) = nI s ∧ a ≤ s
  | 0, i, a, _ => ⟨a, by omega, rfl, Nat.le_refl _⟩
  | k + 1, i, a, h => by
    rw [lp_s]
    by_cases q : p i = true
    · obtain ⟨b, hb, e⟩ := h i (Nat.le_refl _) (by omega) q
      rw [if_pos q, e, nI_add]
      obtain ⟨s, h1, h2, h3⟩ := lp_small f p B k (i + 1) (a + b) fun j h1 h2 => h j (by omega) (by omega)
      refine ⟨s, ?_, h2, by omega⟩
      rw [Nat.succ_mul]
      omega
    · rw [if_neg q]
      obtain ⟨s, h1, h2, h3⟩ := lp_small f p B k (i + 1) a fun j h1 h2 => h j (by omega) (by omega)
      refine ⟨s, ?_, h2, h3⟩
      rw [Nat.succ_mul]
      omega
theorem purse_small {σ : Sg} (hC : COk σ) (hB : WB σ) (w : Int32) : ∃ s, s ≤ 299970 ∧ sPurse σ w = nI s := by
  have h30 := hC.2
  obtain ⟨s, h1, h2, _⟩ := lp_small (σ 11) (fun i => sHolds (cOfHeir σ w) (nI i)) 9999 30 0 0 (fun j _ hj q => by
    rw [sHolds_gb _ (by omega), gb_cOfHeir hC _ (by omega), Bool.and_eq_true, decide_eq_true_iff] at q
    exact hB j q.1)
  exact ⟨s, by omega, h2⟩
/-- who is paid has coins -/
def WQ (σ : Sg) : Prop := ∀ g, g < 16 → (mPd σ (nI g) = true ↔ ¬ sPurse σ (nI g) = 0)
/-- a claim that stands has brought nothing -/
def WZ (σ : Sg) : Prop := ∀ c, c < nCl σ → sStands σ c = true → σ 11 c = 0
