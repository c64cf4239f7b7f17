/-! what holds of the reference's numbers all along -/
def WS (σ : Sg) : Prop := ∀ c, c < nCl σ → ∃ w, w < 6 ∧ σ 9 c = nI w
def WH (σ : Sg) : Prop := ∀ c, c < nCl σ → ∃ g, g < 16 ∧ σ 5 c = nI g
def WT (σ : Sg) : Prop := ∀ c, c < nCl σ → ∃ j, j < nLo σ ∧ σ 6 c = nI j
def WB (σ : Sg) : Prop := ∀ c, c < nCl σ → ∃ b, b ≤ 9999 ∧ σ 11 c = nI b
def WL (σ : Sg) : Prop := ∀ c, c < nCl σ → ∃ l, 1 ≤ l ∧ l ≤ 200 ∧ sLapse σ c = nI l
def W14 (σ : Sg) : Prop := ∀ j, j < 16 → σ 14 j = sPurse σ (nI j)
theorem nI_int {a : Nat} (h : a < 2 ^ 31) : (nI a).toInt = (a : Int) := Int32.toInt_ofNat_of_lt h
theorem sHeir_of {x : Int32} (h : sHeir x = true) : ∃ j, j < 16 ∧ x = nI j := by
  obtain ⟨j, _, hj, rfl⟩ := ax_ix_of (n := 16) (N := 16) (len := 16) rfl (by decide) (by decide) h
  exact ⟨j, hj, rfl⟩
theorem sHeir_n : ∀ j, j < 16 → sHeir (nI j) = true := by decide
theorem mIn_of {x : Int32} {a b : Nat} (hb : b < 2 ^ 31) (h : mIn x (nI a) (nI b) = true) (ha : a < 2 ^ 31) : ∃ j, a ≤ j ∧ j ≤ b ∧ x = nI j := by
  unfold mIn at h
  simp only [Bool.and_eq_true, Bool.not_eq_true', decide_eq_false_iff_not] at h
  obtain ⟨h1, h2⟩ := h
  rw [Int32.lt_iff_toInt_lt, nI_int ha] at h1
  rw [Int32.lt_iff_toInt_lt, nI_int hb] at h2
  have h0 : ¬ x < 0 := by
    rw [Int32.lt_iff_toInt_lt]
    have : (0 : Int32).toInt = 0 := rfl
    omega
  obtain ⟨j, hj, rfl⟩ := nI_of h0
  rw [nI_int hj] at h1 h2
  exact ⟨j, by omega, by omega, rfl⟩
theorem mIn_b {x : Int32} {a b : Int32} : mIn x a b = true ↔ ¬ x < a ∧ ¬ b < x := by
  unfold mIn
  simp
theorem mIn01 (w : Int32) : mIn w 0 1 = false ↔ w ≠ 0 ∧ w ≠ 1 := by
  constructor
  · intro h
    constructor <;> (rintro rfl; exact absurd h (by decide))
  · rintro ⟨h1, h2⟩
    cases e : mIn w 0 1
    · rfl
    · obtain ⟨j, _, hj, rfl⟩ := mIn_of (a := 0) (b := 1) (by decide) e (by decide)
      rcases (show j = 0 ∨ j = 1 by omega) with rfl | rfl
      · exact absurd rfl h1
      · exact absurd rfl h2
theorem mAllTo_eq {σ : Sg} (hC : COk σ) (hW : WS σ) (x : Int32) : mAllTo σ x = cToLot σ x := by
  have h32 : nCl σ ≤ 32 := by have := hC.2; omega
  refine gb_ext fun i hi => ?_
  rw [Bool.eq_iff_iff, mAllTo, gb_lpor, gb_0]
  constructor
  · rintro (h | ⟨w, _, _, h⟩)
    · exact absurd h (by decide)
    · rw [gb_and, Bool.and_eq_true] at h
      exact h.1
  · intro h
    have h2 := h
    rw [cToLot, gb_bs _ h32 hi, Bool.and_eq_true, decide_eq_true_iff] at h2
    obtain ⟨w, hw, e⟩ := hW i h2.1
    refine Or.inr ⟨w, by omega, by omega, ?_⟩
    rw [gb_and, h, cIn, gb_bs _ h32 hi, decide_eq_true h2.1, decide_eq_true e]
    rfl
theorem mCof_f {σ : Sg} (x : Int32) : mCof σ x false = cOfHeir σ x := by
  unfold mCof cOfHeir
  congr 1
  funext c
  simp
theorem mCof_t {σ : Sg} (hC : COk σ) (x : Int32) : mCof σ x true = cOfHeir σ x &&& cStanding σ := by
  rw [cStanding_bs hC]
  refine Eq.trans ?_ (bs_and _ _ (by have := hC.2; omega)).symm
  unfold mCof
  congr 1
theorem nI_le0 {b : Nat} (hb : b ≤ 9999) : nI b ≤ 0 ↔ nI b = 0 := by
  rw [Int32.le_iff_toInt_le, ← Int32.toInt_inj, nI_int (by omega)]
  have : (0 : Int32).toInt = 0 := rfl
  omega
theorem mGot_eq {σ : Sg} (hC : COk σ) (hB : WB σ) (x : Int32) : mGot σ x = lp (sNumf (σ 6) (cOfHeir σ x &&& cBrought σ)) 0 30 0 := by
  have g : ∀ c, c < 30 → sHolds (cOfHeir σ x &&& cBrought σ) (nI c) = (decide (c < nCl σ) && decide (σ 5 c = x) && !decide (σ 11 c = 0)) := by
    intro c hc
    rw [sHolds_gb _ (by omega), gb_and, gb_cOfHeir hC x (by omega), gb_cBrought hC (by omega)]
    cases decide (c < nCl σ) <;> simp
  rw [lp_cut (f := sNumf (σ 6) (cOfHeir σ x &&& cBrought σ)) hC.2]
  · refine lp_ext _ _ _ fun c _ hc a => ?_
    rw [Nat.zero_add] at hc
    unfold mGotF sNumf
    rw [g c (by have := hC.2; omega), decide_eq_true hc]
    obtain ⟨b, hb, e⟩ := hB c hc
    by_cases h5 : σ 5 c = x
    · rw [if_pos h5, decide_eq_true h5, e]
      by_cases h0 : nI b = 0
      · rw [if_pos ((nI_le0 hb).mpr h0), decide_eq_true h0]
        rfl
      · rw [if_neg (fun q => h0 ((nI_le0 hb).mp q)), decide_eq_false h0]
        rfl
    · rw [if_neg h5, decide_eq_false h5]
      rfl
  · intro c h1 h2 a
    unfold sNumf
    rw [g c h2, decide_eq_false (by omega)]
    rfl
theorem oOfClaim_n {σ : Sg} {j w : Nat} (hj : j < 30) (hw : w < 7) (h : sExists (σ 13 1) (nI j) = true) : oOfClaim σ (nI j) (nI w) = σ (5 + w) j := by
  unfold oOfClaim
  rw [if_pos h, nI_cl (by omega)]
  rcases (show w = 0 ∨ w = 1 ∨ w = 2 ∨ w = 3 ∨ w = 4 ∨ w = 5 ∨ w = 6 by omega) with rfl | rfl | rfl | rfl | rfl | rfl | rfl <;> rfl
theorem oOfClaim_o {σ : Sg} {x w : Int32} (h : sExists (σ 13 1) x = true) (hw : mIn w 0 6 = false) : oOfClaim σ x w = -2 := by
  have n : ∀ v : Int32, mIn v 0 6 = true → ¬ w = v := by
    rintro v h1 rfl
    rw [hw] at h1
    exact absurd h1 (by decide)
  unfold oOfClaim
  rw [if_pos h]
  dsimp only
  rw [if_neg (n 0 (by decide)), if_neg (n 1 (by decide)), if_neg (n 2 (by decide)), if_neg (n 3 (by decide)), if_neg (n 4 (by decide)), if_neg (n 5 (by decide)), if_neg (n 6 (by decide))]
theorem mIn_pd {σ : Sg} (hP : POk σ) (x : Int32) : mIn x 0 (σ 13 2 - 1) = (!decide (x < 0) && !decide (σ 13 2 ≤ x)) := mIn_n hP.1 (Nat.le_trans hP.2 (by decide))
theorem nI_sub {a b : Nat} (ha : a < 2 ^ 30) (hb : b < 2 ^ 30) : (nI a - nI b).toInt = (a : Int) - b := by
  rw [Int32.toInt_sub, nI_int (by omega), nI_int (by omega)]
  exact Int.bmod_eq_of_le (by omega) (by omega)
theorem ahead_eq {σ : Sg} (hL : LOk σ) (hT : WT σ) (hW : WL σ) {c b : Nat} (hc : c < nCl σ) (hb : b < nCl σ) : sAhead σ c b = decide ((if sLapse σ c - sLapse σ b = 0 then σ 6 c - σ 6 b else sLapse σ c - sLapse σ b) < 0) := by
  obtain ⟨l, _, h1, e1⟩ := hW c hc
  obtain ⟨l', _, h2, e2⟩ := hW b hb
  obtain ⟨j, h3, e3⟩ := hT c hc
  obtain ⟨j', h4, e4⟩ := hT b hb
  have h12 := hL.2
  unfold sAhead
  rw [e1, e2, e3, e4]
  have z0 : (0 : Int32).toInt = 0 := rfl
  have s1 := nI_sub (a := l) (b := l') (by omega) (by omega)
  have s2 := nI_sub (a := j) (b := j') (by omega) (by omega)
  have k1 : nI l < nI l' ↔ l < l' := by rw [Int32.lt_iff_toInt_lt, nI_int (by omega), nI_int (by omega)]; omega
  have k2 : nI l = nI l' ↔ l = l' := by rw [← Int32.toInt_inj, nI_int (by omega), nI_int (by omega)]; omega
  have k3 : nI j' ≤ nI j ↔ j' ≤ j := by rw [Int32.le_iff_toInt_le, nI_int (by omega), nI_int (by omega)]; omega
  have k4 : nI l - nI l' = 0 ↔ l = l' := by rw [← Int32.toInt_inj, s1, z0]; omega
  have k5 : nI l - nI l' < 0 ↔ l < l' := by rw [Int32.lt_iff_toInt_lt, s1, z0]; omega
  have k6 : nI j - nI j' < 0 ↔ j < j' := by rw [Int32.lt_iff_toInt_lt, s2, z0]; omega
  rw [Bool.eq_iff_iff, decide_eq_true_iff]
  by_cases q : l = l'
  · subst q
    rw [if_neg (by rw [k1]; omega), if_pos rfl, if_pos (k4.mpr rfl), k6]
    simp [k3]
  · rw [if_neg (fun h => q (k4.mp h)), k5]
    by_cases q1 : l < l'
    · rw [if_pos (k1.mpr q1)]
      simp [q1]
    · rw [if_neg (fun h => q1 (k1.mp h)), if_neg (fun h => q (k2.mp h))]
      simp [q1]
def mShr (σ : Sg) (x he w : Int32) : Int32 :=
  if sExists (σ 13 0) x = true then (if sHeir he = true then (if mIn w 0 1 = true then (if sOver σ x.toNatClampNeg = true then -5 else mShare σ x.toNatClampNeg he (if w = 0 then cUpTo σ x else cStandTo σ x)) else -2) else -1) else -1
