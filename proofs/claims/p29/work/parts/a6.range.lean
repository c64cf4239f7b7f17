/-! settings and proofs in their ranges; answers of changes are no errors -/
def WR (σ : Sg) : Prop := (∀ j, j < 5 → ∃ b, b ≤ 400 ∧ σ 0 j = nI b) ∧ ∀ c, c < nCl σ → ∃ b, b ≤ 100 ∧ σ 8 c = nI b
def InvA (ζ : Sg) : Prop := Inv ζ ∧ WR ζ
theorem WR.to {σ τ : Sg} (h : WR σ) (e0 : τ 0 = σ 0) (e8 : τ 8 = σ 8) (ec : τ 13 1 = σ 13 1) : WR τ := by
  refine ⟨?_, ?_⟩
  · rw [e0]
    exact h.1
  · unfold nCl
    rw [e8, ec]
    exact h.2
theorem nI_ge0 {b : Nat} (h : b < 2 ^ 31) : 0 ≤ nI b := nI_pos' h
theorem mVal_400 {j : Nat} {v : Int32} (hj : j < 5) (h : mVal (nI j) v = true) : ∃ b, b ≤ 400 ∧ v = nI b := by
  have key : ∀ a b, b ≤ 400 → a ≤ b → mIn v (nI a) (nI b) = true → ∃ b, b ≤ 400 ∧ v = nI b := by
    intro a b hb ha q
    obtain ⟨i, _, h2, e⟩ := mIn_of (a := a) (b := b) (by omega) q (by omega)
    exact ⟨i, by omega, e⟩
  rcases (show j = 0 ∨ j = 1 ∨ j = 2 ∨ j = 3 ∨ j = 4 by omega) with rfl | rfl | rfl | rfl | rfl
  · exact key 1 400 (by decide) (by decide) h
  · exact key 1 100 (by decide) (by decide) h
  · exact key 1 200 (by decide) (by decide) h
  · exact key 0 400 (by decide) (by decide) h
  · exact key 0 50 (by decide) (by decide) h
theorem WR.set {ζ : Sg} (h : WR ζ) {s v : Int32} (hv : mVal s v = true) : WR (up2 ζ 0 s.toNatClampNeg v) := by
  obtain ⟨j, hj, rfl⟩ := mVal_ok hv
  obtain ⟨b, hb, rfl⟩ := mVal_400 hj hv
  rw [nI_clamp (by omega)]
  refine ⟨fun i hi => ?_, h.2⟩
  by_cases q : i = j
  · subst q
    exact ⟨b, hb, up2_s _ _ _ _⟩
  · rw [up2_j _ q]
    exact h.1 i hi
theorem nProof_n {ζ : Sg} (h : WR ζ) {j : Nat} {p : Int32} (hj : j < nCl ζ) (hp : mIn p 1 100 = true) : ∃ b, b ≤ 100 ∧ nProof ζ j p = nI b := by
  obtain ⟨b, hb, e⟩ := h.2 j hj
  obtain ⟨i, _, hi, rfl⟩ := mIn_of (a := 1) (b := 100) (by decide) hp (by decide)
  unfold nProof
  rw [e, nI_add]
  split
  next q =>
    rw [show (100 : Int32) = nI 100 from rfl, nI_leI (by omega) (by decide)] at q
    exact ⟨_, q, rfl⟩
  · exact ⟨100, by decide, rfl⟩
theorem wProve_in {σ : Sg} {x p : Int32} (h : ¬ wProve σ x p < 0) : mIn p 1 100 = true := by
  unfold wProve at h
  split at h
  · split at h
    next q => exact q
    · exact absurd (by decide) h
  · exact absurd (by decide) h
theorem WR.prove {ζ : Sg} (hC : COk ζ) (h : WR ζ) {x p : Int32} (hw : ¬ wProve ζ x p < 0) : WR (nProve ζ x.toNatClampNeg p) := by
  obtain ⟨j, hj, rfl⟩ := wProve_ok hC hw
  have := hC.2
  rw [nI_clamp (by omega)]
  refine ⟨h.1, fun c hc => ?_⟩
  show ∃ b, b ≤ 100 ∧ up2 (up2 ζ 8 j (nProof ζ j p)) 10 j 0 8 c = nI b
  rw [up2_k _ (by decide)]
  by_cases q : c = j
  · subst q
    rw [up2_s]
    exact nProof_n h hj (wProve_in hw)
  · rw [up2_j _ q]
    exact h.2 c hc
theorem WR.claim {ζ : Sg} (hI : Inv ζ) (h : WR ζ) {y x l : Int32} (hw : ¬ wClaim ζ y x l < 0) : WR (nClaim ζ y x l) := by
  have hlt := wClaim_ok hI.1.cok hw
  rw [nClaim_eq hI.1.cok hlt hI.1.wu]
  obtain ⟨u8, _⟩ := hI.1.wu.2 (nCl ζ) (Nat.le_refl _) hlt
  generalize hτ : up2 (up2 (up2 (up2 ζ 5 (nCl ζ) y) 6 (nCl ζ) x) 7 (nCl ζ) l) 13 1 (ζ 13 1 + 1) = τ
  have e0 : τ 13 1 = nI (nCl ζ + 1) := by
    rw [← hτ, up2_s, hI.1.cok.1]
    exact nI_1 _
  have en : nCl τ = nCl ζ + 1 := by
    rw [nCl, e0, nI_clamp (by omega)]
  refine ⟨?_, fun c hc => ?_⟩
  · rw [← hτ]
    exact h.1
  · rw [en] at hc
    have r8 : τ 8 = ζ 8 := by
      rw [← hτ]
      rfl
    rw [r8]
    by_cases q : c = nCl ζ
    · rw [q, u8]
      exact ⟨0, by decide, rfl⟩
    · exact h.2 c (by omega)
theorem mPay_r (τ : Sg) (c : Nat) (x : Int32) : (∀ k, k < 11 → mPay τ c x k = τ k) ∧ ∀ b, b ≠ 2 → mPay τ c x 13 b = τ 13 b := by
  unfold mPay
  split
  · refine ⟨fun k hk => ?_, fun b hb => ?_⟩
    · funext b
      rw [up2_k _ (by omega), up2_k _ (by omega)]
    · rw [up2_k _ (by omega), up2_k _ (by omega)]
  split
  · refine ⟨fun k hk => ?_, fun b hb => ?_⟩
    · funext b
      rw [up2_k _ (by omega), up2_k _ (by omega)]
    · rw [up2_k _ (by omega), up2_k _ (by omega)]
  · refine ⟨fun k hk => ?_, fun b hb => ?_⟩
    · funext b
      rw [up2_k _ (by omega), up2_k _ (by omega), up2_k _ (by omega), up2_k _ (by omega)]
    · rw [up2_j _ hb, up2_k _ (by omega), up2_k _ (by omega), up2_k _ (by omega)]
theorem mSetL_r (up near all : Int32) : ∀ (k i : Nat) (τ : Sg), (∀ a, a < 9 → lp (mSetF up near all) i k τ a = τ a) ∧ ∀ b, b ≠ 2 → lp (mSetF up near all) i k τ 13 b = τ 13 b
  | 0, i, τ => ⟨fun _ _ => rfl, fun _ _ => rfl⟩
  | k + 1, i, τ => by
    rw [lp_s]
    obtain ⟨h1, h2⟩ := mSetL_r up near all k (i + 1) (mSetF up near all i τ)
    have key : (∀ a, a < 9 → mSetF up near all i τ a = τ a) ∧ ∀ b, b ≠ 2 → mSetF up near all i τ 13 b = τ 13 b := by
      unfold mSetF
      obtain ⟨p1, p2⟩ := mPay_r τ i (mPart all near i)
      refine ⟨fun a ha => ?_, fun b hb => ?_⟩
      · funext b
        rw [up2_k _ (by omega)]
        split
        · rw [p1 a (by omega)]
        · rfl
      · rw [up2_k _ (by omega)]
        split
        · exact p2 b hb
        · rfl
    exact ⟨fun a ha => (h1 a ha).trans (key.1 a ha), fun b hb => (h2 b hb).trans (key.2 b hb)⟩
theorem WR.settle {ζ : Sg} (h : WR ζ) (j : Nat) : WR (mSettle ζ j) := by
  obtain ⟨h1, h2⟩ := mSetL_r (cUpTo ζ (nI j)) (mNear ζ (cUpTo ζ (nI j))) (sCoins ζ j) (nCl ζ) 0 ζ
  unfold mSettle
  dsimp only
  split
  · refine h.to ?_ ?_ ?_
    · funext b
      rw [up2_k _ (by decide), up2_k _ (by decide), h1 0 (by decide)]
    · funext b
      rw [up2_k _ (by decide), up2_k _ (by decide), h1 8 (by decide)]
    · rw [up2_k _ (by decide), up2_j _ (by decide), h2 1 (by decide)]
  · refine h.to ?_ ?_ ?_
    · funext b
      rw [up2_k _ (by decide), h1 0 (by decide)]
    · funext b
      rw [up2_k _ (by decide), h1 8 (by decide)]
    · rw [up2_k _ (by decide), h2 1 (by decide)]
theorem gNum_n {σ : Sg} (hL : LOk σ) : ∃ b, b ≤ 12 ∧ gNum σ = nI b := by
  have e := lp_cntf (f := gnF σ) (p := gFa σ) (fun _ _ => rfl) (nLo σ) 0 0
  have h1 := cnt_le (gFa σ) (nLo σ) 0
  have h2 := hL.2
  exact ⟨0 + cnt (gFa σ) 0 (nLo σ), by omega, e⟩
theorem pass_loopA : ∀ (k i D a : Nat) (ζ : Sg), InvA ζ → ζ 13 4 = nI D → D + k ≤ 9999 → WR (lp mPassF i k (ζ, nI a)).1 ∧ ∃ b, b ≤ a + 12 * k ∧ (lp mPassF i k (ζ, nI a)).2 = nI b
  | 0, i, D, a, ζ, h, _, _ => ⟨h.2, a, by omega, rfl⟩
  | k + 1, i, D, a, ζ, h, hd, hk => by
    rw [lp_s]
    obtain ⟨b, hb, e⟩ := gNum_n h.1.1.lok
    have e1 : mPassF i (ζ, nI a) = (gNow ζ, nI (a + b)) := by
      unfold mPassF
      dsimp only
      rw [mDayNow_g h.1.1.cok h.1.1.wt h.1.1.lok]
      dsimp only
      rw [e, nI_add]
    rw [e1]
    obtain ⟨r1, c, r2, r3⟩ := pass_loopA k (i + 1) (D + 1) (a + b) (gNow ζ) ⟨h.1.day (by omega) hd, h.2.to (gNow_r (by decide)) (gNow_r (by decide)) (gNow_13 (by decide))⟩ (by rw [gNow_day, hd]; exact nI_1 _) (by omega)
    exact ⟨r1, c, by omega, r3⟩
theorem pass_A {ζ : Sg} (h : InvA ζ) {v : Int32} (hw : ¬ wPass ζ v < 0) : WR (lp mPassF 0 v.toNatClampNeg (ζ, 0)).1 ∧ ∃ b, b ≤ 4800 ∧ (lp mPassF 0 v.toNatClampNeg (ζ, 0)).2 = nI b := by
  obtain ⟨N, h1, h2, rfl⟩ := wPass_ok hw
  have h3 := wPass_day hw
  obtain ⟨_, _, _, D, hD, hd, _⟩ := h.1.1.wn
  rw [hd, nI_add, show (9999 : Int32) = nI 9999 from rfl, nI_leI (by omega) (by decide)] at h3
  rw [nI_clamp (by omega)]
  obtain ⟨r1, b, r2, r3⟩ := pass_loopA N 0 D 0 ζ h hd h3
  exact ⟨r1, b, by omega, r3⟩
theorem mSize_n (s : Int32) : ∃ b, b ≤ 30 ∧ mSize s = nI b := ⟨_, cnt_le (gb s) 30 0, mSize_cnt s⟩
