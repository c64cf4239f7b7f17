/-! days pass alike, and what holds stays -/
theorem gNow_r {σ : Sg} {a : Nat} (h : a ≠ 2 ∧ a ≠ 3 ∧ a ≠ 4 ∧ a ≠ 9 ∧ a ≠ 10 ∧ a ≠ 13) : gNow σ a = σ a := by
  funext b
  unfold gNow
  rw [up2_k _ h.2.2.2.2.2]
  unfold gDay
  simp [h.1, h.2.1, h.2.2.1, h.2.2.2.1, h.2.2.2.2.1, h.2.2.2.2.2]
theorem gNow_13 {σ : Sg} {b : Nat} (h : b < 3) : gNow σ 13 b = σ 13 b := by
  unfold gNow
  rw [up2_j _ (by omega)]
  unfold gDay
  simp [show ¬ b = 3 by omega]
theorem gNow_day {σ : Sg} : gNow σ 13 4 = σ 13 4 + 1 := by
  unfold gNow
  rw [up2_s]
theorem gNow_9 {σ : Sg} (c : Nat) : gNow σ 9 c = if c < nCl σ then gS σ c else σ 9 c := by
  unfold gNow
  rw [up2_k _ (by decide), gDay_9]
  simp
theorem gNow_10 {σ : Sg} (c : Nat) : gNow σ 10 c = if c < nCl σ then gW σ c else σ 10 c := by
  unfold gNow
  rw [up2_k _ (by decide), gDay_10]
  simp
theorem gNow_2 {σ : Sg} (j : Nat) : gNow σ 2 j = if j < nLo σ then (if gFa σ j = true then 3 else σ 2 j) else σ 2 j := by
  unfold gNow
  rw [up2_k _ (by decide), gDay_2]
  simp
theorem gNow_3 {σ : Sg} (j : Nat) : gNow σ 3 j = if j < nLo σ then (if gCo σ j = true then σ 3 j + 1 else σ 3 j) else σ 3 j := by
  unfold gNow
  rw [up2_k _ (by decide), gDay_3]
  simp
theorem gNow_4 {σ : Sg} (j : Nat) : gNow σ 4 j = if j < nLo σ then (if σ 2 j = 3 then σ 4 j + 1 else σ 4 j) else σ 4 j := by
  unfold gNow
  rw [up2_k _ (by decide), gDay_4]
  simp
theorem gSt_st {σ : Sg} {c : Nat} (h : gSt σ c = true) : sStands σ c = true := by
  unfold gSt gS at h
  unfold sStands
  by_cases q : σ 9 c = 0
  · rw [decide_eq_true q]
    rfl
  · rw [if_neg q] at h
    exact h
theorem Inv.day {ζ : Sg} (h : Inv ζ) {D : Nat} (hD : D + 1 ≤ 9999) (hd : ζ 13 4 = nI D) : Inv (gNow ζ) := by
  have hz : ∀ c, c < nCl ζ → sStands (gNow ζ) c = true → sStands ζ c = true := by
    intro c hc q
    unfold sStands at q
    rw [gNow_9, if_pos hc] at q
    exact gSt_st q
  have n1 : nCl (gNow ζ) = nCl ζ := (h.1.cok.to (gNow_13 (by decide))).2
  have n0 : nLo (gNow ζ) = nLo ζ := (h.1.lok.to (gNow_13 (by decide))).2
  refine ⟨h.1.to2 (h.1.gi.to (gNow_r (by decide)) (gNow_r (by decide)) (gNow_r (by decide)) (gNow_13 (by decide)) (gNow_13 (by decide)) hz) hz (gNow_r (by decide)) (gNow_r (by decide)) (gNow_r (by decide)) (gNow_13 (by decide)) (gNow_13 (by decide)) ?_ (h.1.wu.to (gNow_13 (by decide)) (gNow_13 (by decide)) (fun j hj => ?_) fun c hc => ?_) ?_, h.2.to (gNow_r (by decide)) (gNow_r (by decide)) (gNow_13 (by decide)) (gNow_r (by decide))⟩
  · intro c hc
    rw [n1] at hc
    rw [gNow_9, if_pos hc]
    unfold gS
    split
    · split
      · exact ⟨0, by decide, rfl⟩
      · exact ⟨4, by decide, rfl⟩
    · exact h.1.ws c hc
  · rw [gNow_2, gNow_3, gNow_4, if_neg (by omega), if_neg (by omega), if_neg (by omega)]
    exact ⟨rfl, rfl, rfl⟩
  · rw [gNow_9, gNow_10, if_neg (by omega), if_neg (by omega), gNow_r (by decide), gNow_r (by decide)]
    exact ⟨rfl, rfl, rfl, rfl⟩
  · obtain ⟨w0, w2, w4, D', hD', hd', hk, hw⟩ := h.1.wn
    have eD : D' = D := by
      rw [hd] at hd'
      exact (nI_inj2 (by omega) (by omega) hd').symm
    subst eD
    refine ⟨by rw [gNow_r (by decide)]; exact w0, by rw [gNow_r (by decide)]; exact w2, by rw [gNow_r (by decide)]; exact w4, D' + 1, hD, ?_, fun j hj => ?_, fun c hc => ?_⟩
    · rw [gNow_day, hd]
      exact nI_1 _
    · rw [n0] at hj
      rw [gNow_3, if_pos hj]
      obtain ⟨k, k1, k2⟩ := hk j hj
      split
      · exact ⟨k + 1, by omega, by rw [k2]; exact nI_1 _⟩
      · exact ⟨k, by omega, k2⟩
    · rw [n1] at hc
      rw [gNow_10, if_pos hc]
      obtain ⟨k, k1, k2⟩ := hw c hc
      unfold gW
      split
      · exact ⟨k + 1, by omega, by rw [k2]; exact nI_1 _⟩
      · exact ⟨k, by omega, k2⟩
theorem pass_loop : ∀ (k i D : Nat) (ζ : Sg) (r : Int32), Inv ζ → ζ 13 4 = nI D → D + k ≤ 9999 → lp mPassF i k (ζ, r) = lp pDaysF i k (ζ, r) ∧ Inv (lp mPassF i k (ζ, r)).1
  | 0, i, D, ζ, r, h, _, _ => ⟨rfl, h⟩
  | k + 1, i, D, ζ, r, h, hd, hk => by
    rw [lp_s, lp_s]
    have e1 : mPassF i (ζ, r) = (gNow ζ, r + gNum ζ) := by
      unfold mPassF
      dsimp only
      rw [mDayNow_g h.1.cok h.1.wt h.1.lok]
    have e2 : pDaysF i (ζ, r) = (gNow ζ, r + gNum ζ) := by
      unfold pDaysF
      dsimp only
      rw [pDay_g h.1.cok h.1.wt h.1.lok]
    rw [e1, e2]
    exact pass_loop k (i + 1) (D + 1) (gNow ζ) _ (h.day (by omega) hd) (by rw [gNow_day, hd]; exact nI_1 _) (by omega)
theorem wPass_day {σ : Sg} {v : Int32} (h : ¬ wPass σ v < 0) : σ 13 4 + v ≤ 9999 := by
  unfold wPass at h
  split at h
  · split at h
    next q => exact q
    · exact absurd (by decide) h
  · exact absurd (by decide) h
theorem eq_pass {ζ : Sg} (h : Inv ζ) (v : Int32) : (wPass ζ v < 0 → oPass ζ v = (wPass ζ v, ζ)) ∧ (¬ wPass ζ v < 0 → oPass ζ v = ((lp mPassF 0 v.toNatClampNeg (ζ, 0)).2, (lp mPassF 0 v.toNatClampNeg (ζ, 0)).1) ∧ Inv (lp mPassF 0 v.toNatClampNeg (ζ, 0)).1) := by
  constructor
  · intro hw
    unfold oPass
    unfold wPass at *
    rw [mIn_if] at hw ⊢
    by_cases q1 : v < 1
    · rw [if_pos q1, if_pos q1]
    · rw [if_neg q1] at hw ⊢
      rw [if_neg q1]
      by_cases q2 : v ≤ 400
      · rw [if_pos q2] at hw ⊢
        rw [if_pos q2]
        by_cases q3 : ζ 13 4 + v ≤ 9999
        · rw [if_pos q3] at hw
          exact absurd hw (by decide)
        · rw [if_neg q3, if_neg q3]
      · rw [if_neg q2, if_neg q2]
  · intro hw
    obtain ⟨N, h1, h2, rfl⟩ := wPass_ok hw
    have h3 := wPass_day hw
    obtain ⟨_, _, _, D, hD, hd, _⟩ := h.1.wn
    have h3' := h3
    rw [hd, nI_add, show (9999 : Int32) = nI 9999 from rfl, nI_leI (by omega) (by decide)] at h3'
    rw [nI_clamp (by omega)]
    obtain ⟨e, hI⟩ := pass_loop N 0 D ζ 0 h hd h3'
    refine ⟨?_, hI⟩
    unfold oPass
    rw [if_neg (fun q => by rw [show (1 : Int32) = nI 1 from rfl, nI_ltI (by omega) (by decide)] at q; omega), if_pos (by rw [show (400 : Int32) = nI 400 from rfl, nI_leI (by omega) (by decide)]; exact h2), if_pos h3, nI_clamp (by omega)]
    dsimp only
    rw [e]
/-- an order of a text keeps what holds -/
theorem Inv.settle {ζ : Sg} (h : Inv ζ) {x : Int32} (hw : ¬ wSettle ζ x < 0) : Inv (mSettle ζ x.toNatClampNeg) := ((eq_settle h x).2 hw).2.2
