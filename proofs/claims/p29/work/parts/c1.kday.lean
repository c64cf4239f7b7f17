/-! a day keeps it; what falls -/
def aN (σ : Sg) (j : Nat) : Nat := if gFa σ j = true then vN σ j else 0
theorem gCo_1 {σ : Sg} {j : Nat} (h : gCo σ j = true) : σ 2 j = 1 := by
  unfold gCo at h
  rw [Bool.and_eq_true, decide_eq_true_eq] at h
  exact h.1
theorem gFa_co {σ : Sg} {j : Nat} (h : gFa σ j = true) : gCo σ j = true := by
  unfold gFa at h
  rw [Bool.and_eq_true] at h
  exact h.1
theorem gcF_lp {σ : Sg} (hV : ∀ j, j < nLo σ → ∃ v, v ≤ 9999 ∧ σ 1 j = nI v) : ∀ n, n ≤ nLo σ → ∀ a, lp (gcF σ) 0 n (nI a) = nI (a + sN (aN σ) n)
  | 0, _, a => rfl
  | n + 1, h, a => by
    rw [lp_last, gcF_lp hV n (by omega), sN_last, Nat.zero_add]
    obtain ⟨v, hv, e⟩ := hV n (by omega)
    unfold gcF aN vN
    split
    · rw [e, nI_add, nI_clamp (by omega), Nat.add_assoc]
    · rfl
theorem KL.v {σ : Sg} (h : KL σ) : ∀ j, j < nLo σ → ∃ v, v ≤ 9999 ∧ σ 1 j = nI v := fun j hj => by
  obtain ⟨⟨v, _, h2, h3⟩, _⟩ := h j hj
  exact ⟨v, h2, h3⟩
theorem KL.val {σ : Sg} (h : KL σ) {j : Nat} (hj : j < nLo σ) : 1 ≤ vN σ j ∧ vN σ j ≤ 9999 ∧ σ 1 j = nI (vN σ j) := by
  obtain ⟨⟨v, h1, h2, h3⟩, _⟩ := h j hj
  have e : vN σ j = v := by
    unfold vN
    rw [h3, nI_clamp (by omega)]
  rw [e]
  exact ⟨h1, h2, h3⟩
theorem KI.tot {σ : Sg} (h : KI σ) (hL : nLo σ ≤ 12) : sN (vN σ) (nLo σ) ≤ 119988 ∧ kN σ ≤ 119988 ∧ sN (bN σ) (nCl σ) ≤ 119988 := by
  have h1 := sN_le (f := vN σ) (b := 9999) (nLo σ) fun j hj => (h.1.val hj).2.1
  obtain ⟨_, s1, _, _⟩ := h.2.2
  have : 9999 * nLo σ ≤ 9999 * 12 := Nat.mul_le_mul_left _ hL
  omega
theorem KI.day {σ : Sg} (h : KI σ) (hJ : JI σ) (hD : dN σ + 1 ≤ 9999) : KI (gNow σ) ∧ kN (gNow σ) = kN σ + sN (aN σ) (nLo σ) := by
  have l12 := hJ.lok.2
  have el : nLo (gNow σ) = nLo σ := (hJ.lok.to (gNow_13 (by decide))).2
  have ec : nCl (gNow σ) = nCl σ := (hJ.cok.to (gNow_13 (by decide))).2
  have hJd : σ 13 4 = nI (dN σ) := by
    obtain ⟨_, _, _, D, hD', hd, _⟩ := hJ.wn
    unfold dN
    rw [hd, nI_clamp (by omega)]
  have ed : dN (gNow σ) = dN σ + 1 := by
    show (gNow σ 13 4).toNatClampNeg = _
    rw [gNow_day, hJd, nI_1, nI_clamp (by omega)]
  have r1 : gNow σ 1 = σ 1 := gNow_r (by decide)
  have r6 : gNow σ 6 = σ 6 := gNow_r (by decide)
  have r7 : gNow σ 7 = σ 7 := gNow_r (by decide)
  have r11 : gNow σ 11 = σ 11 := gNow_r (by decide)
  have ev : ∀ j, vN (gNow σ) j = vN σ j := fun j => by
    unfold vN
    rw [r1]
  have e2 : ∀ j, j < nLo σ → gNow σ 2 j = if gFa σ j = true then 3 else σ 2 j := fun j hj => by
    rw [gNow_2, if_pos hj]
  obtain ⟨s0, s1, s2, s3⟩ := h.2.2
  have hA : sN (wN σ) (nLo σ) = sN (wN (gNow σ)) (nLo σ) + sN (aN σ) (nLo σ) := sN_add _ fun j hj => by
    unfold wN aN
    rw [ev, e2 j hj]
    by_cases q : gFa σ j = true
    · rw [if_pos q, if_pos (Or.inr (gCo_1 (gFa_co q))), if_neg (by decide), if_pos q]
      exact (Nat.zero_add _).symm
    · rw [if_neg q, if_neg q]
      rfl
  have hF : sN (fN (gNow σ)) (nLo σ) = sN (fN σ) (nLo σ) + sN (aN σ) (nLo σ) := sN_add _ fun j hj => by
    unfold fN aN
    rw [ev, e2 j hj]
    by_cases q : gFa σ j = true
    · rw [if_pos q, if_pos rfl, if_neg (by rw [gCo_1 (gFa_co q)]; decide), if_pos q]
      exact (Nat.zero_add _).symm
    · rw [if_neg q, if_neg q]
      rfl
  have hG : sN (gN (gNow σ)) (nLo σ) = sN (gN σ) (nLo σ) := sN_ext _ fun j hj => by
    unfold gN
    rw [ev, e2 j hj]
    by_cases q : gFa σ j = true
    · rw [if_pos q, if_neg (by decide), if_neg (by rw [gCo_1 (gFa_co q)]; decide)]
    · rw [if_neg q]
  have hV : sN (vN (gNow σ)) (nLo σ) = sN (vN σ) (nLo σ) := sN_ext _ fun j _ => ev j
  have hB : sN (bN (gNow σ)) (nCl σ) = sN (bN σ) (nCl σ) := sN_ext _ fun j _ => by
    unfold bN
    rw [r11]
  have t := h.tot l12
  have hk : gNow σ 13 3 = nI (kN σ + sN (aN σ) (nLo σ)) := by
    have e : gNow σ 13 3 = lp (gcF σ) 0 (nLo σ) (σ 13 3) := by
      unfold gNow
      rw [up2_j _ (by decide), gDay_cr]
    rw [e, s0, gcF_lp h.1.v _ (Nat.le_refl _)]
  have ek : kN (gNow σ) = kN σ + sN (aN σ) (nLo σ) := by
    unfold kN at *
    rw [hk, nI_clamp (by omega)]
  refine ⟨⟨fun j hj => ?_, fun c hc => ?_, ?_, ?_, ?_, ?_⟩, ek⟩
  · rw [el] at hj
    obtain ⟨k1, k2, k3, k4, k, k5, k6⟩ := h.1 j hj
    rw [r1, ed, e2 j hj, gNow_3, if_pos hj, gNow_4, if_pos hj]
    refine ⟨k1, ?_, fun q => ?_, fun q1 q2 => ?_, ?_⟩
    · split
      · exact ⟨3, by decide, rfl⟩
      · exact k2
    · by_cases qf : gFa σ j = true
      · rw [if_pos qf] at q
        exact absurd q (by decide)
      · rw [if_neg qf] at q
        rw [if_neg (fun e => by rw [gCo_1 e] at q; exact absurd q (by decide))]
        exact k3 q
    · by_cases qf : gFa σ j = true
      · rw [if_pos qf] at q1
        exact absurd rfl q1
      · rw [if_neg qf] at q1 q2
        rw [if_neg q1]
        exact k4 q1 q2
    · split
      · exact ⟨k + 1, by omega, by rw [k6]; exact nI_1 _⟩
      · exact ⟨k, by omega, k6⟩
  · rw [ec] at hc
    obtain ⟨k1, k2, k3, k4⟩ := h.2.1 c hc
    obtain ⟨i, hi, e6⟩ := hJ.wt c hc
    have el2 : loN σ c = i := by
      unfold loN
      rw [e6, nI_clamp (by omega)]
    have el3 : loN (gNow σ) c = i := by
      unfold loN at *
      rw [r6]
      exact el2
    rw [el2] at k3 k4
    rw [r7, r11, el3, e2 i hi]
    refine ⟨k1, fun q => k2 fun e => q ?_, fun q => ?_, fun q => ?_⟩
    · rw [gNow_9, if_pos hc]
      unfold gS
      rw [e]
      rfl
    · have e5 : σ 9 c = 5 := by
        rw [gNow_9, if_pos hc] at q
        unfold gS at q
        by_cases q0 : σ 9 c = 0
        · rw [if_pos q0] at q
          split at q <;> exact absurd q (by decide)
        · rw [if_neg q0] at q
          exact q
      have := k3 e5
      rw [if_neg]
      · exact this
      · intro qf
        rw [gCo_1 (gFa_co qf)] at this
        exact absurd this (by decide)
    · have qs : sStands σ c = true := by
        unfold sStands at q
        rw [gNow_9, if_pos hc] at q
        exact gSt_st q
      have := k4 qs
      split
      · decide
      · exact this
  · rw [ek]
    exact hk
  · rw [el, ec, ek, hV, hB]
    omega
  · rw [el, ek, hF]
    omega
  · rw [el, ec, hG, hB]
    exact s3
/-! fallen lots: those of before and those that fall -/
theorem gnF_lp {σ : Sg} : ∀ n a, lp (gnF σ) 0 n (nI a) = nI (a + cnt (gFa σ) 0 n)
  | 0, a => rfl
  | n + 1, a => by
    rw [lp_last, gnF_lp n]
    have e : cnt (gFa σ) 0 (n + 1) = cnt (gFa σ) 0 n + (if gFa σ n = true then 1 else 0) := by
      rw [cnt_add]
      unfold cnt
      rw [Nat.zero_add]
      rfl
    rw [e, Nat.zero_add]
    unfold gnF
    split
    · rw [← Nat.add_assoc]
      exact nI_1 _
    · rfl
theorem m14_gNow {σ : Sg} (hJ : JI σ) (g : Nat → Int32) : gNow (m14 g σ) = m14 g (gNow σ) := by
  have h1 := m14_pDay g σ
  rw [pDay_g hJ.cok hJ.wt hJ.lok] at h1
  have h2 := pDay_g (σ := m14 g σ) hJ.cok hJ.wt hJ.lok
  rw [h1] at h2
  exact (Prod.mk.inj h2).1.symm
/-- n days, one after the other -/
theorem pass_K : ∀ (k i : Nat) (σ : Sg) (r : Nat), KI σ → JI σ → WR σ → dN σ + k ≤ 9999 → ∃ τ r', lp pDaysF i k (σ, nI r) = (τ, nI r') ∧ KI τ ∧ JI τ ∧ WR τ ∧ dN τ = dN σ + k ∧ nLo τ = nLo σ ∧ kN σ ≤ kN τ ∧ (∀ j, j < nLo σ → σ 2 j = 3 → τ 2 j = 3) ∧ cnt (fun j => decide (τ 2 j = 3)) 0 (nLo σ) + r = cnt (fun j => decide (σ 2 j = 3)) 0 (nLo σ) + r' ∧ r' ≤ r + 12 * k
  | 0, i, σ, r, hK, hJ, hW, _ => ⟨σ, r, rfl, hK, hJ, hW, rfl, rfl, Nat.le_refl _, fun _ _ q => q, rfl, Nat.le_refl _⟩
  | k + 1, i, σ, r, hK, hJ, hW, hd => by
    have l12 := hJ.lok.2
    have hJd : σ 13 4 = nI (dN σ) := by
      obtain ⟨_, _, _, D, hD', hd, _⟩ := hJ.wn
      unfold dN
      rw [hd, nI_clamp (by omega)]
    obtain ⟨d1, d2⟩ := hK.day hJ (by omega)
    have hP : Inv (m14 (fun j => sPurse σ (nI j)) σ) := Pur.inv (σ := σ) ⟨fun k hk => if_neg hk, fun j _ => rfl⟩ hJ
    have hJ2 : JI (gNow σ) := by
      have h1 := (hP.day (D := dN σ) (by omega) hJd).1
      refine JI.r14 (fun a ha => ?_) h1
      show gNow σ a = gNow (m14 _ σ) a
      rw [m14_gNow hJ]
      exact (if_neg ha).symm
    have hW2 : WR (gNow σ) := hW.to (gNow_r (by decide)) (gNow_r (by decide)) (gNow_13 (by decide))
    have el : nLo (gNow σ) = nLo σ := (hJ.lok.to (gNow_13 (by decide))).2
    have ed : dN (gNow σ) = dN σ + 1 := by
      show (gNow σ 13 4).toNatClampNeg = _
      rw [gNow_day, hJd, nI_1, nI_clamp (by omega)]
    have en : gNum σ = nI (cnt (gFa σ) 0 (nLo σ)) := by
      have := gnF_lp (σ := σ) (nLo σ) 0
      rw [Nat.zero_add] at this
      exact this
    have e1 : pDaysF i (σ, nI r) = (gNow σ, nI (r + cnt (gFa σ) 0 (nLo σ))) := by
      unfold pDaysF
      dsimp only
      rw [pDay_g hJ.cok hJ.wt hJ.lok]
      dsimp only
      rw [en, nI_add]
    rw [lp_s, e1]
    obtain ⟨τ, r', q1, q2, q3, q3w, q4, q5, q6, q7, q8, q9⟩ := pass_K k (i + 1) (gNow σ) (r + cnt (gFa σ) 0 (nLo σ)) d1 hJ2 hW2 (by omega)
    rw [el] at q5 q7 q8
    have e2 : ∀ j, j < nLo σ → gNow σ 2 j = if gFa σ j = true then 3 else σ 2 j := fun j hj => by
      rw [gNow_2, if_pos hj]
    have keep : ∀ j, j < nLo σ → σ 2 j = 3 → gNow σ 2 j = 3 := fun j hj q => by
      rw [e2 j hj]
      split
      · rfl
      · exact q
    have hc := cnt_le (gFa σ) (nLo σ) 0
    have h3 : ∀ n, n ≤ nLo σ → cnt (fun j => decide (gNow σ 2 j = 3)) 0 n = cnt (fun j => decide (σ 2 j = 3)) 0 n + cnt (gFa σ) 0 n := by
      intro n
      induction n with
      | zero => intro _; rfl
      | succ n ih =>
        intro hn
        have s : ∀ p : Nat → Bool, cnt p 0 (n + 1) = cnt p 0 n + (if p n = true then 1 else 0) := fun p => by
          rw [cnt_add]
          unfold cnt
          rw [Nat.zero_add]
          rfl
        rw [s, s, s, ih (by omega), e2 n (by omega)]
        by_cases q : gFa σ n = true
        · rw [if_pos q, if_pos (decide_eq_true rfl), if_neg (by rw [gCo_1 (gFa_co q)]; decide), if_pos q]
          omega
        · rw [if_neg q, if_neg q]
          omega
    refine ⟨τ, r', q1, q2, q3, q3w, by omega, q5, by omega, fun j hj q => q7 j hj (keep j hj q), ?_, by omega⟩
    have := h3 (nLo σ) (Nat.le_refl _)
    omega
