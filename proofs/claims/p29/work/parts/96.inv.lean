/-! what holds of an office all along -/
def WN (σ : Sg) : Prop := (∃ s, 1 ≤ s ∧ s ≤ 400 ∧ σ 0 0 = nI s) ∧ (∃ l, 1 ≤ l ∧ l ≤ 200 ∧ σ 0 2 = nI l) ∧ (∃ f, f ≤ 50 ∧ σ 0 4 = nI f) ∧ ∃ D, D ≤ 9999 ∧ σ 13 4 = nI D ∧ (∀ j, j < nLo σ → ∃ k, k ≤ D ∧ σ 3 j = nI k) ∧ ∀ c, c < nCl σ → ∃ w, w ≤ D ∧ σ 10 c = nI w
def WV (σ : Sg) : Prop := ∀ j, j < nLo σ → ∃ v, v ≤ 9999 ∧ σ 1 j = nI v
/-- an heir has one claim to a lot that stands, at most -/
def WO (σ : Sg) : Prop := ∀ c b, c < nCl σ → b < nCl σ → sStands σ c = true → sStands σ b = true → σ 5 c = σ 5 b → σ 6 c = σ 6 b → c = b
def JI (σ : Sg) : Prop := LOk σ ∧ GI σ ∧ WS σ ∧ WT σ ∧ WU σ ∧ WN σ ∧ WV σ ∧ WO σ
section JIP
variable {σ : Sg}
theorem JI.lok (h : JI σ) : LOk σ := h.1
theorem JI.gi (h : JI σ) : GI σ := h.2.1
theorem JI.cok (h : JI σ) : COk σ := h.2.1.1
theorem JI.wh (h : JI σ) : WH σ := h.2.1.2.1
theorem JI.wb (h : JI σ) : WB σ := h.2.1.2.2.1
theorem JI.wp (h : JI σ) : WP σ := h.2.1.2.2.2.1
theorem JI.wq (h : JI σ) : WQ σ := h.2.1.2.2.2.2.1
theorem JI.wz (h : JI σ) : WZ σ := h.2.1.2.2.2.2.2
theorem JI.ws (h : JI σ) : WS σ := h.2.2.1
theorem JI.wt (h : JI σ) : WT σ := h.2.2.2.1
theorem JI.wu (h : JI σ) : WU σ := h.2.2.2.2.1
theorem JI.wn (h : JI σ) : WN σ := h.2.2.2.2.2.1
theorem JI.wv (h : JI σ) : WV σ := h.2.2.2.2.2.2.1
theorem JI.wo (h : JI σ) : WO σ := h.2.2.2.2.2.2.2
end JIP
/-- the reference's numbers: the office, and purses -/
def Inv (ζ : Sg) : Prop := JI ζ ∧ W14 ζ
theorem Inv.pur {ζ : Sg} (h : Inv ζ) : Pur ζ ζ := ⟨fun _ _ => rfl, h.2⟩
theorem sg14 {τ σ : Sg} (h : ∀ k, k ≠ 14 → τ k = σ k) : τ = fun k => if k = 14 then τ 14 else σ k := by
  funext k
  by_cases q : k = 14
  · rw [if_pos q, q]
  · rw [if_neg q, h k q]
theorem JI.r14 {τ σ : Sg} (h : ∀ k, k ≠ 14 → τ k = σ k) (hJ : JI σ) : JI τ := by
  rw [sg14 h]
  exact hJ
theorem Pur.inv {τ σ : Sg} (h : Pur τ σ) (hJ : JI σ) : Inv τ := by
  refine ⟨hJ.r14 h.1, fun j hj => (h.2 j hj).trans ?_⟩
  exact (purse_same (h.1 5 (by decide)) (h.1 11 (by decide)) (congrFun (h.1 13 (by decide)) 1) _).symm
theorem JI.to2 {σ τ : Sg} (h : JI σ) (hG : GI τ) (hz : ∀ c, c < nCl σ → sStands τ c = true → sStands σ c = true) (e1 : τ 1 = σ 1) (e5 : τ 5 = σ 5) (e6 : τ 6 = σ 6) (e0 : τ 13 0 = σ 13 0) (ec : τ 13 1 = σ 13 1) (hS : WS τ) (hU : WU τ) (hN : WN τ) : JI τ := by
  have hl := h.lok.to e0
  have hc := h.cok.to ec
  refine ⟨hl.1, hG, hS, ?_, hU, hN, ?_, ?_⟩
  · intro c q
    rw [hc.2] at q
    rw [hl.2, e6]
    exact h.wt c q
  · intro j q
    rw [hl.2] at q
    rw [e1]
    exact h.wv j q
  · intro c b q1 q2 s1 s2 h5 h6
    rw [hc.2] at q1 q2
    rw [e5] at h5
    rw [e6] at h6
    exact h.wo c b q1 q2 (hz c q1 s1) (hz b q2 s2) h5 h6
theorem GI.to {σ τ : Sg} (h : GI σ) (e5 : τ 5 = σ 5) (e11 : τ 11 = σ 11) (e12 : τ 12 = σ 12) (ec : τ 13 1 = σ 13 1) (ep : τ 13 2 = σ 13 2) (hz : ∀ c, c < nCl σ → sStands τ c = true → sStands σ c = true) : GI τ := by
  obtain ⟨hC, hH, hB, hP, hQ, hZ⟩ := h
  have hc := hC.to ec
  have hm : ∀ w, mPd τ w = mPd σ w := by
    intro w
    unfold mPd nPd
    rw [e12, ep]
  refine ⟨hc.1, ?_, ?_, hP.to ep e12, ?_, ?_⟩
  · intro c q
    rw [hc.2] at q
    rw [e5]
    exact hH c q
  · intro c q
    rw [hc.2] at q
    rw [e11]
    exact hB c q
  · intro g hg
    rw [hm, purse_same e5 e11 ec]
    exact hQ g hg
  · intro c q hs
    rw [hc.2] at q
    rw [e11]
    exact hZ c q (hz c q hs)
theorem W14.to {σ τ : Sg} (h : W14 σ) (e5 : τ 5 = σ 5) (e11 : τ 11 = σ 11) (ec : τ 13 1 = σ 13 1) (e14 : τ 14 = σ 14) : W14 τ := by
  intro j hj
  rw [e14, purse_same e5 e11 ec]
  exact h j hj
theorem WN.to {σ τ : Sg} (h : WN σ) (e0 : τ 13 0 = σ 13 0) (ec : τ 13 1 = σ 13 1) (ed : τ 13 4 = σ 13 4) (es : ∀ j, j < 5 → τ 0 j = σ 0 j) (e3 : τ 3 = σ 3) (e10 : ∀ c, τ 10 c = σ 10 c ∨ τ 10 c = 0) : WN τ := by
  obtain ⟨h0, h2, h4, D, hD, hd, hk, hw⟩ := h
  refine ⟨?_, ?_, ?_, D, hD, ed.trans hd, ?_, ?_⟩
  · rw [es 0 (by decide)]
    exact h0
  · rw [es 2 (by decide)]
    exact h2
  · rw [es 4 (by decide)]
    exact h4
  · unfold nLo
    rw [e0, e3]
    exact hk
  · unfold nCl
    rw [ec]
    intro c hc
    rcases e10 c with e | e
    · rw [e]
      exact hw c hc
    · exact ⟨0, Nat.zero_le _, e⟩
theorem WU.to {σ τ : Sg} (h : WU σ) (e0 : τ 13 0 = σ 13 0) (ec : τ 13 1 = σ 13 1) (hl : ∀ j, nLo σ ≤ j → τ 2 j = σ 2 j ∧ τ 3 j = σ 3 j ∧ τ 4 j = σ 4 j) (hc : ∀ c, nCl σ ≤ c → τ 8 c = σ 8 c ∧ τ 9 c = σ 9 c ∧ τ 10 c = σ 10 c ∧ τ 11 c = σ 11 c) : WU τ := by
  have n1 : nLo τ = nLo σ := by unfold nLo; rw [e0]
  have n2 : nCl τ = nCl σ := by unfold nCl; rw [ec]
  refine ⟨fun j h1 h2 => ?_, fun c h1 h2 => ?_⟩
  · rw [n1] at h1
    obtain ⟨a, b, c⟩ := hl j h1
    rw [a, b, c]
    exact h.1 j h1 h2
  · rw [n2] at h1
    obtain ⟨a, b, c', d⟩ := hc c h1
    rw [a, b, c', d]
    exact h.2 c h1 h2
theorem mVal_b {j : Nat} {v : Int32} (hj : j < 5) (h : mVal (nI j) v = true) : ∃ b, v = nI b ∧ (j = 0 → 1 ≤ b ∧ b ≤ 400) ∧ (j = 2 → 1 ≤ b ∧ b ≤ 200) ∧ (j = 4 → b ≤ 50) := by
  rcases (show j = 0 ∨ j = 1 ∨ j = 2 ∨ j = 3 ∨ j = 4 by omega) with rfl | rfl | rfl | rfl | rfl
  · obtain ⟨b, h1, h2, rfl⟩ := mIn_of (x := v) (a := 1) (b := 400) (by decide) h (by decide)
    exact ⟨b, rfl, by omega, by omega, by omega⟩
  · obtain ⟨b, h1, h2, rfl⟩ := mIn_of (x := v) (a := 1) (b := 100) (by decide) h (by decide)
    exact ⟨b, rfl, by omega, by omega, by omega⟩
  · obtain ⟨b, h1, h2, rfl⟩ := mIn_of (x := v) (a := 1) (b := 200) (by decide) h (by decide)
    exact ⟨b, rfl, by omega, by omega, by omega⟩
  · obtain ⟨b, h1, h2, rfl⟩ := mIn_of (x := v) (a := 0) (b := 400) (by decide) h (by decide)
    exact ⟨b, rfl, by omega, by omega, by omega⟩
  · obtain ⟨b, h1, h2, rfl⟩ := mIn_of (x := v) (a := 0) (b := 50) (by decide) h (by decide)
    exact ⟨b, rfl, by omega, by omega, by omega⟩
theorem WN.set {σ : Sg} (h : WN σ) {j : Nat} {v : Int32} (hj : j < 5) (hv : mVal (nI j) v = true) : WN (up2 σ 0 j v) := by
  obtain ⟨b, rfl, b0, b2, b4⟩ := mVal_b hj hv
  obtain ⟨⟨s, s1, s2, h0⟩, ⟨l, l1, l2, h2⟩, ⟨f, f1, h4⟩, D, hD, hd, hk, hw⟩ := h
  refine ⟨?_, ?_, ?_, D, hD, hd, hk, hw⟩
  · by_cases q : 0 = j
    · subst q
      exact ⟨b, (b0 rfl).1, (b0 rfl).2, up2_s _ _ _ _⟩
    · exact ⟨s, s1, s2, (up2_j _ q).trans h0⟩
  · by_cases q : 2 = j
    · subst q
      exact ⟨b, (b2 rfl).1, (b2 rfl).2, up2_s _ _ _ _⟩
    · exact ⟨l, l1, l2, (up2_j _ q).trans h2⟩
  · by_cases q : 4 = j
    · subst q
      exact ⟨b, b4 rfl, up2_s _ _ _ _⟩
    · exact ⟨f, f1, (up2_j _ q).trans h4⟩
theorem Inv.set {ζ : Sg} (h : Inv ζ) {s v : Int32} (hv : mVal s v = true) : Inv (up2 ζ 0 s.toNatClampNeg v) := by
  obtain ⟨j, hj, rfl⟩ := mVal_ok hv
  rw [nI_clamp (by omega)]
  refine ⟨h.1.to2 (h.1.gi.to rfl rfl rfl rfl rfl fun _ _ q => q) (fun _ _ q => q) rfl rfl rfl rfl rfl h.1.ws (h.1.wu.to rfl rfl (fun _ _ => ⟨rfl, rfl, rfl⟩) fun _ _ => ⟨rfl, rfl, rfl, rfl⟩) (h.1.wn.set hj hv), h.2.to rfl rfl rfl rfl⟩
theorem Inv.notice {ζ : Sg} (h : Inv ζ) {x : Int32} (hw : ¬ wNotice ζ x < 0) : Inv (up2 ζ 2 x.toNatClampNeg 1) := by
  obtain ⟨j, hj, rfl⟩ := wNotice_ok h.1.lok hw
  have := h.1.lok.2
  rw [nI_clamp (by omega)]
  refine ⟨h.1.to2 (h.1.gi.to rfl rfl rfl rfl rfl fun _ _ q => q) (fun _ _ q => q) rfl rfl rfl rfl rfl h.1.ws (h.1.wu.to rfl rfl (fun i hi => ⟨up2_j _ (by omega), rfl, rfl⟩) fun _ _ => ⟨rfl, rfl, rfl, rfl⟩) (h.1.wn.to rfl rfl rfl (fun _ _ => rfl) rfl fun _ => Or.inl rfl), h.2.to rfl rfl rfl rfl⟩
theorem Inv.prove {ζ : Sg} (h : Inv ζ) {x p : Int32} (hw : ¬ wProve ζ x p < 0) : Inv (nProve ζ x.toNatClampNeg p) := by
  obtain ⟨j, hj, rfl⟩ := wProve_ok h.1.cok hw
  have := h.1.cok.2
  rw [nI_clamp (by omega)]
  refine ⟨h.1.to2 (h.1.gi.to rfl rfl rfl rfl rfl fun _ _ q => q) (fun _ _ q => q) rfl rfl rfl rfl rfl h.1.ws (h.1.wu.to rfl rfl (fun i hi => ⟨rfl, rfl, rfl⟩) fun c hc => ⟨show up2 (up2 ζ 8 j (nProof ζ j p)) 10 j 0 8 c = ζ 8 c from (up2_k _ (by decide)).trans (up2_j _ (by omega)), rfl, show up2 (up2 ζ 8 j (nProof ζ j p)) 10 j 0 10 c = ζ 10 c from (up2_j _ (by omega)), rfl⟩) (h.1.wn.to rfl rfl rfl (fun _ _ => rfl) rfl fun c => ?_), h.2.to rfl rfl rfl rfl⟩
  by_cases q : c = j
  · subst q
    exact Or.inr (up2_s _ _ _ _)
  · exact Or.inl (up2_j _ q)
theorem Inv.lot {ζ : Sg} (h : Inv ζ) {v : Int32} (hw : ¬ wLot ζ v < 0) : Inv (nLot ζ v) := by
  have hlt := wLot_ok h.1.lok hw
  obtain ⟨b, hb, rfl⟩ : ∃ b, b ≤ 9999 ∧ v = nI b := by
    unfold wLot at hw
    split at hw
    next q =>
      obtain ⟨b, h1, h2, e⟩ := mIn_of (x := v) (a := 1) (b := 9999) (by decide) q (by decide)
      exact ⟨b, h2, e⟩
    · exact absurd (by decide) hw
  have e0 : nLot ζ (nI b) 13 0 = nI (nLo ζ + 1) := by
    unfold nLot
    rw [up2_s, h.1.lok.1]
    exact nI_1 _
  have en : nLo (nLot ζ (nI b)) = nLo ζ + 1 := by
    rw [nLo, e0, nI_clamp (by omega)]
  obtain ⟨w0, w2, w4, D, hD, hd, hk, hwt⟩ := h.1.wn
  have r2 : ∀ j, j ≠ nLo ζ → nLot ζ (nI b) 2 j = ζ 2 j ∧ nLot ζ (nI b) 3 j = ζ 3 j ∧ nLot ζ (nI b) 4 j = ζ 4 j ∧ nLot ζ (nI b) 1 j = ζ 1 j := fun j hj => by
    unfold nLot
    simp [up2c, hj]
  refine ⟨⟨⟨by rw [en, e0], by omega⟩, h.1.gi.to rfl rfl rfl rfl rfl fun _ _ q => q, h.1.ws, fun c hc => ?_, ⟨fun j h1 h2 => ?_, h.1.wu.2⟩, ⟨w0, w2, w4, D, hD, hd, fun j hj => ?_, hwt⟩, fun j hj => ?_, h.1.wo⟩, h.2.to rfl rfl rfl rfl⟩
  · obtain ⟨j, hj, e⟩ := h.1.wt c hc
    exact ⟨j, by omega, e⟩
  · rw [en] at h1
    obtain ⟨q2, q3, q4, _⟩ := r2 j (by omega)
    rw [q2, q3, q4]
    exact h.1.wu.1 j (by omega) h2
  · rw [en] at hj
    by_cases q : j = nLo ζ
    · refine ⟨0, Nat.zero_le _, ?_⟩
      unfold nLot
      simp [up2c, q]
      rfl
    · rw [(r2 j q).2.1]
      exact hk j (by omega)
  · rw [en] at hj
    by_cases q : j = nLo ζ
    · refine ⟨b, hb, ?_⟩
      unfold nLot
      simp [up2c, q]
    · rw [(r2 j q).2.2.2]
      exact h.1.wv j (by omega)
theorem WS.up {σ : Sg} (h : WS σ) (j : Nat) {w : Nat} (hw : w < 6) : WS (up2 σ 9 j (nI w)) := by
  intro c hc
  by_cases q : c = j
  · subst q
    exact ⟨w, hw, up2_s _ _ _ _⟩
  · rw [up2_j _ q]
    exact h c hc
theorem Inv.how {ζ : Sg} (h : Inv ζ) {j w : Nat} (hj : j < nCl ζ) (hw : w < 6) (hs : (nI w = 0 ∨ nI w = 1) → sStands ζ j = true) : Inv (up2 ζ 9 j (nI w)) := by
  have := h.1.cok.2
  have key : ∀ c, c < nCl ζ → sStands (up2 ζ 9 j (nI w)) c = true → sStands ζ c = true := by
    intro c hc q
    by_cases e : c = j
    · subst e
      unfold sStands at q
      rw [up2_s] at q
      simp only [Bool.or_eq_true, decide_eq_true_eq] at q
      exact hs q
    · unfold sStands at *
      rw [up2_j _ e] at q
      exact q
  exact ⟨h.1.to2 (h.1.gi.to rfl rfl rfl rfl rfl key) key rfl rfl rfl rfl rfl (h.1.ws.up j hw) (h.1.wu.to rfl rfl (fun i hi => ⟨rfl, rfl, rfl⟩) fun c hc => ⟨rfl, up2_j _ (by omega), rfl, rfl⟩) (h.1.wn.to rfl rfl rfl (fun _ _ => rfl) rfl fun c => Or.inl rfl), h.2.to rfl rfl rfl rfl⟩
theorem Inv.decide {ζ : Sg} (h : Inv ζ) {x : Int32} (hw : ¬ wDecide ζ x < 0) : Inv (up2 ζ 9 x.toNatClampNeg (nVerd ζ x.toNatClampNeg)) := by
  obtain ⟨j, hj, rfl⟩ := wDecide_ok h.1.cok hw
  have := h.1.cok.2
  have ho : ζ 9 j = 0 := by
    unfold wDecide wOpen at hw
    rw [nI_clamp (by omega)] at hw
    by_cases q : ζ 9 j = 0
    · exact q
    · rw [if_neg q] at hw
      split at hw <;> exact absurd (by decide) hw
  rw [nI_clamp (by omega)]
  have hs : sStands ζ j = true := by
    unfold sStands
    rw [ho]
    rfl
  unfold nVerd
  split
  · exact h.how (w := 2) hj (by decide) fun _ => hs
  · exact h.how (w := 1) hj (by decide) fun _ => hs
theorem Inv.withdraw {ζ : Sg} (h : Inv ζ) {x : Int32} (hw : ¬ wWithdraw ζ x < 0) : Inv (up2 ζ 9 x.toNatClampNeg 3) := by
  obtain ⟨j, hj, rfl⟩ := wWithdraw_ok h.1.cok hw
  have := h.1.cok.2
  rw [nI_clamp (by omega)]
  exact h.how (w := 3) hj (by decide) fun q => absurd q (by decide)
theorem wClaim_ok2 {σ : Sg} (hL : LOk σ) {y x l : Int32} (h : ¬ wClaim σ y x l < 0) : ∃ g j, g < 16 ∧ y = nI g ∧ j < nLo σ ∧ x = nI j := by
  unfold wClaim at h
  split at h
  next q1 =>
    split at h
    next q2 =>
      obtain ⟨g, hg, e1⟩ := sHeir_of q1
      obtain ⟨j, _, hj, e2⟩ := ax_ix_of hL.1 hL.2 (by decide) q2
      exact ⟨g, j, hg, e1, hj, e2⟩
    · exact absurd (by decide) h
  · exact absurd (by decide) h
theorem wClaim_none {σ : Sg} {y x l : Int32} (h : ¬ wClaim σ y x l < 0) : cOfHeir σ y &&& cStandTo σ x = 0 := by
  unfold wClaim at h
  dsimp only at h
  split at h
  · split at h
    · split at h
      · split at h
        · exact absurd (by decide) h
        split at h
        · exact absurd (by decide) h
        split at h
        next q => exact q
        · exact absurd (by decide) h
      · exact absurd (by decide) h
    · exact absurd (by decide) h
  · exact absurd (by decide) h
theorem purse_new {σ τ : Sg} (hC : COk σ) (hn : nCl σ < 30) (hC2 : COk τ) (en : nCl τ = nCl σ + 1) (h5 : ∀ c, c < nCl σ → τ 5 c = σ 5 c) (h11 : ∀ c, τ 11 c = σ 11 c) (h0 : σ 11 (nCl σ) = 0) (w : Int32) : sPurse τ w = sPurse σ w := by
  unfold sPurse
  refine lp_ext _ _ _ fun i _ hi a => ?_
  unfold sSumf
  rw [sHolds_gb _ (by omega), sHolds_gb _ (by omega), gb_cOfHeir hC2 _ (by omega), gb_cOfHeir hC _ (by omega), h11, en]
  by_cases q : i < nCl σ
  · rw [h5 i q, decide_eq_true q, decide_eq_true (show i < nCl σ + 1 by omega)]
  · rw [decide_eq_false q]
    by_cases q2 : i = nCl σ
    · subst q2
      rw [h0, Int32.add_zero]
      simp
    · rw [decide_eq_false (show ¬ i < nCl σ + 1 by omega)]
      simp
theorem Inv.claim {ζ : Sg} (h : Inv ζ) {y x l : Int32} (hw : ¬ wClaim ζ y x l < 0) : Inv (nClaim ζ y x l) := by
  have hlt := wClaim_ok h.1.cok hw
  obtain ⟨g, j, hg, rfl, hj, rfl⟩ := wClaim_ok2 h.1.lok hw
  rw [nClaim_eq h.1.cok hlt h.1.wu]
  obtain ⟨u8, u9, u10, u11⟩ := h.1.wu.2 (nCl ζ) (Nat.le_refl _) hlt
  obtain ⟨w0, w2, w4, D, hD, hd, hk, hwt⟩ := h.1.wn
  generalize hτ : up2 (up2 (up2 (up2 ζ 5 (nCl ζ) (nI g)) 6 (nCl ζ) (nI j)) 7 (nCl ζ) l) 13 1 (ζ 13 1 + 1) = τ
  have e0 : τ 13 1 = nI (nCl ζ + 1) := by
    rw [← hτ, up2_s, h.1.cok.1]
    exact nI_1 _
  have en : nCl τ = nCl ζ + 1 := by
    rw [nCl, e0, nI_clamp (by omega)]
  have hC : COk τ := ⟨by rw [en, e0], by omega⟩
  have r5 : ∀ c, τ 5 c = if c = nCl ζ then nI g else ζ 5 c := fun c => by
    rw [← hτ]
    simp [up2c]
  have r6 : ∀ c, τ 6 c = if c = nCl ζ then nI j else ζ 6 c := fun c => by
    rw [← hτ]
    simp [up2c]
  have r8 : τ 8 = ζ 8 := by
    rw [← hτ]
    rfl
  have r9 : τ 9 = ζ 9 := by
    rw [← hτ]
    rfl
  have r10 : τ 10 = ζ 10 := by
    rw [← hτ]
    rfl
  have r11 : τ 11 = ζ 11 := by
    rw [← hτ]
    rfl
  have r12 : τ 12 = ζ 12 := by
    rw [← hτ]
    rfl
  have r132 : τ 13 2 = ζ 13 2 := by
    rw [← hτ]
    rfl
  have r130 : τ 13 0 = ζ 13 0 := by
    rw [← hτ]
    rfl
  have hl := h.1.lok.to r130
  have hp : ∀ w, sPurse τ w = sPurse ζ w := fun w => purse_new h.1.cok hlt hC en (fun c hc => by rw [r5, if_neg (by omega)]) (fun c => by rw [r11]) u11 w
  have hm : ∀ w, mPd τ w = mPd ζ w := by
    intro w
    unfold mPd nPd
    rw [r12, r132]
  refine ⟨⟨hl.1, ⟨hC, fun c hc => ?_, fun c hc => ?_, h.1.wp.to r132 r12, fun k hk => ?_, fun c hc hs => ?_⟩, fun c hc => ?_, fun c hc => ?_, ⟨?_, fun c h1 h2 => ?_⟩, ⟨?_, ?_, ?_, D, hD, ?_, ?_, fun c hc => ?_⟩, ?_, ?_⟩, fun k hk => ?_⟩
  · rw [en] at hc
    rw [r5]
    by_cases q : c = nCl ζ
    · rw [if_pos q]
      exact ⟨g, hg, rfl⟩
    · rw [if_neg q]
      exact h.1.wh c (by omega)
  · rw [en] at hc
    rw [r11]
    by_cases q : c = nCl ζ
    · rw [q, u11]
      exact ⟨0, by decide, rfl⟩
    · exact h.1.wb c (by omega)
  · rw [hm, hp]
    exact h.1.wq k hk
  · rw [en] at hc
    rw [r11]
    by_cases q : c = nCl ζ
    · rw [q, u11]
    · refine h.1.wz c (by omega) ?_
      unfold sStands at *
      rw [r9] at hs
      exact hs
  · rw [en] at hc
    rw [r9]
    by_cases q : c = nCl ζ
    · rw [q, u9]
      exact ⟨0, by decide, rfl⟩
    · exact h.1.ws c (by omega)
  · rw [en] at hc
    rw [r6, hl.2]
    by_cases q : c = nCl ζ
    · rw [if_pos q]
      exact ⟨j, hj, rfl⟩
    · rw [if_neg q]
      exact h.1.wt c (by omega)
  · rw [hl.2, ← hτ]
    exact h.1.wu.1
  · rw [en] at h1
    rw [r8, r9, r10, r11]
    exact h.1.wu.2 c (by omega) h2
  · rw [← hτ]
    exact w0
  · rw [← hτ]
    exact w2
  · rw [← hτ]
    exact w4
  · rw [← hτ]
    exact hd
  · rw [hl.2, ← hτ]
    exact hk
  · rw [en] at hc
    rw [r10]
    by_cases q : c = nCl ζ
    · rw [q, u10]
      exact ⟨0, Nat.zero_le _, rfl⟩
    · exact hwt c (by omega)
  · unfold WV
    rw [hl.2, ← hτ]
    exact h.1.wv
  · have h0 := wClaim_none hw
    have nw : ∀ c, c < nCl ζ → sStands ζ c = true → ζ 5 c = nI g → ¬ ζ 6 c = nI j := by
      intro c hc hs e5 e6
      have h30 := h.1.cok.2
      have q := congrArg (fun v => gb v c) h0
      simp only [gb_and, gb_0] at q
      rw [gb_cOfHeir h.1.cok _ (by omega), cStandTo_bs h.1.cok, gb_bs _ (by omega) (by omega), decide_eq_true hc, decide_eq_true e5, decide_eq_true e6, hs] at q
      exact absurd q (by decide)
    have st : ∀ c, sStands τ c = sStands ζ c := fun c => by
      unfold sStands
      rw [r9]
    intro c b q1 q2 s1 s2 h5 h6
    rw [en] at q1 q2
    rw [st] at s1 s2
    rw [r5, r5] at h5
    rw [r6, r6] at h6
    by_cases e1 : c = nCl ζ
    · by_cases e2 : b = nCl ζ
      · omega
      · rw [if_pos e1, if_neg e2] at h5 h6
        exact absurd h6.symm (nw b (by omega) s2 h5.symm)
    · by_cases e2 : b = nCl ζ
      · rw [if_neg e1, if_pos e2] at h5 h6
        exact absurd h6 (nw c (by omega) s1 h5)
      · rw [if_neg e1, if_neg e2] at h5 h6
        exact h.1.wo c b (by omega) (by omega) s1 s2 h5 h6
  · rw [hp, ← hτ]
    exact h.2 k hk
