/-! the class's words do not look at row 14 -/
def m14 (g : Nat → Int32) (σ : Sg) : Sg := fun k => if k = 14 then g else σ k
theorem m14_up {g : Nat → Int32} {σ : Sg} {K j : Nat} (v : Int32) (hK : K ≠ 14) : up2 (m14 g σ) K j v = m14 g (up2 σ K j v) := by
  funext a b
  unfold m14
  by_cases q : a = 14
  · subst q
    rw [up2_k _ (fun e => hK e.symm), if_pos rfl, if_pos rfl]
  · rw [if_neg q]
    unfold up2
    by_cases q2 : a = K ∧ b = j
    · rw [if_pos q2, if_pos q2]
    · rw [if_neg q2, if_neg q2]
      exact congrFun (if_neg q) b
section M14
variable (g : Nat → Int32) (σ : Sg)
theorem m14_set (s v : Int32) : oSet (m14 g σ) s v = ((oSet σ s v).1, m14 g (oSet σ s v).2) := by
  unfold oSet
  split
  · rfl
  split
  · dsimp only
    split
    · rfl
    · split
      · rw [m14_up _ (by decide)]
        rfl
      · rfl
  · rfl
theorem m14_lot (v : Int32) : oLot (m14 g σ) v = ((oLot σ v).1, m14 g (oLot σ v).2) := by
  unfold oLot
  have e : m14 g σ 13 0 = σ 13 0 := rfl
  have n : nLo (m14 g σ) = nLo σ := rfl
  rw [e, n]
  split
  · rfl
  split
  · split
    · rw [m14_up _ (by decide), m14_up _ (by decide)]
    · rfl
  · rfl
theorem m14_notice (x : Int32) : oNotice (m14 g σ) x = ((oNotice σ x).1, m14 g (oNotice σ x).2) := by
  unfold oNotice
  have e : m14 g σ 13 0 = σ 13 0 := rfl
  have e2 : m14 g σ 2 x.toNatClampNeg = σ 2 x.toNatClampNeg := rfl
  rw [e]
  dsimp only
  rw [e2, m14_up _ (by decide)]
  split
  · split
    · rfl
    · rfl
  · rfl
theorem m14_claim (he x ln : Int32) : oClaim (m14 g σ) he x ln = ((oClaim σ he x ln).1, m14 g (oClaim σ he x ln).2) := by
  unfold oClaim
  have e : m14 g σ 13 0 = σ 13 0 := rfl
  have e1 : m14 g σ 13 1 = σ 13 1 := rfl
  have e2 : sCanClaim (m14 g σ) x.toNatClampNeg = sCanClaim σ x.toNatClampNeg := rfl
  have e3 : cOfHeir (m14 g σ) he = cOfHeir σ he := rfl
  have e4 : cStandTo (m14 g σ) x = cStandTo σ x := rfl
  have n : nCl (m14 g σ) = nCl σ := rfl
  dsimp only
  rw [e, e1, e2, e3, e4, n, m14_up _ (by decide), m14_up _ (by decide), m14_up _ (by decide), m14_up _ (by decide)]
  split
  · split
    · split
      · rfl
      split
      · split
        · split
          · split
            · rfl
            · rfl
          · rfl
        · rfl
      · rfl
    · rfl
  · rfl
theorem m14_prove (x p : Int32) : oProve (m14 g σ) x p = ((oProve σ x p).1, m14 g (oProve σ x p).2) := by
  unfold oProve
  have e1 : m14 g σ 13 1 = σ 13 1 := rfl
  have e2 : sOpen (m14 g σ) x.toNatClampNeg = sOpen σ x.toNatClampNeg := rfl
  have e3 : m14 g σ 8 x.toNatClampNeg = σ 8 x.toNatClampNeg := rfl
  dsimp only
  rw [e1, e2, e3, m14_up _ (by decide), m14_up _ (by decide)]
  split
  · split
    · rfl
    split
    · split
      · rfl
      · rfl
    · rfl
  · rfl
theorem m14_decide (x : Int32) : oDecide (m14 g σ) x = ((oDecide σ x).1, m14 g (oDecide σ x).2) := by
  unfold oDecide
  have e1 : m14 g σ 13 1 = σ 13 1 := rfl
  have e2 : sOpen (m14 g σ) x.toNatClampNeg = sOpen σ x.toNatClampNeg := rfl
  have e3 : m14 g σ 8 x.toNatClampNeg = σ 8 x.toNatClampNeg := rfl
  have e4 : m14 g σ 0 1 = σ 0 1 := rfl
  dsimp only
  rw [e1, e2, e3, e4, m14_up _ (by decide)]
  split
  · split
    · rfl
    · rfl
  · rfl
theorem m14_withdraw (x : Int32) : oWithdraw (m14 g σ) x = ((oWithdraw σ x).1, m14 g (oWithdraw σ x).2) := by
  unfold oWithdraw
  have e1 : m14 g σ 13 1 = σ 13 1 := rfl
  have e2 : sStands (m14 g σ) x.toNatClampNeg = sStands σ x.toNatClampNeg := rfl
  have e3 : m14 g σ 6 x.toNatClampNeg = σ 6 x.toNatClampNeg := rfl
  dsimp only
  rw [e1, e2, e3, m14_up _ (by decide)]
  split
  · split
    · rfl
    · rfl
  · rfl
theorem m14_pay (c : Nat) (p : Int32) : sPayO (m14 g σ) c p = m14 g (sPayO σ c p) := by
  unfold sPayO
  have e1 : m14 g σ 13 2 = σ 13 2 := rfl
  have e2 : sPurse (m14 g σ) (m14 g σ 5 c) = sPurse σ (σ 5 c) := rfl
  have e3 : m14 g σ 5 c = σ 5 c := rfl
  have n : nPd (m14 g σ) = nPd σ := rfl
  rw [e2, e1, e3, n, m14_up _ (by decide), m14_up _ (by decide)]
  split
  · rfl
  split
  · split
    · rfl
    · rfl
  · rfl
theorem m14_setC (c : Nat) (p : Int32) : sSettleC (m14 g σ) c p = m14 g (sSettleC σ c p) := by
  unfold sSettleC
  rw [m14_pay, m14_up _ (by decide), m14_up _ (by decide)]
end M14
theorem m14_lp {g : Nat → Int32} {f : Nat → Sg → Sg} (h : ∀ c τ, f c (m14 g τ) = m14 g (f c τ)) : ∀ (k i : Nat) (σ : Sg), lp f i k (m14 g σ) = m14 g (lp f i k σ)
  | 0, _, _ => rfl
  | k + 1, i, σ => by
    rw [lp_s, lp_s, h, m14_lp h k]
theorem m14_lp2 {g : Nat → Int32} {f : Nat → Sg × Int32 → Sg × Int32} (h : ∀ c τ a, f c (m14 g τ, a) = (m14 g (f c (τ, a)).1, (f c (τ, a)).2)) : ∀ (k i : Nat) (σ : Sg) (a : Int32), lp f i k (m14 g σ, a) = (m14 g (lp f i k (σ, a)).1, (lp f i k (σ, a)).2)
  | 0, _, _, _ => rfl
  | k + 1, i, σ, a => by
    rw [lp_s, lp_s, h, m14_lp2 h k]
section M14
variable (g : Nat → Int32) (σ : Sg)
theorem m14_settle (x : Int32) : oSettle (m14 g σ) x = ((oSettle σ x).1, m14 g (oSettle σ x).2) := by
  unfold oSettle
  have e1 : m14 g σ 13 0 = σ 13 0 := rfl
  have e2 : cUpTo (m14 g σ) x = cUpTo σ x := rfl
  have e3 : sOver (m14 g σ) x.toNatClampNeg = sOver σ x.toNatClampNeg := rfl
  have e4 : cOpenTo (m14 g σ) x = cOpenTo σ x := rfl
  have e5 : sCoins (m14 g σ) x.toNatClampNeg = sCoins σ x.toNatClampNeg := rfl
  have e6 : cNearest (m14 g σ) (cUpTo σ x) = cNearest σ (cUpTo σ x) := rfl
  have n : nCl (m14 g σ) = nCl σ := rfl
  have hs : ∀ c τ, shareF (cUpTo σ x) (sCoins σ x.toNatClampNeg) (cNearest σ (cUpTo σ x)) c (m14 g τ) = m14 g (shareF (cUpTo σ x) (sCoins σ x.toNatClampNeg) (cNearest σ (cUpTo σ x)) c τ) := by
    intro c τ
    unfold shareF
    split
    · exact m14_setC g τ c _
    · rfl
  dsimp only
  rw [e1, e2, e3, e4, e5, e6, n, m14_lp hs]
  split
  · split
    · have key : ∀ τ : Sg, ∀ j p, sLeave (m14 g τ) j p = m14 g (sLeave τ j p) := by
        intro τ j p
        unfold sLeave
        have e7 : m14 g τ 2 j = τ 2 j := rfl
        have e8 : m14 g τ 13 3 = τ 13 3 := rfl
        rw [e7, e8, m14_up _ (by decide), m14_up _ (by decide), m14_up _ (by decide)]
        split <;> rfl
      rw [key]
    · rfl
  · rfl
theorem m14_wDayF (l : Int32) (c : Nat) (τ : Sg) (a : Int32) : wDayF l c (m14 g τ, a) = (m14 g (wDayF l c (τ, a)).1, (wDayF l c (τ, a)).2) := by
  unfold wDayF
  dsimp only
  have e1 : sOpen (m14 g τ) c = sOpen τ c := rfl
  have e2 : wLong (m14 g τ) c l = m14 g (wLong τ c l) := by
    unfold wLong
    have e3 : m14 g τ 10 c = τ 10 c := rfl
    rw [e3, m14_up _ (by decide), m14_up _ (by decide)]
    split <;> rfl
  rw [e1, e2]
  split
  · rfl
  · rfl
theorem m14_pDayF (cl : Int32) (j : Nat) (τ : Sg) (a : Int32) : pDayF cl j (m14 g τ, a) = (m14 g (pDayF cl j (τ, a)).1, (pDayF cl j (τ, a)).2) := by
  unfold pDayF
  dsimp only
  have e1 : m14 g τ 2 j = τ 2 j := rfl
  have e2 : m14 g τ 4 j = τ 4 j := rfl
  have e3 : sCount (m14 g τ) j = ((sCount τ j).1, m14 g (sCount τ j).2) := by
    unfold sCount
    have q1 : m14 g τ 3 j = τ 3 j := rfl
    have q2 : m14 g τ 13 3 = τ 13 3 := rfl
    have q3 : m14 g τ 1 j = τ 1 j := rfl
    dsimp only
    rw [q1, q2, q3, m14_up _ (by decide), m14_up _ (by decide), m14_up _ (by decide)]
    have q4 : m14 g (up2 τ 3 j (τ 3 j + 1)) 0 0 = up2 τ 3 j (τ 3 j + 1) 0 0 := rfl
    have q5 : m14 g (up2 τ 3 j (τ 3 j + 1)) 3 j = up2 τ 3 j (τ 3 j + 1) 3 j := rfl
    rw [q4, q5]
    split <;> rfl
  simp only [e1, e2, e3]
  rw [m14_up _ (by decide)]
  split
  · rfl
  split
  · split <;> rfl
  · rfl
theorem m14_pDay : pDay (m14 g σ) = (m14 g (pDay σ).1, (pDay σ).2) := by
  unfold pDay
  have e1 : wDay (m14 g σ) (m14 g σ 0 2) = (m14 g (wDay σ (σ 0 2)).1, (wDay σ (σ 0 2)).2) := by
    unfold wDay
    have e0 : m14 g σ 0 2 = σ 0 2 := rfl
    have n : nCl (m14 g σ) = nCl σ := rfl
    rw [e0, n]
    exact m14_lp2 (fun c τ a => m14_wDayF g _ c τ a) _ _ _ _
  rw [e1]
  dsimp only
  have n : ∀ τ, nLo (m14 g τ) = nLo τ := fun _ => rfl
  rw [n, m14_lp2 (fun c τ a => m14_pDayF g _ c τ a)]
  dsimp only
  rw [m14_up _ (by decide)]
  rfl
theorem m14_pass (v : Int32) : oPass (m14 g σ) v = ((oPass σ v).1, m14 g (oPass σ v).2) := by
  unfold oPass
  have e1 : m14 g σ 13 4 = σ 13 4 := rfl
  have hs : ∀ (c : Nat) (τ : Sg) (a : Int32), pDaysF c (m14 g τ, a) = (m14 g (pDaysF c (τ, a)).1, (pDaysF c (τ, a)).2) := by
    intro c τ a
    unfold pDaysF
    dsimp only
    rw [m14_pDay]
  dsimp only
  rw [e1, m14_lp2 hs]
  split
  · rfl
  split
  · split <;> rfl
  · rfl
end M14
/-- the rows that an office has -/
def E14 (τ σ : Sg) : Prop := ∀ k, k ≠ 14 → τ k = σ k
theorem E14.of (g : Nat → Int32) (σ : Sg) : E14 (m14 g σ) σ := fun k hk => if_neg hk
theorem E14.sy {τ σ : Sg} (h : E14 τ σ) : E14 σ τ := fun k hk => (h k hk).symm
theorem E14.tr {τ σ ρ : Sg} (h : E14 τ σ) (h2 : E14 σ ρ) : E14 τ ρ := fun k hk => (h k hk).trans (h2 k hk)
/-- a change, by its error: what the class does, what the reference does -/
def Chg (ζ : Sg) (w a : Int32) (n : Sg) (q : Int32 × Sg) : Prop := (w < 0 → q = (w, ζ)) ∧ (¬ w < 0 → q.1 = a ∧ E14 n q.2 ∧ InvA n ∧ 0 ≤ a)
theorem Chg.of {ζ : Sg} {w a : Int32} {n : Sg} {q : Int32 × Sg} (he : q = if w < 0 then (w, ζ) else (a, n)) (hI : ¬ w < 0 → InvA n ∧ 0 ≤ a) : Chg ζ w a n q := by
  constructor
  · intro h
    rw [he, if_pos h]
  · intro h
    rw [he, if_neg h]
    exact ⟨rfl, fun _ _ => rfl, (hI h).1, (hI h).2⟩
section CHG
variable {ζ : Sg}
theorem chg_lot (h : InvA ζ) (v : Int32) : Chg ζ (wLot ζ v) (ζ 13 0) (nLot ζ v) (oLot ζ v) := by
  have l12 := h.1.1.lok.2
  refine Chg.of (eq_lot h.1.1.lok h.1.1.wu v) fun hw => ⟨⟨h.1.lot hw, h.2.to rfl rfl rfl⟩, ?_⟩
  rw [h.1.1.lok.1]
  exact nI_ge0 (by omega)
theorem chg_notice (h : InvA ζ) (x : Int32) : Chg ζ (wNotice ζ x) (mSize (lIn (up2 ζ 2 x.toNatClampNeg 1) 1)) (up2 ζ 2 x.toNatClampNeg 1) (oNotice ζ x) := by
  refine Chg.of (eq_notice h.1.1.lok x) fun hw => ⟨⟨h.1.notice hw, h.2.to rfl rfl rfl⟩, ?_⟩
  obtain ⟨b, hb, e⟩ := mSize_n (lIn (up2 ζ 2 x.toNatClampNeg 1) 1)
  rw [e]
  exact nI_ge0 (by omega)
theorem chg_claim (h : InvA ζ) (y x l : Int32) : Chg ζ (wClaim ζ y x l) (ζ 13 1) (nClaim ζ y x l) (oClaim ζ y x l) := by
  have l30 := h.1.1.cok.2
  refine Chg.of (eq_claim h.1.1.cok h.1.1.wu y x l) fun hw => ⟨⟨h.1.claim hw, WR.claim h.1 h.2 hw⟩, ?_⟩
  rw [h.1.1.cok.1]
  exact nI_ge0 (by omega)
theorem chg_prove (h : InvA ζ) (x p : Int32) : Chg ζ (wProve ζ x p) (nProof ζ x.toNatClampNeg p) (nProve ζ x.toNatClampNeg p) (oProve ζ x p) := by
  have l30 := h.1.1.cok.2
  refine Chg.of (eq_prove x p) fun hw => ⟨⟨h.1.prove hw, WR.prove h.1.1.cok h.2 hw⟩, ?_⟩
  obtain ⟨j, hj, rfl⟩ := wProve_ok h.1.1.cok hw
  rw [nI_clamp (by omega)]
  obtain ⟨b, hb, e⟩ := nProof_n h.2 hj (wProve_in hw)
  rw [e]
  exact nI_ge0 (by omega)
theorem chg_decide (h : InvA ζ) (x : Int32) : Chg ζ (wDecide ζ x) (nVerd ζ x.toNatClampNeg) (up2 ζ 9 x.toNatClampNeg (nVerd ζ x.toNatClampNeg)) (oDecide ζ x) := by
  refine Chg.of (eq_decide x) fun hw => ⟨⟨h.1.decide hw, h.2.to rfl rfl rfl⟩, ?_⟩
  unfold nVerd
  split <;> decide
theorem chg_withdraw (h : InvA ζ) (x : Int32) : Chg ζ (wWithdraw ζ x) (mSize (cStandTo (up2 ζ 9 x.toNatClampNeg 3) (ζ 6 x.toNatClampNeg))) (up2 ζ 9 x.toNatClampNeg 3) (oWithdraw ζ x) := by
  refine Chg.of (eq_withdraw h.1.1.cok x) fun hw => ⟨⟨h.1.withdraw hw, h.2.to rfl rfl rfl⟩, ?_⟩
  obtain ⟨b, hb, e⟩ := mSize_n (cStandTo (up2 ζ 9 x.toNatClampNeg 3) (ζ 6 x.toNatClampNeg))
  rw [e]
  exact nI_ge0 (by omega)
theorem chg_settle (h : InvA ζ) (x : Int32) : Chg ζ (wSettle ζ x) (mSize (mNear ζ (cUpTo ζ x))) (mSettle ζ x.toNatClampNeg) (oSettle ζ x) := by
  obtain ⟨h1, h2⟩ := eq_settle h.1 x
  refine ⟨h1, fun hw => ?_⟩
  obtain ⟨a1, a2, a3⟩ := h2 hw
  refine ⟨a1, a2.1, ⟨a3, h.2.settle _⟩, ?_⟩
  obtain ⟨b, hb, e⟩ := mSize_n (mNear ζ (cUpTo ζ x))
  rw [e]
  exact nI_ge0 (by omega)
theorem chg_pass (h : InvA ζ) (v : Int32) : Chg ζ (wPass ζ v) (lp mPassF 0 v.toNatClampNeg (ζ, 0)).2 (lp mPassF 0 v.toNatClampNeg (ζ, 0)).1 (oPass ζ v) := by
  obtain ⟨h1, h2⟩ := eq_pass h.1 v
  refine ⟨h1, fun hw => ?_⟩
  obtain ⟨a1, a2⟩ := h2 hw
  obtain ⟨r1, b, hb, e⟩ := pass_A h hw
  rw [a1]
  refine ⟨rfl, fun _ _ => rfl, ⟨a2, r1⟩, ?_⟩
  rw [e]
  exact nI_ge0 (by omega)
end CHG
