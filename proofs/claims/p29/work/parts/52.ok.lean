/-! what stays so: the counts are in their ranges -/
def Ok3 (σ : Sg) : Prop := LOk σ ∧ COk σ ∧ POk σ
theorem Ok3.to {σ σ' : Sg} (h : Ok3 σ) (e : ∀ b, b < 3 → σ' 13 b = σ 13 b) : Ok3 σ' := ⟨(h.1.to (e 0 (by decide))).1, (h.2.1.to (e 1 (by decide))).1, (h.2.2.to (e 2 (by decide))).1⟩
theorem ok_set {σ : Sg} (h : Ok3 σ) (s v : Int32) : Ok3 (oSet σ s v).2 := by
  unfold oSet
  split; · exact h
  split
  · dsimp only
    split; · exact h
    split
    · exact h.to fun b _ => by simp [up2]
    · exact h
  · exact h
theorem ok_lot {σ : Sg} (h : Ok3 σ) (v : Int32) : Ok3 (oLot σ v).2 := by
  unfold oLot
  split; · exact h
  split
  · split
    next q =>
      have hlt := cnt_lt (M := 12) h.1.1 h.1.2 (by decide) q
      have e0 : up2 (up2 σ 1 (nLo σ) v) 13 0 (σ 13 0 + 1) 13 0 = nI (nLo σ + 1) := by
        rw [up2_s, h.1.1]
        exact nI_1 _
      refine ⟨?_, (h.2.1.to ?_).1, (h.2.2.to ?_).1⟩
      · unfold LOk nLo at *
        dsimp only
        rw [e0, nI_clamp (by omega)]
        exact ⟨rfl, by omega⟩
      · simp [up2]
      · simp [up2]
    · exact h
  · exact h
theorem ok_notice {σ : Sg} (h : Ok3 σ) (x : Int32) : Ok3 (oNotice σ x).2 := by
  unfold oNotice
  split
  · dsimp only
    split
    · exact h.to fun b _ => by simp [up2]
    · exact h
  · exact h
theorem ok_claim {σ : Sg} (h : Ok3 σ) (he x ln : Int32) : Ok3 (oClaim σ he x ln).2 := by
  unfold oClaim
  split <;> try exact h
  split <;> try exact h
  dsimp only
  split <;> try exact h
  split <;> try exact h
  split <;> try exact h
  split <;> try exact h
  split <;> try exact h
  next q =>
    have hlt := cnt_lt (M := 30) h.2.1.1 h.2.1.2 (by decide) q
    have k3 : ∀ b, up2 (up2 (up2 σ 5 (nCl σ) he) 6 (nCl σ) x) 7 (nCl σ) ln 13 b = σ 13 b := fun b => (up2_k (k := 7) (a := 13) _ (by decide)).trans ((up2_k (k := 6) (a := 13) _ (by decide)).trans (up2_k (k := 5) (a := 13) _ (by decide)))
    have e0 : up2 (up2 (up2 (up2 σ 5 (nCl σ) he) 6 (nCl σ) x) 7 (nCl σ) ln) 13 1 (σ 13 1 + 1) 13 1 = nI (nCl σ + 1) := by
      rw [up2_s, h.2.1.1]
      exact nI_1 _
    refine ⟨(h.1.to ?_).1, ?_, (h.2.2.to ?_).1⟩
    · simp [up2]
    · unfold COk nCl at *
      dsimp only
      rw [e0, nI_clamp (by omega)]
      exact ⟨rfl, by omega⟩
    · simp [up2]
theorem ok_prove {σ : Sg} (h : Ok3 σ) (x p : Int32) : Ok3 (oProve σ x p).2 := by
  unfold oProve
  split <;> try exact h
  dsimp only
  split <;> try exact h
  split <;> try exact h
  split <;> try exact h
theorem ok_decide {σ : Sg} (h : Ok3 σ) (x : Int32) : Ok3 (oDecide σ x).2 := by
  unfold oDecide
  split <;> try exact h
  dsimp only
  split <;> try exact h
theorem ok_withdraw {σ : Sg} (h : Ok3 σ) (x : Int32) : Ok3 (oWithdraw σ x).2 := by
  unfold oWithdraw
  split <;> try exact h
  dsimp only
  split <;> try exact h
theorem ok_leave {σ : Sg} (h : Ok3 σ) (j : Nat) (c : Int32) : Ok3 (sLeave σ j c) := by
  unfold sLeave
  split
  · exact h.to fun b hb => (up2_k (a := 13) (k := 2) _ (by decide)).trans (up2_j (k := 13) (j := 3) (b := b) _ (by omega))
  · exact h.to fun b _ => up2_k (a := 13) (k := 2) _ (by decide)
theorem ok_share {σ : Sg} (h : Ok3 σ) (up cs sh : Int32) (c : Nat) : Ok3 (shareF up cs sh c σ) := by
  unfold shareF
  split
  · have k := sSettleC_keep σ c (sPart cs sh (bit c)) h.2.2
    exact ⟨(h.1.to k.1).1, (h.2.1.to k.2.1).1, k.2.2⟩
  · exact h
theorem ok_settle {σ : Sg} (h : Ok3 σ) (x : Int32) : Ok3 (oSettle σ x).2 := by
  unfold oSettle
  split <;> try exact h
  dsimp only
  split <;> try exact h
  exact ok_leave (lp_inv (f := shareF (cUpTo σ x) (sCoins σ x.toNatClampNeg) (cNearest σ (cUpTo σ x))) Ok3 (fun i a q => ok_share q _ _ _ i) _ 0 σ h) _ _
theorem ok_pass {σ : Sg} (h : Ok3 σ) (n : Int32) : Ok3 (oPass σ n).2 := by
  unfold oPass
  split <;> try exact h
  split <;> try exact h
  split <;> try exact h
  exact lp_inv (f := pDaysF) (fun q : Sg × Int32 => Ok3 q.1) (fun i q k => k.to fun b hb => pDay13 q.1 b hb) n.toNatClampNeg 0 (σ, 0) h
/-- an order of the pad -/
def oOrder (σ : Sg) (P : PD) : Int32 × Sg :=
  let a := P.2.2.2.1
  if nI P.2.2.1 = 99 then oClaim σ a P.2.2.2.2.1 P.2.2.2.2.2 else if nI P.2.2.1 = 100 then oDecide σ a else if nI P.2.2.1 = 108 then oLot σ a else if nI P.2.2.1 = 110 then oNotice σ a
  else if nI P.2.2.1 = 112 then oProve σ a P.2.2.2.2.1 else if nI P.2.2.1 = 115 then oSettle σ a else if nI P.2.2.1 = 119 then oWithdraw σ a else oPass σ a
theorem ok_order {σ : Sg} (h : Ok3 σ) (P : PD) : Ok3 (oOrder σ P).2 := by
  unfold oOrder
  dsimp only
  split; · exact ok_claim h _ _ _
  split; · exact ok_decide h _
  split; · exact ok_lot h _
  split; · exact ok_notice h _
  split; · exact ok_prove h _ _
  split; · exact ok_settle h _
  split; · exact ok_withdraw h _
  exact ok_pass h _
/-- the orders of the pad, one after the other: how many, the office, the reader -/
def cof (T : Nat → Nat) : Nat → Nat → Sg → PD → Nat × Sg × PD
  | 0, n, σ, P => (n, σ, P)
  | k + 1, n, σ, P => if (rdO T P).1 = false then (n, σ, (rdO T P).2) else if (oOrder σ (rdO T P).2).1 < 0 then (n, (oOrder σ (rdO T P).2).2, (rdO T P).2) else
      cof T k (n + 1) (oOrder σ (rdO T P).2).2 (rdS T 59 (rdO T P).2).2
def xCount (σ : Sg) (n : Nat) (P : PD) (w : Int32) : Int32 := if w = 19 then nI P.1 else if w = 20 then nI n else oNumber σ w
