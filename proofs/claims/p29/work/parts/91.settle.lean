/-! settling: the reference's purses beside the class's sums -/
/-- the reference's numbers stand for the class's office -/
def Pur (τ σ : Sg) : Prop := (∀ k, k ≠ 14 → τ k = σ k) ∧ ∀ j, j < 16 → τ 14 j = sPurse σ (nI j)
theorem purse_up {σ : Sg} (hC : COk σ) {g c : Nat} (hc : c < nCl σ) (v : Int32) (h : ¬ σ 5 c = nI g) : sPurse (up2 σ 11 c v) (nI g) = sPurse σ (nI g) := by
  unfold sPurse
  refine lp_ext _ _ _ fun i _ hi a => ?_
  unfold sSumf
  have e : cOfHeir (up2 σ 11 c v) (nI g) = cOfHeir σ (nI g) := rfl
  rw [e]
  by_cases q : sHolds (cOfHeir σ (nI g)) (nI i) = true
  · rw [if_pos q, if_pos q]
    have hne : i ≠ c := by
      rintro rfl
      rw [sHolds_gb _ (by omega), gb_cOfHeir hC _ (by omega), Bool.and_eq_true, decide_eq_true_iff, decide_eq_true_iff] at q
      exact h q.2
    rw [up2_j v hne]
  · rw [if_neg q, if_neg q]
theorem lp_sum1 (f : Nat → Int32) (p : Nat → Bool) : ∀ (k i : Nat) (a b : Int32), lp (fun i a => if p i = true then a + f i else a) i k (a + b) = lp (fun i a => if p i = true then a + f i else a) i k a + b
  | 0, _, _, _ => rfl
  | k + 1, i, a, b => by
    rw [lp_s, lp_s]
    by_cases q : p i = true
    · rw [if_pos q, if_pos q, ← lp_sum1 f p k (i + 1), Int32.add_assoc, Int32.add_comm b, ← Int32.add_assoc]
    · rw [if_neg q, if_neg q, lp_sum1 f p k (i + 1)]
theorem lp_put (f : Nat → Int32) (p : Nat → Bool) (v : Int32) {c : Nat} (hp : p c = true) (h0 : f c = 0) : ∀ (k i : Nat) (a : Int32), i ≤ c → c < i + k → lp (fun i a => if p i = true then a + upd f c v i else a) i k a = lp (fun i a => if p i = true then a + f i else a) i k a + v
  | 0, i, a, h1, h2 => absurd h2 (by omega)
  | k + 1, i, a, h1, h2 => by
    rw [lp_s, lp_s]
    by_cases q : i = c
    · subst q
      rw [if_pos hp, if_pos hp]
      have e1 : upd f i v i = v := if_pos rfl
      rw [e1, h0, Int32.add_zero, ← lp_sum1 f p k (i + 1)]
      refine lp_ext _ _ _ fun j h3 _ b => ?_
      have e2 : upd f i v j = f j := if_neg (by omega)
      rw [e2]
    · have e2 : upd f c v i = f i := if_neg q
      rw [e2, lp_put f p v hp h0 k (i + 1) _ (by omega) (by omega)]
theorem purse_put {σ : Sg} (hC : COk σ) {g c : Nat} (hc : c < nCl σ) (v : Int32) (h5 : σ 5 c = nI g) (h0 : σ 11 c = 0) : sPurse (up2 σ 11 c v) (nI g) = sPurse σ (nI g) + v := by
  have h30 := hC.2
  have key := lp_put (σ 11) (fun i => sHolds (cOfHeir σ (nI g)) (nI i)) v (c := c) (by
    rw [sHolds_gb _ (by omega), gb_cOfHeir hC _ (by omega), decide_eq_true hc, decide_eq_true h5]
    rfl) h0 30 0 0 (Nat.zero_le _) (by omega)
  unfold sPurse
  refine Eq.trans ?_ key
  refine lp_ext _ _ _ fun i _ _ a => ?_
  unfold sSumf
  rw [up2_upd]
  rfl
