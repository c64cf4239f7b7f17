/-! what is refused -/
def pv (X a b : Int32) : Int32 := if X - X / 2 * 2 = 0 then a else b
theorem pv_or (X a b : Int32) : pv X a b = a ∨ pv X a b = b := by
  unfold pv
  split
  · exact Or.inl rfl
  · exact Or.inr rfl
theorem nI_mod {a b : Nat} (ha : a < 2 ^ 31) (hb : b < 2 ^ 31) : nI a - nI a / nI b * nI b = nI (a % b) := by
  rw [nI_div ha hb, pk_mul, nI_subN (Nat.div_mul_le_self a b), mod_sub]
theorem neg_bad {n : Int32} {m : Nat} (hm : m < 2 ^ 30) : sExists n (-1 - nI m) = false := by
  unfold sExists
  have h1 : (-1 - nI m : Int32).toInt = -1 - (m : Int) := by
    rw [Int32.toInt_sub, nI_int (by omega)]
    have : (-1 : Int32).toInt = -1 := rfl
    rw [this]
    exact Int.bmod_eq_of_le (by omega) (by omega)
  have h2 : (-1 - nI m : Int32) < 0 := by
    rw [Int32.lt_iff_toInt_lt, h1]
    have : (0 : Int32).toInt = 0 := rfl
    omega
  rw [decide_eq_true h2]
  rfl
theorem big_bad {N m : Nat} (hN : N ≤ 30) (hm : m < 2 ^ 20) : sExists (nI N) (nI N + nI m) = false := by
  unfold sExists
  rw [nI_add, decide_eq_true (show nI N ≤ nI (N + m) by rw [nI_leI (by omega) (by omega)]; omega), Bool.not_true, Bool.and_false]
def badL (σ : Sg) (X : Int32) : Int32 := pv X (-1 - (X - X / 99 * 99)) (nI (nLo σ) + (X - X / 99 * 99))
def badC (σ : Sg) (X : Int32) : Int32 := pv X (-1 - (X - X / 99 * 99)) (nI (nCl σ) + (X - X / 99 * 99))
def badH (X : Int32) : Int32 := pv X (-1 - (X - X / 99 * 99)) (16 + (X - X / 99 * 99))
theorem mod99 {X : Int32} {a : Nat} (ha : a < 2 ^ 31) (e : X = nI a) : ∃ m, m < 99 ∧ X - X / 99 * 99 = nI m := by
  subst e
  exact ⟨a % 99, Nat.mod_lt _ (by decide), nI_mod (b := 99) ha (by decide)⟩
theorem badL_no {σ : Sg} (h : QI σ) {X : Int32} {a : Nat} (ha : a < 2 ^ 31) (e : X = nI a) : sExists (σ 13 0) (badL σ X) = false := by
  have := h.2.1.lok.2
  obtain ⟨m, hm, em⟩ := mod99 ha e
  unfold badL
  rw [em]
  rcases pv_or X (-1 - nI m) (nI (nLo σ) + nI m) with q | q
  · rw [q]
    exact neg_bad (by omega)
  · rw [q, h.2.1.lok.1]
    exact big_bad (by omega) (by omega)
theorem badC_no {σ : Sg} (h : QI σ) {X : Int32} {a : Nat} (ha : a < 2 ^ 31) (e : X = nI a) : sExists (σ 13 1) (badC σ X) = false := by
  have := h.2.1.cok.2
  obtain ⟨m, hm, em⟩ := mod99 ha e
  unfold badC
  rw [em]
  rcases pv_or X (-1 - nI m) (nI (nCl σ) + nI m) with q | q
  · rw [q]
    exact neg_bad (by omega)
  · rw [q, h.2.1.cok.1]
    exact big_bad (by omega) (by omega)
theorem badH_no {X : Int32} {a : Nat} (ha : a < 2 ^ 31) (e : X = nI a) : sHeir (badH X) = false := by
  obtain ⟨m, hm, em⟩ := mod99 ha e
  have key : sHeir (badH X) = sExists (nI 16) (badH X) := rfl
  rw [key]
  unfold badH
  rw [em]
  rcases pv_or X (-1 - nI m) (16 + nI m) with q | q
  · rw [q]
    exact neg_bad (by omega)
  · rw [q]
    exact big_bad (N := 16) (by decide) (by omega)
theorem ra_set (σ : Sg) (X : Int32) : oSet σ (pv X (-1) 5) 5 = (-2, σ) ∧ oSet σ 0 (pv X 0 401) = (-2, σ) ∧ oSet σ 1 (pv X 0 101) = (-2, σ) ∧ oSet σ 2 (pv X 0 201) = (-2, σ) ∧ oSet σ 3 (pv X (-1) 401) = (-2, σ) ∧ oSet σ 4 (pv X (-1) 51) = (-2, σ) := by
  refine ⟨?_, ?_, ?_, ?_, ?_, ?_⟩
  · rcases pv_or X (-1) 5 with q | q <;> rw [q] <;> rfl
  · rcases pv_or X 0 401 with q | q <;> rw [q] <;> rfl
  · rcases pv_or X 0 101 with q | q <;> rw [q] <;> rfl
  · rcases pv_or X 0 201 with q | q <;> rw [q] <;> rfl
  · rcases pv_or X (-1) 401 with q | q <;> rw [q] <;> rfl
  · rcases pv_or X (-1) 51 with q | q <;> rw [q] <;> rfl
theorem ra_lot (σ : Sg) (X : Int32) : oLot σ (pv X 0 10000) = (-2, σ) := by
  rcases pv_or X 0 10000 with q | q <;> rw [q] <;> rfl
theorem ra_pass (σ : Sg) (X : Int32) : oPass σ (pv X 0 401) = (-2, σ) := by
  rcases pv_or X 0 401 with q | q <;> rw [q] <;> rfl
section RA
variable {σ : Sg} {x : Int32}
theorem ra_notice (h : sExists (σ 13 0) x = false) : oNotice σ x = (-1, σ) := by
  unfold oNotice
  rw [h]
  rfl
theorem ra_claimL (h : sExists (σ 13 0) x = false) : oClaim σ 0 x 9 = (-1, σ) := by
  unfold oClaim
  rw [h]
  rfl
theorem ra_claimH (h : sHeir x = false) : oClaim σ x 0 9 = (-1, σ) := by
  unfold oClaim
  rw [h]
  rfl
theorem ra_settle (h : sExists (σ 13 0) x = false) : oSettle σ x = (-1, σ) := by
  unfold oSettle
  rw [h]
  rfl
theorem ra_prove (h : sExists (σ 13 1) x = false) : oProve σ x 0 = (-1, σ) := by
  unfold oProve
  rw [h]
  rfl
theorem ra_decide (h : sExists (σ 13 1) x = false) : oDecide σ x = (-1, σ) := by
  unfold oDecide
  rw [h]
  rfl
theorem ra_withdraw (h : sExists (σ 13 1) x = false) : oWithdraw σ x = (-1, σ) := by
  unfold oWithdraw
  rw [h]
  rfl
theorem ra_of (h : sExists (σ 13 0) x = false) : oOf σ x 99 = -1 ∧ oWhy σ x = -1 ∧ oFalls σ x = -1 ∧ oShare σ x 0 9 = -1 := by
  unfold oOf oWhy oFalls oShare
  rw [h]
  exact ⟨rfl, rfl, rfl, rfl⟩
theorem ra_ofC (h : sExists (σ 13 1) x = false) : oOfClaim σ x 99 = -1 := by
  unfold oOfClaim
  rw [h]
  rfl
theorem ra_heir (h : sHeir x = false) : oHeir σ x 9 = -1 := by
  unfold oHeir
  rw [h]
  rfl
theorem ra_claim0 (h : QI σ) (h0 : 0 < nLo σ) (X : Int32) : oClaim σ 0 0 (pv X 0 6) = (-2, σ) := by
  have hx : sExists (σ 13 0) 0 = true := sEx_of h.2.1.lok.1 h0 (by have := h.2.1.lok.2; omega)
  unfold oClaim
  rw [hx]
  rcases pv_or X 0 6 with q | q <;> rw [q] <;> rfl
theorem ra_of0 (h : QI σ) (h0 : 0 < nLo σ) (X : Int32) : oOf σ 0 (pv X (-1) 7) = -2 ∧ oShare σ 0 0 (pv X (-1) 2) = -2 := by
  have hx : sExists (σ 13 0) 0 = true := sEx_of h.2.1.lok.1 h0 (by have := h.2.1.lok.2; omega)
  unfold oOf oShare
  rw [hx]
  refine ⟨?_, ?_⟩
  · rcases pv_or X (-1) 7 with q | q <;> rw [q] <;> rfl
  · rcases pv_or X (-1) 2 with q | q <;> rw [q] <;> rfl
theorem ra_share0 (h : QI σ) (h0 : 0 < nLo σ) (hh : sHeir x = false) : oShare σ 0 x 9 = -1 := by
  have hx : sExists (σ 13 0) 0 = true := sEx_of h.2.1.lok.1 h0 (by have := h.2.1.lok.2; omega)
  unfold oShare
  rw [hx, hh]
  rfl
theorem ra_prove0 (h : QI σ) (h0 : 0 < nCl σ) (X : Int32) : oProve σ 0 (pv X 0 101) = (-2, σ) ∧ oOfClaim σ 0 (pv X (-1) 7) = -2 := by
  have hx : sExists (σ 13 1) 0 = true := sEx_of h.2.1.cok.1 h0 (by have := h.2.1.cok.2; omega)
  unfold oProve oOfClaim
  rw [hx]
  refine ⟨?_, ?_⟩
  · rcases pv_or X 0 101 with q | q <;> rw [q] <;> rfl
  · rcases pv_or X (-1) 7 with q | q <;> rw [q] <;> rfl
theorem ra_misc (X : Int32) : oHeir σ 0 (pv X (-1) 4) = -2 ∧ (∀ n P, xCount σ n P (pv X (-1) 21) = -2) ∧ oNextFall σ (pv X (-1) 2) = -2 ∧ oNextLapse σ (pv X (-1) 2) = -2 ∧ sOk (pv X (-1) 2) = false := by
  refine ⟨?_, fun n P => ?_, ?_, ?_, ?_⟩
  · rcases pv_or X (-1) 4 with q | q <;> rw [q] <;> rfl
  · rcases pv_or X (-1) 21 with q | q <;> rw [q] <;> rfl
  · rcases pv_or X (-1) 2 with q | q <;> rw [q] <;> rfl
  · rcases pv_or X (-1) 2 with q | q <;> rw [q] <;> rfl
  · rcases pv_or X (-1) 2 with q | q <;> rw [q] <;> rfl
theorem ra_with0 (h : QI σ) (h0 : 0 < nCl σ) (h9 : ¬ σ 9 0 < 2) : oWithdraw σ 0 = (-5, σ) := by
  obtain ⟨j, hj, e⟩ := h.2.1.wt 0 h0
  obtain ⟨w, hw, e9⟩ := h.2.1.ws 0 h0
  refine (do_withdraw h (k := 0) h0 e).1 ?_
  cases q : sStands σ 0
  · rfl
  · rw [st_w hw e9] at q
    rw [e9] at h9
    exact absurd (Int32.not_le.mp q) h9
theorem ra_sett0 (h : QI σ) (h0 : 0 < nCl σ) (h9 : σ 9 0 = 0) : oSettle σ (σ 6 0) = (-5, σ) := by
  have l30 := h.2.1.cok.2
  obtain ⟨j, hj, e⟩ := h.2.1.wt 0 h0
  rw [e]
  refine (do_settle h hj).1 fun q => ?_
  have := q.2.1
  rw [cOpenTo_bs h.2.1.cok, bs_eq0 (by omega)] at this
  have := this 0 h0
  rw [decide_eq_true e, decide_eq_true h9] at this
  exact absurd this (by decide)
theorem ra_pass9 (h : QI σ) (h9 : ¬ nI (dN σ) < 9600) : oPass σ 400 = (-5, σ) := by
  have := (num_0 h).2
  rw [show (9600 : Int32) = nI 9600 from rfl, nI_ltI (by omega) (by decide)] at h9
  exact (do_pass h (d := 400) (by decide) (by decide)).1 (by omega)
theorem ra_not0 (h : QI σ) (h0 : 0 < nLo σ) (h2 : ¬ σ 2 0 = 0) : oNotice σ 0 = (-5, σ) := (do_notice h (j := 0) h0).1 h2
theorem ra_pr0 (h : QI σ) (h0 : 0 < nCl σ) (h9 : ¬ σ 9 0 = 0) : oProve σ 0 5 = (-5, σ) ∧ oDecide σ 0 = (-5, σ) := ⟨(do_prove h (k := 0) (p := 5) h0 (by decide) (by decide)).1 h9, (do_decide h (k := 0) h0).1 h9⟩
end RA
def anyB (σ : Sg) : Int32 := if nLo σ = 0 then 0 else 1
theorem anyB_in {σ : Sg} (hL : LOk σ) : (nI (nLo σ) ≤ 0 → (0 : Int32) = anyB σ) ∧ (¬ nI (nLo σ) ≤ 0 → (1 : Int32) = anyB σ) ∧ (¬ anyB σ = 0 → 0 < nLo σ) := by
  have := hL.2
  rw [nI_le0' (by omega)]
  unfold anyB
  refine ⟨fun q => by rw [if_pos q], fun q => by rw [if_neg q], fun q => Nat.pos_of_ne_zero fun e => q (if_pos e)⟩
