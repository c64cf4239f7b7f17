/-! what a change is to answer -/
theorem dm {y b c : Nat} (hy : y < 2 ^ 31) (hb : b < 2 ^ 31) (hc : c < 2 ^ 31) : nI y / nI b - nI y / nI b / nI c * nI c = nI (y / b % c) := by
  rw [nI_div hy hb]
  exact nI_mod (Nat.lt_of_le_of_lt (Nat.div_le_self _ _) hy) hc
theorem m3 {y : Nat} (hy : y < 2 ^ 31) : nI y - nI y / 3 * 3 = 0 ↔ y % 3 = 0 := by
  have e : nI y - nI y / 3 * 3 = nI (y % 3) := nI_mod (b := 3) hy (by decide)
  rw [e]
  constructor
  · intro q
    exact nI_inj2 (b := 0) (by omega) (by decide) q
  · intro q
    rw [q]
    rfl
def lotV (y : Nat) : Nat := if y % 3 = 0 then 1 + y / 3 % 9999 else 1 + y / 3 % 20
theorem lotV_in {y : Nat} (hy : y < 2 ^ 31) : (¬ nI y - nI y / 3 * 3 = 0 → 1 + (nI y / 3 - nI y / 3 / 20 * 20) = nI (lotV y)) ∧ (nI y - nI y / 3 * 3 = 0 → 1 + (nI y / 3 - nI y / 3 / 9999 * 9999) = nI (lotV y)) ∧ 1 ≤ lotV y ∧ lotV y ≤ 9999 := by
  have a1 : nI y / 3 - nI y / 3 / 20 * 20 = nI (y / 3 % 20) := dm (b := 3) (c := 20) hy (by decide) (by decide)
  have a2 : nI y / 3 - nI y / 3 / 9999 * 9999 = nI (y / 3 % 9999) := dm (b := 3) (c := 9999) hy (by decide) (by decide)
  rw [m3 hy, a1, a2, show (1 : Int32) = nI 1 from rfl, nI_add, nI_add]
  unfold lotV
  refine ⟨fun q => by rw [if_neg q], fun q => by rw [if_pos q], ?_, ?_⟩
  · split <;> omega
  · split <;> omega
def passV (y : Nat) : Nat := if y % 3 = 0 then 1 + y / 3 % 100 else 1 + y / 3 % 12
theorem passV_in {y : Nat} (hy : y < 2 ^ 31) : (¬ nI y - nI y / 3 * 3 = 0 → 1 + (nI y / 3 - nI y / 3 / 12 * 12) = nI (passV y)) ∧ (nI y - nI y / 3 * 3 = 0 → 1 + (nI y / 3 - nI y / 3 / 100 * 100) = nI (passV y)) ∧ 1 ≤ passV y ∧ passV y ≤ 400 := by
  have a1 : nI y / 3 - nI y / 3 / 12 * 12 = nI (y / 3 % 12) := dm (b := 3) (c := 12) hy (by decide) (by decide)
  have a2 : nI y / 3 - nI y / 3 / 100 * 100 = nI (y / 3 % 100) := dm (b := 3) (c := 100) hy (by decide) (by decide)
  rw [m3 hy, a1, a2, show (1 : Int32) = nI 1 from rfl, nI_add, nI_add]
  unfold passV
  refine ⟨fun q => by rw [if_neg q], fun q => by rw [if_pos q], ?_, ?_⟩
  · split <;> omega
  · split <;> omega
theorem clV_in {y : Nat} (hy : y < 2 ^ 31) : nI y / 12 - nI y / 12 / 16 * 16 = nI (y / 12 % 16) ∧ 1 + (nI y / 192 - nI y / 192 / 5 * 5) = nI (1 + y / 192 % 5) ∧ 1 + (nI y / 30 - nI y / 30 / 100 * 100) = nI (1 + y / 30 % 100) := by
  have a1 : nI y / 12 - nI y / 12 / 16 * 16 = nI (y / 12 % 16) := dm (b := 12) (c := 16) hy (by decide) (by decide)
  have a2 : nI y / 192 - nI y / 192 / 5 * 5 = nI (y / 192 % 5) := dm (b := 192) (c := 5) hy (by decide) (by decide)
  have a3 : nI y / 30 - nI y / 30 / 100 * 100 = nI (y / 30 % 100) := dm (b := 30) (c := 100) hy (by decide) (by decide)
  rw [a1, a2, a3, show (1 : Int32) = nI 1 from rfl, nI_add, nI_add]
  exact ⟨rfl, rfl, rfl⟩
/-- the settings' new values -/
def setV (w z : Nat) : Nat := if w = 0 then 1 + z % 60 else if w = 1 then 1 + z % 100 else if w = 2 then 1 + z % 50 else if w = 3 then z % 40 else z % 51
theorem m5 {w : Nat} (hw : w < 5) (k : Nat) (hk : k < 5) : nI w = nI k ↔ w = k := ⟨fun q => nI_inj2 (by omega) (by omega) q, fun q => by rw [q]⟩
theorem setV_in {w z : Nat} (hw : w < 5) (hz : z < 2 ^ 31) : (nI w = 0 → 1 + (nI z - nI z / 60 * 60) = nI (setV w z)) ∧ (nI w = 1 → 1 + (nI z - nI z / 100 * 100) = nI (setV w z)) ∧ (nI w = 2 → 1 + (nI z - nI z / 50 * 50) = nI (setV w z)) ∧ (nI w = 3 → nI z - nI z / 40 * 40 = nI (setV w z)) ∧ (¬ nI w = 0 → ¬ nI w = 1 → ¬ nI w = 2 → ¬ nI w = 3 → nI z - nI z / 51 * 51 = nI (setV w z)) ∧ mVal (nI w) (nI (setV w z)) = true ∧ ∀ σ n P, xCount σ n P (14 + nI w) = σ 0 w := by
  have a1 : nI z - nI z / 60 * 60 = nI (z % 60) := nI_mod (b := 60) hz (by decide)
  have a2 : nI z - nI z / 100 * 100 = nI (z % 100) := nI_mod (b := 100) hz (by decide)
  have a3 : nI z - nI z / 50 * 50 = nI (z % 50) := nI_mod (b := 50) hz (by decide)
  have a4 : nI z - nI z / 40 * 40 = nI (z % 40) := nI_mod (b := 40) hz (by decide)
  have a5 : nI z - nI z / 51 * 51 = nI (z % 51) := nI_mod (b := 51) hz (by decide)
  rw [a1, a2, a3, a4, a5, show (1 : Int32) = nI 1 from rfl, nI_add, nI_add, nI_add]
  have vin : ∀ (v a b : Nat), a ≤ v → v ≤ b → b < 1000 → mIn (nI v) (nI a) (nI b) = true := fun v a b h1 h2 h3 => by
    unfold mIn
    rw [decide_eq_false (by rw [nI_ltI (by omega) (by omega)]; omega), decide_eq_false (by rw [nI_ltI (by omega) (by omega)]; omega)]
    rfl
  rcases (show w = 0 ∨ w = 1 ∨ w = 2 ∨ w = 3 ∨ w = 4 by omega) with rfl | rfl | rfl | rfl | rfl
  · exact ⟨fun _ => rfl, fun q => absurd q (by decide), fun q => absurd q (by decide), fun q => absurd q (by decide), fun q => absurd rfl q, vin _ 1 400 (by show 1 ≤ 1 + z % 60; omega) (by show 1 + z % 60 ≤ 400; omega) (by decide), fun _ _ _ => rfl⟩
  · exact ⟨fun q => absurd q (by decide), fun _ => rfl, fun q => absurd q (by decide), fun q => absurd q (by decide), fun _ q => absurd rfl q, vin _ 1 100 (by show 1 ≤ 1 + z % 100; omega) (by show 1 + z % 100 ≤ 100; omega) (by decide), fun _ _ _ => rfl⟩
  · exact ⟨fun q => absurd q (by decide), fun q => absurd q (by decide), fun _ => rfl, fun q => absurd q (by decide), fun _ _ q => absurd rfl q, vin _ 1 200 (by show 1 ≤ 1 + z % 50; omega) (by show 1 + z % 50 ≤ 200; omega) (by decide), fun _ _ _ => rfl⟩
  · exact ⟨fun q => absurd q (by decide), fun q => absurd q (by decide), fun q => absurd q (by decide), fun _ => rfl, fun _ _ _ q => absurd rfl q, vin _ 0 400 (by omega) (by show z % 40 ≤ 400; omega) (by decide), fun _ _ _ => rfl⟩
  · exact ⟨fun q => absurd q (by decide), fun q => absurd q (by decide), fun q => absurd q (by decide), fun q => absurd q (by decide), fun _ _ _ _ => rfl, vin _ 0 50 (by omega) (by show z % 51 ≤ 50; omega) (by decide), fun _ _ _ => rfl⟩
/-- which lot, which claim -/
def pick (m y : Nat) : Nat := if m = 0 then 0 else y % m
theorem pick_in {m y : Nat} (hm : m < 2 ^ 30) (hy : y < 2 ^ 31) : (nI m = 0 → (0 : Int32) = nI (pick m y)) ∧ (¬ nI m = 0 → nI y - nI y / nI m * nI m = nI (pick m y)) ∧ (¬ nI m = 0 → pick m y < m) ∧ (¬ nI m = 0 ↔ 0 < m) := by
  have z : nI m = 0 ↔ m = 0 := ⟨fun e => nI_inj2 (b := 0) (by omega) (by decide) e, fun e => by rw [e]; rfl⟩
  rw [z]
  unfold pick
  refine ⟨fun q => by rw [if_pos q]; rfl, fun q => ?_, fun q => ?_, by omega⟩
  · rw [if_neg q]
    exact nI_mod hy (by omega)
  · rw [if_neg q]
    exact Nat.mod_lt _ (by omega)
/-- all that stand are upheld -/
def cvS (σ : Sg) (A : Int32) (k : Nat) (a : Int32) : Int32 := if a = 0 then 0 else if A >>> (nI k &&& 31) &&& 1 = 0 then 1 else if σ 9 k = 1 then 1 else 0
theorem cv_iff (σ : Sg) (A : Int32) (v : Int32) : ∀ n, n ≤ 32 → (¬ lp (cvS σ A) 0 n v = 0 ↔ ¬ v = 0 ∧ ∀ i, i < n → gb A i = true → σ 9 i = 1)
  | 0, _ => ⟨fun q => ⟨q, fun i hi => absurd hi (by omega)⟩, fun q => q.1⟩
  | n + 1, hn => by
    have ih := cv_iff σ A v n (by omega)
    rw [lp_last, Nat.zero_add]
    generalize lp (cvS σ A) 0 n v = a at ih
    have hs : ¬ cvS σ A n a = 0 ↔ ¬ a = 0 ∧ (gb A n = true → σ 9 n = 1) := by
      unfold cvS
      by_cases q : a = 0
      · rw [if_pos q]
        simp [q]
      · rw [if_neg q, and1 A (by omega)]
        by_cases g : gb A n = true
        · rw [if_pos g, if_neg (by decide)]
          by_cases q9 : σ 9 n = 1
          · rw [if_pos q9]
            exact ⟨fun _ => ⟨q, fun _ => q9⟩, fun _ => by decide⟩
          · rw [if_neg q9]
            exact ⟨fun e => absurd rfl e, fun e => absurd (e.2 g) q9⟩
        · rw [if_neg g, if_pos rfl]
          exact ⟨fun _ => ⟨q, fun e => absurd e g⟩, fun _ => by decide⟩
    rw [hs, ih]
    constructor
    · rintro ⟨⟨h1, h2⟩, h3⟩
      refine ⟨h1, fun i hi hg => ?_⟩
      by_cases e : i = n
      · rw [e] at hg ⊢
        exact h3 hg
      · exact h2 i (by omega) hg
    · rintro ⟨h1, h2⟩
      exact ⟨⟨h1, fun i hi => h2 i (by omega)⟩, h2 n (by omega)⟩
theorem can_settle {σ : Sg} (h : QI σ) {j t : Nat} (hj : j < nLo σ) (ht : t < 5) (et : σ 2 j = nI t) : (sOver σ j = false ∧ cOpenTo σ (nI j) = 0 ∧ cUpTo σ (nI j) ≠ 0) ↔ ((¬ nI t = 2 ∧ ¬ nI t = 4 ∧ ¬ cNearLine σ (cUpTo σ (nI j)) = -6) ∧ ∀ i, i < nCl σ → gb (cStandTo σ (nI j)) i = true → σ 9 i = 1) := by
  have l12 := h.2.1.lok.2
  have l30 := h.2.1.cok.2
  have e1 : sOver σ j = false ↔ ¬ nI t = 2 ∧ ¬ nI t = 4 := by
    unfold sOver
    rw [et, Bool.or_eq_false_iff, decide_eq_false_iff_not, decide_eq_false_iff_not]
  have e2 : cOpenTo σ (nI j) = 0 ↔ ∀ i, i < nCl σ → gb (cStandTo σ (nI j)) i = true → σ 9 i = 1 := by
    rw [cOpenTo_bs h.2.1.cok, bs_eq0 (by omega)]
    constructor
    · intro q i hi hg
      rw [gb_cStandTo h.2.1.cok _ (by omega)] at hg
      simp only [Bool.and_eq_true, decide_eq_true_eq] at hg
      rcases sSt_n.mp hg.2.2 with e | e
      · have := q i hi
        rw [decide_eq_true hg.2.1, decide_eq_true e] at this
        exact absurd this (by decide)
      · exact e
    · intro q i hi
      by_cases q6 : σ 6 i = nI j
      · by_cases q9 : σ 9 i = 0
        · have := q i hi (by
            rw [gb_cStandTo h.2.1.cok _ (by omega), decide_eq_true hi, decide_eq_true q6, sSt_n.mpr (Or.inl q9)]
            rfl)
          rw [q9] at this
          exact absurd this (by decide)
        · rw [decide_eq_false q9, Bool.and_false]
      · rw [decide_eq_false q6, Bool.false_and]
  have e3 : cUpTo σ (nI j) ≠ 0 ↔ ¬ cNearLine σ (cUpTo σ (nI j)) = -6 := by
    rcases near_c h.1.2.1 h.2.1.cok (cUpTo σ (nI j)) with ⟨e, hz⟩ | ⟨c, l, c1, c2, c3, c4, c5, c6⟩
    · rw [e]
      refine ⟨fun q => ?_, fun q => absurd rfl q⟩
      exfalso
      refine q (gb_ext fun i hi => ?_)
      rw [gb_0]
      by_cases hc : i < nCl σ
      · exact hz i hc
      · rw [cUpTo_bs h.2.1.cok, gb_bs _ (by omega) hi, decide_eq_false hc, Bool.false_and]
    · rw [c6]
      refine ⟨fun _ => n6 (by omega), fun _ e => ?_⟩
      rw [e, gb_0] at c2
      exact absurd c2 (by decide)
  rw [e1, e2, e3]
  constructor
  · rintro ⟨⟨a, b⟩, c, d⟩
    exact ⟨⟨a, b, d⟩, c⟩
  · rintro ⟨⟨a, b, d⟩, c⟩
    exact ⟨⟨a, b⟩, c, d⟩
theorem pass_see {σ τ : Sg} (hL : LOk σ) (hL' : LOk τ) (el : nLo τ = nLo σ) {r : Nat} (hk : ∀ j, j < nLo σ → σ 2 j = 3 → τ 2 j = 3) (hc : cnt (fun j => decide (τ 2 j = 3)) 0 (nLo σ) = cnt (fun j => decide (σ 2 j = 3)) 0 (nLo σ) + r) : lIn τ 3 &&& lIn σ 3 = lIn σ 3 ∧ sBit (lIn τ 3) = sBit (lIn σ 3) + nI r := by
  have l12 := hL.2
  constructor
  · refine gb_ext fun i hi => ?_
    rw [gb_and, gb_lIn hL _ hi, gb_lIn hL' _ hi, el]
    by_cases q : i < nLo σ
    · rw [decide_eq_true q]
      by_cases q3 : σ 2 i = 3
      · rw [decide_eq_true q3, decide_eq_true (hk i q q3)]
        rfl
      · rw [decide_eq_false q3, Bool.and_false, Bool.and_false]
    · rw [decide_eq_false q, Bool.false_and, Bool.false_and]
      rfl
  · have key : ∀ (ρ : Sg), LOk ρ → nLo ρ = nLo σ → cnt (gb (lIn ρ 3)) 0 32 = cnt (fun j => decide (ρ 2 j = 3)) 0 (nLo σ) := fun ρ hρ eρ => by
      rw [cnt_cut (n := nLo σ) (N := 32) (by omega) fun j h1 h2 => by
        rw [gb_lIn hρ _ h2, eρ, decide_eq_false (by omega)]
        rfl]
      refine cnt_ext _ _ fun j _ hj => ?_
      rw [gb_lIn hρ _ (by omega), eρ, decide_eq_true (by omega)]
      rfl
    rw [sBit_cnt, sBit_cnt, key τ hL' el, key σ hL rfl, hc, nI_add]
theorem told_bit {σ : Sg} (h : QI σ) {j k : Nat} (hk : k < nCl σ) (e6 : σ 6 k = nI j) (e9 : σ 9 k = 0) : cStandTo σ (nI j) >>> (nI k &&& 31) &&& 1 = 1 := by
  have l30 := h.2.1.cok.2
  refine bit_1 (by omega) ?_
  rw [gb_cStandTo h.2.1.cok _ (by omega), decide_eq_true hk, decide_eq_true e6, sSt_n.mpr (Or.inl e9)]
  rfl
def AQ (z x : Nat) (σ : Sg) (n : Nat) (τ : Sg) (sl : Nat → Sg) (sv : Nat → Int32) : Option Value → Hp → Prop := fun r hp' => ∃ h', hp' = (z, h') ∧ ((r = some (.int 0) ∧ XS h' x σ n τ sl sv) ∨ (r = some (.int 1) ∧ ∃ σ', XS h' x σ' (nx n) σ sl sv))
