/-! the class's day in the same form -/
def gmF (σ : Sg) (c : Nat) : Int32 := if gSt σ c = true then (1 : Int32) <<< (σ 6 c &&& 31) else 0
theorem or_0 (x : Int32) : x ||| 0 = x := gb_ext fun i hi => by
  rw [gb_or, gb_0, Bool.or_false]
theorem wDay_loop {σ : Sg} : ∀ (k i : Nat) (a : Int32), lp (wDayF (σ 0 2)) i k (gDay σ (fun b => decide (b < i)) (fun _ => false) (σ 13 3), a) = (gDay σ (fun b => decide (b < i + k)) (fun _ => false) (σ 13 3), lp (fun c a => a ||| gmF σ c) i k a)
  | 0, i, a => rfl
  | k + 1, i, a => by
    rw [lp_s, lp_s]
    have e : wDayF (σ 0 2) i (gDay σ (fun b => decide (b < i)) (fun _ => false) (σ 13 3), a) = (gDay σ (fun b => decide (b < i + 1)) (fun _ => false) (σ 13 3), a ||| gmF σ i) := by
      unfold wDayF
      dsimp only
      rw [gDay_cl (by simp)]
      have e2 : gDay σ (fun b => decide (b < i) || decide (b = i)) (fun _ => false) (σ 13 3) = gDay σ (fun b => decide (b < i + 1)) (fun _ => false) (σ 13 3) := by
        refine gDay_c (fun b => ?_) fun _ => rfl
        rw [Bool.eq_iff_iff]
        simp only [Bool.or_eq_true, decide_eq_true_eq]
        omega
      rw [e2]
      have e3 : sStands (gDay σ (fun b => decide (b < i + 1)) (fun _ => false) (σ 13 3)) i = gSt σ i := by
        unfold sStands gSt
        rw [gDay_9, if_pos (by simp)]
      rw [e3]
      congr 1
      unfold gmF
      have h6 : gDay σ (fun b => decide (b < i + 1)) (fun _ => false) (σ 13 3) 6 i = σ 6 i := rfl
      rw [h6]
      split
      · rfl
      · exact (or_0 a).symm
    rw [e, wDay_loop k (i + 1), show i + 1 + k = i + (k + 1) by omega]
def gMask (σ : Sg) : Int32 := lp (fun c a => a ||| gmF σ c) 0 (nCl σ) 0
theorem wDay_g (σ : Sg) : wDay σ (σ 0 2) = (gDay σ (fun b => decide (b < nCl σ)) (fun _ => false) (σ 13 3), gMask σ) := by
  have e0 : σ = gDay σ (fun b => decide (b < 0)) (fun _ => false) (σ 13 3) := by
    refine (gDay_0 σ).symm.trans (gDay_c (fun b => ?_) fun b => rfl)
    simp
  have e1 := wDay_loop (σ := σ) (nCl σ) 0 0
  rw [← e0, Nat.zero_add] at e1
  exact e1
theorem gMask_free {σ : Sg} (hC : COk σ) (hT : WT σ) (hL : LOk σ) {j : Nat} (hj : j < nLo σ) : sHolds (gMask σ) (nI j) = !gFree σ j := by
  have hl := hL.2
  have h30 := hC.2
  rw [sHolds_gb _ (by omega), Bool.eq_iff_iff]
  unfold gMask gFree
  rw [gb_lpor, gb_0]
  have key : ∀ c, c < nCl σ → (gb (gmF σ c) j = true ↔ (σ 6 c = nI j ∧ gSt σ c = true)) := by
    intro c hc
    obtain ⟨i, hi, e⟩ := hT c hc
    unfold gmF
    by_cases q : gSt σ c = true
    · rw [if_pos q, e]
      show gb (bit i) j = true ↔ _
      rw [gb_bit i (by omega) j (by omega), decide_eq_true_eq]
      constructor
      · rintro rfl
        exact ⟨rfl, q⟩
      · rintro ⟨h, _⟩
        exact (nI_inj2 (by omega) (by omega) h).symm
    · rw [if_neg q, gb_0]
      simp [q]
  simp only [Bool.not_eq_true', decide_eq_false_iff_not]
  rw [bs_eq0 (by omega)]
  constructor
  · rintro (h | ⟨c, _, h2, h3⟩) h0
    · exact absurd h (by decide)
    · obtain ⟨q1, q2⟩ := (key c (by omega)).mp h3
      have := h0 c (by omega)
      rw [q1, q2] at this
      simp at this
  · intro h
    refine Or.inr ?_
    refine Classical.byContradiction fun hn => h fun c hc => ?_
    cases q : decide (σ 6 c = nI j) && gSt σ c
    · rfl
    · rw [Bool.and_eq_true, decide_eq_true_eq] at q
      exact absurd ⟨c, Nat.zero_le _, by omega, (key c hc).mpr q⟩ hn
theorem pDayF_g {σ : Sg} (hC : COk σ) (hT : WT σ) (hL : LOk σ) {pc : Nat → Bool} {j : Nat} (hj : j < nLo σ) (cr r : Int32) : pDayF (gMask σ) j (gDay σ pc (fun b => decide (b < j)) cr, r) = (gDay σ pc (fun b => decide (b < j + 1)) (gcF σ j cr), gnF σ j r) := by
  have n2 : gDay σ pc (fun b => decide (b < j)) cr 2 j = σ 2 j := by
    rw [gDay_2]
    simp
  have n3 : gDay σ pc (fun b => decide (b < j)) cr 3 j = σ 3 j := by
    rw [gDay_3]
    simp
  have n4 : gDay σ pc (fun b => decide (b < j)) cr 4 j = σ 4 j := by
    rw [gDay_4]
    simp
  have hb : ∀ b, ¬ b = j → decide (b < j + 1) = decide (b < j) := fun b q => by
    rw [decide_eq_decide]
    omega
  have ef := gMask_free hC hT hL hj
  -- what becomes of the lot
  have key : ∀ ρ : Sg, (∀ a, a ≠ 2 → a ≠ 3 → a ≠ 4 → a ≠ 13 → ρ a = gDay σ pc (fun b => decide (b < j)) cr a) → (∀ a b, a = 2 ∨ a = 3 ∨ a = 4 → b ≠ j → ρ a b = gDay σ pc (fun b => decide (b < j)) cr a b) → ρ 2 j = (if gFa σ j = true then 3 else σ 2 j) → ρ 3 j = (if gCo σ j = true then σ 3 j + 1 else σ 3 j) → ρ 4 j = (if σ 2 j = 3 then σ 4 j + 1 else σ 4 j) → (∀ b, b ≠ 3 → ρ 13 b = σ 13 b) → ρ 13 3 = gcF σ j cr → ρ = gDay σ pc (fun b => decide (b < j + 1)) (gcF σ j cr) := by
    intro ρ r1 r2 r3 r4 r5 r6 r7
    funext a b
    by_cases ea : a = 2 ∨ a = 3 ∨ a = 4
    · by_cases eb : b = j
      · subst eb
        rcases ea with rfl | rfl | rfl
        · rw [r3, gDay_2]
          simp
        · rw [r4, gDay_3]
          simp
        · rw [r5, gDay_4]
          simp
      · rw [r2 a b ea eb]
        rcases ea with rfl | rfl | rfl
        · rw [gDay_2, gDay_2, hb b eb]
        · rw [gDay_3, gDay_3, hb b eb]
        · rw [gDay_4, gDay_4, hb b eb]
    · have e2 : ¬ a = 2 := fun q => ea (Or.inl q)
      have e3 : ¬ a = 3 := fun q => ea (Or.inr (Or.inl q))
      have e4 : ¬ a = 4 := fun q => ea (Or.inr (Or.inr q))
      by_cases e13 : a = 13
      · subst e13
        by_cases eb : b = 3
        · subst eb
          rw [r7]
          rfl
        · rw [r6 b eb]
          unfold gDay
          simp [eb]
      · rw [r1 a e2 e3 e4 e13]
        unfold gDay
        simp [e2, e3, e4, e13]
  unfold pDayF
  dsimp only
  simp only [n2, n4, ef]
  by_cases q3 : σ 2 j = 3
  · have hco : gCo σ j = false := by
      unfold gCo
      rw [q3]
      rfl
    have hfa : gFa σ j = false := by
      unfold gFa
      rw [hco]
      rfl
    rw [if_pos q3]
    have en : gnF σ j r = r := by
      unfold gnF
      rw [hfa]
      rfl
    rw [en]
    congr 1
    refine key _ (fun a _ _ e4 _ => ?_) (fun a b ea eb => ?_) ?_ ?_ ?_ (fun b hb3 => ?_) ?_
    · funext b
      exact up2_k _ e4
    · exact up2_j _ eb
    · rw [up2_k _ (by decide), n2, hfa]
      rfl
    · rw [up2_k _ (by decide), n3, hco]
      rfl
    · rw [up2_s, if_pos q3]
    · rw [up2_k _ (by decide)]
      unfold gDay
      simp [hb3]
    · rw [up2_k _ (by decide), gDay_cr]
      unfold gcF
      rw [hfa]
      rfl
  · rw [if_neg q3]
    by_cases q1 : σ 2 j = 1
    · rw [if_pos q1]
      by_cases qf : gFree σ j = true
      · rw [qf]
        have hco : gCo σ j = true := by
          unfold gCo
          rw [qf, q1]
          rfl
        rw [if_neg (by decide)]
        unfold sCount
        simp only [up2_s, n3]
        have h0 : up2 (gDay σ pc (fun b => decide (b < j)) cr) 3 j (σ 3 j + 1) 0 0 = σ 0 0 := rfl
        rw [h0]
        by_cases qt : σ 0 0 ≤ σ 3 j + 1
        · rw [if_pos qt]
          dsimp only
          have hfa : gFa σ j = true := by
            unfold gFa
            rw [hco, decide_eq_false (Int32.not_lt.mpr qt)]
            rfl
          have en : gnF σ j r = r + 1 := by
            unfold gnF
            rw [if_pos hfa]
          rw [en]
          congr 1
          refine key _ (fun a e2 e3 _ e13 => ?_) (fun a b ea eb => ?_) ?_ ?_ ?_ (fun b hb3 => ?_) ?_
          · funext b
            rw [up2_k _ e13, up2_k _ e2, up2_k _ e3]
          · rw [up2_k _ (by omega), up2_j _ eb, up2_j _ eb]
          · rw [up2_k _ (by decide), up2_s, if_pos hfa]
          · rw [up2_k _ (by decide), up2_k _ (by decide), up2_s, if_pos hco]
          · rw [up2_k _ (by decide), up2_k _ (by decide), up2_k _ (by decide), n4, if_neg q3]
          · rw [up2_j _ hb3, up2_k _ (by decide), up2_k _ (by decide)]
            unfold gDay
            simp [hb3]
          · rw [up2_s, gDay_cr]
            unfold gcF
            rw [if_pos hfa]
            rfl
        · rw [if_neg qt]
          dsimp only
          have hfa : gFa σ j = false := by
            unfold gFa
            rw [hco, decide_eq_true (Int32.not_le.mp qt)]
            rfl
          have en : gnF σ j r = r := by
            unfold gnF
            rw [hfa]
            rfl
          rw [en, Int32.add_zero]
          congr 1
          refine key _ (fun a e2 e3 _ e13 => ?_) (fun a b ea eb => ?_) ?_ ?_ ?_ (fun b hb3 => ?_) ?_
          · funext b
            rw [up2_k _ e3]
          · rw [up2_j _ eb]
          · rw [up2_k _ (by decide), n2, hfa]
            rfl
          · rw [up2_s, if_pos hco]
          · rw [up2_k _ (by decide), n4, if_neg q3]
          · rw [up2_k _ (by decide)]
            unfold gDay
            simp [hb3]
          · rw [up2_k _ (by decide), gDay_cr]
            unfold gcF
            rw [hfa]
            rfl
      · have qf' : gFree σ j = false := by simpa using qf
        have hco : gCo σ j = false := by
          unfold gCo
          rw [qf']
          simp
        have hfa : gFa σ j = false := by
          unfold gFa
          rw [hco]
          rfl
        have en : gnF σ j r = r := by
          unfold gnF
          rw [hfa]
          rfl
        rw [qf', if_pos (by decide), en]
        congr 1
        refine key _ (fun a _ _ _ _ => rfl) (fun a b _ _ => rfl) ?_ ?_ ?_ (fun b hb3 => ?_) ?_
        · rw [n2, hfa]
          rfl
        · rw [n3, hco]
          rfl
        · rw [n4, if_neg q3]
        · unfold gDay
          simp [hb3]
        · rw [gDay_cr]
          unfold gcF
          rw [hfa]
          rfl
    · have hco : gCo σ j = false := by
        unfold gCo
        rw [decide_eq_false q1]
        rfl
      have hfa : gFa σ j = false := by
        unfold gFa
        rw [hco]
        rfl
      have en : gnF σ j r = r := by
        unfold gnF
        rw [hfa]
        rfl
      rw [if_neg q1, en]
      congr 1
      refine key _ (fun a _ _ _ _ => rfl) (fun a b _ _ => rfl) ?_ ?_ ?_ (fun b hb3 => ?_) ?_
      · rw [n2, hfa]
        rfl
      · rw [n3, hco]
        rfl
      · rw [n4, if_neg q3]
      · unfold gDay
        simp [hb3]
      · rw [gDay_cr]
        unfold gcF
        rw [hfa]
        rfl
theorem pDay_loop {σ : Sg} (hC : COk σ) (hT : WT σ) (hL : LOk σ) {pc : Nat → Bool} : ∀ (k i : Nat) (cr r : Int32), i + k = nLo σ → lp (pDayF (gMask σ)) i k (gDay σ pc (fun b => decide (b < i)) cr, r) = (gDay σ pc (fun b => decide (b < i + k)) (lp (gcF σ) i k cr), lp (gnF σ) i k r)
  | 0, i, cr, r, _ => rfl
  | k + 1, i, cr, r, h => by
    rw [lp_s, lp_s, lp_s, pDayF_g hC hT hL (by omega), pDay_loop hC hT hL k (i + 1) _ _ (by omega), show i + 1 + k = i + (k + 1) by omega]
theorem pDay_g {σ : Sg} (hC : COk σ) (hT : WT σ) (hL : LOk σ) : pDay σ = (gNow σ, gNum σ) := by
  unfold pDay
  rw [wDay_g]
  dsimp only
  have e0 : gDay σ (fun b => decide (b < nCl σ)) (fun _ => false) (σ 13 3) = gDay σ (fun b => decide (b < nCl σ)) (fun b => decide (b < 0)) (σ 13 3) := gDay_c (fun _ => rfl) fun b => by simp
  rw [gDay_nLo, e0, pDay_loop hC hT hL (nLo σ) 0 _ _ (by omega), Nat.zero_add]
  rfl
