/-! a day, lot by lot and all at once: what it makes of claims and lots -/
def gS (σ : Sg) (c : Nat) : Int32 := if σ 9 c = 0 then (if σ 10 c + 1 < σ 0 2 then 0 else 4) else σ 9 c
def gW (σ : Sg) (c : Nat) : Int32 := if σ 9 c = 0 then σ 10 c + 1 else σ 10 c
def gSt (σ : Sg) (c : Nat) : Bool := decide (gS σ c = 0) || decide (gS σ c = 1)
def gFree (σ : Sg) (j : Nat) : Bool := decide (bs (fun c => decide (σ 6 c = nI j) && gSt σ c) (nCl σ) = 0)
def gCo (σ : Sg) (j : Nat) : Bool := decide (σ 2 j = 1) && gFree σ j
def gFa (σ : Sg) (j : Nat) : Bool := gCo σ j && !decide (σ 3 j + 1 < σ 0 0)
def gDay (σ : Sg) (pc pl : Nat → Bool) (cr : Int32) : Sg := fun a b =>
  if a = 9 then (if pc b = true then gS σ b else σ 9 b)
  else if a = 10 then (if pc b = true then gW σ b else σ 10 b)
  else if a = 2 then (if pl b = true then (if gFa σ b = true then 3 else σ 2 b) else σ 2 b)
  else if a = 3 then (if pl b = true then (if gCo σ b = true then σ 3 b + 1 else σ 3 b) else σ 3 b)
  else if a = 4 then (if pl b = true then (if σ 2 b = 3 then σ 4 b + 1 else σ 4 b) else σ 4 b)
  else if a = 13 ∧ b = 3 then cr else σ a b
theorem gDay_0 (σ : Sg) : gDay σ (fun _ => false) (fun _ => false) (σ 13 3) = σ := by
  funext a b
  unfold gDay
  simp only [Bool.false_eq_true, if_false]
  split
  next q => rw [q]
  split
  next q => rw [q]
  split
  next q => rw [q]
  split
  next q => rw [q]
  split
  next q => rw [q]
  split
  next q => rw [q.1, q.2]
  rfl
section GD
variable {σ : Sg} {pc pl : Nat → Bool} {cr : Int32}
theorem gDay_9 (b : Nat) : gDay σ pc pl cr 9 b = if pc b = true then gS σ b else σ 9 b := rfl
theorem gDay_10 (b : Nat) : gDay σ pc pl cr 10 b = if pc b = true then gW σ b else σ 10 b := rfl
theorem gDay_2 (b : Nat) : gDay σ pc pl cr 2 b = if pl b = true then (if gFa σ b = true then 3 else σ 2 b) else σ 2 b := rfl
theorem gDay_3 (b : Nat) : gDay σ pc pl cr 3 b = if pl b = true then (if gCo σ b = true then σ 3 b + 1 else σ 3 b) else σ 3 b := rfl
theorem gDay_4 (b : Nat) : gDay σ pc pl cr 4 b = if pl b = true then (if σ 2 b = 3 then σ 4 b + 1 else σ 4 b) else σ 4 b := rfl
theorem gDay_cr : gDay σ pc pl cr 13 3 = cr := rfl
theorem gDay_nCl : nCl (gDay σ pc pl cr) = nCl σ := rfl
theorem gDay_nLo : nLo (gDay σ pc pl cr) = nLo σ := rfl
theorem gDay_c {pc' pl' : Nat → Bool} (h1 : ∀ b, pc b = pc' b) (h2 : ∀ b, pl b = pl' b) : gDay σ pc pl cr = gDay σ pc' pl' cr := by
  rw [funext h1, funext h2]
/-- a claim's day -/
theorem gDay_cl {c : Nat} (h : pc c = false) : (if sOpen (gDay σ pc pl cr) c = true then wLong (gDay σ pc pl cr) c (σ 0 2) else gDay σ pc pl cr) = gDay σ (fun b => pc b || decide (b = c)) pl cr := by
  have h9 : gDay σ pc pl cr 9 c = σ 9 c := by rw [gDay_9, h]; rfl
  have h10 : gDay σ pc pl cr 10 c = σ 10 c := by rw [gDay_10, h]; rfl
  unfold sOpen wLong
  rw [h9, h10]
  by_cases q : σ 9 c = 0
  · rw [if_pos (decide_eq_true q)]
    by_cases q2 : σ 10 c + 1 < σ 0 2
    · rw [if_pos q2]
      funext a b
      by_cases e9 : a = 9
      · subst e9
        rw [up2_k _ (by decide), gDay_9, gDay_9]
        by_cases e : b = c
        · subst e
          simp [h, q, gS, q2]
        · simp [e]
      · by_cases e10 : a = 10
        · subst e10
          rw [gDay_10]
          by_cases e : b = c
          · subst e
            rw [up2_s]
            simp [gW, q]
          · rw [up2_j _ e, gDay_10]
            simp [e]
        · rw [up2_k _ e10]
          unfold gDay
          rw [if_neg e9, if_neg e9, if_neg e10, if_neg e10]
    · rw [if_neg q2]
      funext a b
      by_cases e9 : a = 9
      · subst e9
        rw [gDay_9]
        by_cases e : b = c
        · subst e
          rw [up2_s]
          simp [q, gS, q2]
        · rw [up2_j _ e, up2_k _ (by decide), gDay_9]
          simp [e]
      · rw [up2_k _ e9]
        by_cases e10 : a = 10
        · subst e10
          rw [gDay_10]
          by_cases e : b = c
          · subst e
            rw [up2_s]
            simp [gW, q]
          · rw [up2_j _ e, gDay_10]
            simp [e]
        · rw [up2_k _ e10]
          unfold gDay
          rw [if_neg e9, if_neg e9, if_neg e10, if_neg e10]
  · rw [if_neg (by simpa using q)]
    funext a b
    by_cases e9 : a = 9
    · subst e9
      rw [gDay_9, gDay_9]
      by_cases e : b = c
      · subst e
        simp [h, gS, q]
      · simp [e]
    · by_cases e10 : a = 10
      · subst e10
        rw [gDay_10, gDay_10]
        by_cases e : b = c
        · subst e
          simp [h, gW, q]
        · simp [e]
      · unfold gDay
        rw [if_neg e9, if_neg e9, if_neg e10, if_neg e10]
end GD
/-- the claims of a lot, one by one -/
theorem mDay_cls {σ : Sg} {j : Nat} {pl : Nat → Bool} {cr : Int32} : ∀ (k i : Nat) (pc : Nat → Bool), (∀ b, i ≤ b → b < i + k → σ 6 b = nI j → pc b = false) → lp (mDayF j) i k (gDay σ pc pl cr) = gDay σ (fun b => pc b || (decide (i ≤ b) && decide (b < i + k) && decide (σ 6 b = nI j))) pl cr
  | 0, i, pc, _ => by
    rw [lp_0]
    refine gDay_c (fun b => ?_) fun _ => rfl
    by_cases q : i ≤ b
    · simp [show ¬ b < i by omega]
    · simp [q]
  | k + 1, i, pc, h => by
    rw [lp_s]
    have e1 : mDayF j i (gDay σ pc pl cr) = gDay σ (fun b => pc b || (decide (b = i) && decide (σ 6 b = nI j))) pl cr := by
      unfold mDayF
      have h6 : gDay σ pc pl cr 6 i = σ 6 i := rfl
      have h02 : gDay σ pc pl cr 0 2 = σ 0 2 := rfl
      rw [h6, h02]
      by_cases q : σ 6 i = nI j
      · rw [if_pos q, gDay_cl (h i (Nat.le_refl _) (by omega) q)]
        refine gDay_c (fun b => ?_) fun _ => rfl
        by_cases e : b = i
        · subst e
          simp [q]
        · simp [e]
      · rw [if_neg q]
        refine gDay_c (fun b => ?_) fun _ => rfl
        by_cases e : b = i
        · subst e
          simp [q]
        · simp [e]
    rw [e1, mDay_cls k (i + 1)]
    · refine gDay_c (fun b => ?_) fun _ => rfl
      by_cases e : b = i
      · subst e
        rw [decide_eq_false (show ¬ b + 1 ≤ b by omega)]
        simp
      · by_cases q : i ≤ b
        · simp [e, q, show i + 1 ≤ b by omega, show i + 1 + k = i + (k + 1) by omega]
        · simp [e, q, show ¬ i + 1 ≤ b by omega]
    · intro b h1 h2 h3
      show (pc b || (decide (b = i) && decide (σ 6 b = nI j))) = false
      rw [h b (by omega) (by omega) h3, decide_eq_false (show ¬ b = i by omega)]
      rfl
/-- the claims of all lots below i -/
def pcs (σ : Sg) (i b : Nat) : Bool := decide (b < nCl σ) && decide ((σ 6 b).toNatClampNeg < i)
theorem mDay_eq {σ : Sg} (hC : COk σ) (hT : WT σ) (hL : LOk σ) {j : Nat} (hj : j < nLo σ) (cr : Int32) : mDay j (gDay σ (pcs σ j) (fun b => decide (b < j)) cr) = (gDay σ (pcs σ (j + 1)) (fun b => decide (b < j + 1)) (if gFa σ j = true then cr + σ 1 j else cr), gFa σ j) := by
  have hl := hL.2
  have h30 := hC.2
  have e1 : lp (mDayF j) 0 (nCl σ) (gDay σ (pcs σ j) (fun b => decide (b < j)) cr) = gDay σ (pcs σ (j + 1)) (fun b => decide (b < j)) cr := by
    rw [mDay_cls]
    · refine gDay_c (fun b => ?_) fun _ => rfl
      unfold pcs
      by_cases q : b < nCl σ
      · obtain ⟨i, hi, e⟩ := hT b q
        rw [e, nI_clamp (by omega)]
        have : decide (nI i = nI j) = decide (i = j) := by
          rw [decide_eq_decide]
          exact ⟨fun h => nI_inj2 (by omega) (by omega) h, fun h => by rw [h]⟩
        rw [this]
        by_cases q1 : i < j
        · simp [q, q1, show i < j + 1 by omega]
        · by_cases q2 : i = j
          · simp [q, q2]
          · simp [q, q1, q2, show ¬ i < j + 1 by omega]
      · simp [q]
    · intro b _ _ h6
      unfold pcs
      rw [h6, nI_clamp (by omega)]
      simp
  generalize hτ : gDay σ (pcs σ (j + 1)) (fun b => decide (b < j)) cr = τ at e1
  have n2 : τ 2 j = σ 2 j := by
    rw [← hτ, gDay_2]
    simp
  have n3 : τ 3 j = σ 3 j := by
    rw [← hτ, gDay_3]
    simp
  have n4 : τ 4 j = σ 4 j := by
    rw [← hτ, gDay_4]
    simp
  have nC : nCl τ = nCl σ := by
    rw [← hτ]
    rfl
  have hC2 : COk τ := by
    rw [← hτ]
    exact hC
  have eco : d6 j τ = gCo σ j := by
    unfold d6 gCo gFree
    rw [n2, cStandTo_bs hC2, nC]
    have key : bs (fun c => decide (τ 6 c = nI j) && sStands τ c) (nCl σ) = bs (fun c => decide (σ 6 c = nI j) && gSt σ c) (nCl σ) := by
      refine bs_ext (by omega) fun i hi => ?_
      have h6 : τ 6 i = σ 6 i := by
        rw [← hτ]
        rfl
      rw [h6]
      by_cases q : σ 6 i = nI j
      · have : pcs σ (j + 1) i = true := by
          unfold pcs
          rw [q, nI_clamp (by omega)]
          simp [hi]
        unfold sStands gSt
        rw [← hτ, gDay_9, if_pos this]
      · rw [decide_eq_false q]
        rfl
    rw [key]
  have e2 : mDay j (gDay σ (pcs σ j) (fun b => decide (b < j)) cr) = dEnd (decide (σ 2 j = 3)) (gCo σ j) j τ := by
    unfold mDay
    dsimp only
    rw [gDay_nCl, e1, eco, gDay_2, if_neg (by simp)]
  rw [e2]
  unfold dEnd
  dsimp only
  have efa : d4 (gCo σ j) j (d5 (gCo σ j) j τ) = gFa σ j := by
    unfold d4 d5 gFa
    rw [up2_s, up2_k _ (by decide), n3]
    have h0 : τ 0 0 = σ 0 0 := by
      rw [← hτ]
      rfl
    rw [h0]
    cases q : gCo σ j
    · rw [Bool.false_and, Bool.false_and]
    · rw [if_pos rfl]
  rw [efa]
  congr 1
  funext a b
  unfold d1 d2 d3 d5
  simp only [up2c]
  have t9 : τ 9 b = if pcs σ (j + 1) b = true then gS σ b else σ 9 b := by rw [← hτ]; rfl
  have t10 : τ 10 b = if pcs σ (j + 1) b = true then gW σ b else σ 10 b := by rw [← hτ]; rfl
  have t1 : τ 1 j = σ 1 j := by rw [← hτ]; rfl
  have tc : τ 13 3 = cr := by rw [← hτ]; rfl
  by_cases ea : a = 2 ∨ a = 3 ∨ a = 4
  · by_cases eb : b = j
    · subst eb
      rcases ea with rfl | rfl | rfl
      · simp only [n2, n3, n4, gDay_2]
        simp
      · simp only [n2, n3, n4, gDay_3]
        simp
      · simp only [n2, n3, n4, gDay_4]
        simp
    · have ed : decide (b < j) = decide (b < j + 1) := by
        rw [decide_eq_decide]
        omega
      rcases ea with rfl | rfl | rfl
      · rw [gDay_2, ← ed, ← hτ]
        simp [eb, gDay_2]
      · rw [gDay_3, ← ed, ← hτ]
        simp [eb, gDay_3]
      · rw [gDay_4, ← ed, ← hτ]
        simp [eb, gDay_4]
  · have e2 : ¬ a = 2 := fun q => ea (Or.inl q)
    have e3 : ¬ a = 3 := fun q => ea (Or.inr (Or.inl q))
    have e4 : ¬ a = 4 := fun q => ea (Or.inr (Or.inr q))
    by_cases ec : a = 13 ∧ b = 3
    · obtain ⟨rfl, rfl⟩ := ec
      rw [gDay_cr]
      simp [t1, tc]
    · rw [← hτ]
      unfold gDay
      simp [e2, e3, e4, ec]
def gcF (σ : Sg) (j : Nat) (cr : Int32) : Int32 := if gFa σ j = true then cr + σ 1 j else cr
def gnF (σ : Sg) (j : Nat) (r : Int32) : Int32 := if gFa σ j = true then r + 1 else r
theorem mDays_loop {σ : Sg} (hC : COk σ) (hT : WT σ) (hL : LOk σ) : ∀ (k i : Nat) (cr r : Int32), i + k = nLo σ → lp mDaysF i k (gDay σ (pcs σ i) (fun b => decide (b < i)) cr, r) = (gDay σ (pcs σ (i + k)) (fun b => decide (b < i + k)) (lp (gcF σ) i k cr), lp (gnF σ) i k r)
  | 0, i, cr, r, _ => rfl
  | k + 1, i, cr, r, h => by
    rw [lp_s, lp_s, lp_s]
    have e : mDaysF i (gDay σ (pcs σ i) (fun b => decide (b < i)) cr, r) = (gDay σ (pcs σ (i + 1)) (fun b => decide (b < i + 1)) (gcF σ i cr), gnF σ i r) := by
      unfold mDaysF
      dsimp only
      rw [mDay_eq hC hT hL (by omega)]
      rfl
    rw [e, mDays_loop hC hT hL k (i + 1) _ _ (by omega), show i + 1 + k = i + (k + 1) by omega]
def gNow (σ : Sg) : Sg := up2 (gDay σ (fun b => decide (b < nCl σ)) (fun b => decide (b < nLo σ)) (lp (gcF σ) 0 (nLo σ) (σ 13 3))) 13 4 (σ 13 4 + 1)
def gNum (σ : Sg) : Int32 := lp (gnF σ) 0 (nLo σ) 0
theorem pcs_all {σ : Sg} (hL : LOk σ) (hT : WT σ) (b : Nat) : pcs σ (nLo σ) b = decide (b < nCl σ) := by
  have hl := hL.2
  unfold pcs
  by_cases q : b < nCl σ
  · obtain ⟨i, hi, e⟩ := hT b q
    rw [e, nI_clamp (by omega)]
    simp [q, hi]
  · simp [q]
theorem mDayNow_g {σ : Sg} (hC : COk σ) (hT : WT σ) (hL : LOk σ) : mDayNow σ = (gNow σ, gNum σ) := by
  have e0 : σ = gDay σ (pcs σ 0) (fun b => decide (b < 0)) (σ 13 3) := by
    refine (gDay_0 σ).symm.trans (gDay_c (fun b => ?_) fun b => ?_)
    · unfold pcs
      simp
    · simp
  have e1 := mDays_loop hC hT hL (nLo σ) 0 (σ 13 3) 0 (by omega)
  rw [← e0] at e1
  unfold mDayNow
  rw [e1]
  dsimp only
  rw [Nat.zero_add]
  unfold gNow gNum
  rw [gDay_c (pcs_all hL hT) (fun _ => rfl)]
  rfl
