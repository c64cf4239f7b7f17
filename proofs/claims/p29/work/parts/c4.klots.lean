/-! what a caller sees of the lots -/
theorem gb_cToLot {σ : Sg} (hC : COk σ) (w : Int32) {i : Nat} (hi : i < 32) : gb (cToLot σ w) i = (decide (i < nCl σ) && decide (σ 6 i = w)) := gb_bs _ (by have := hC.2; omega) hi
theorem gb_cStandTo {σ : Sg} (hC : COk σ) (w : Int32) {i : Nat} (hi : i < 32) : gb (cStandTo σ w) i = (decide (i < nCl σ) && (decide (σ 6 i = w) && sStands σ i)) := by
  rw [cStandTo_bs hC, gb_bs _ (by have := hC.2; omega) hi]
theorem gb_lIn {σ : Sg} (hL : LOk σ) (w : Int32) {i : Nat} (hi : i < 32) : gb (lIn σ w) i = (decide (i < nLo σ) && decide (σ 2 i = w)) := gb_bs _ (by have := hL.2; omega) hi
theorem or_add {x z : Int32} (h : x &&& z = 0) : x + z = x ||| z := by
  have h2 : x.toBitVec &&& z.toBitVec = 0#32 := by
    have := congrArg Int32.toBitVec h
    rw [Int32.toBitVec_and] at this
    exact this
  refine Int32.toBitVec_inj.mp ?_
  rw [Int32.toBitVec_add, Int32.toBitVec_or]
  exact BitVec.add_eq_or_of_and_eq_zero _ _ h2
theorem lIn_or {σ : Sg} (h : QI σ) : lIn σ 0 ||| lIn σ 1 ||| lIn σ 2 ||| lIn σ 3 ||| lIn σ 4 = ((1 : Int32) <<< (nI (nLo σ) &&& 31)) - 1 := by
  have l12 := h.2.1.lok.2
  refine gb_ext fun i hi => ?_
  rw [gb_or, gb_or, gb_or, gb_or, gb_lIn h.2.1.lok _ hi, gb_lIn h.2.1.lok _ hi, gb_lIn h.2.1.lok _ hi, gb_lIn h.2.1.lok _ hi, gb_lIn h.2.1.lok _ hi, gb_ones _ (by omega) i hi]
  by_cases q : i < nLo σ
  · obtain ⟨w, hw, e⟩ := (h.1.1 i q).2.1
    rw [decide_eq_true q, e]
    rcases (show w = 0 ∨ w = 1 ∨ w = 2 ∨ w = 3 ∨ w = 4 by omega) with rfl | rfl | rfl | rfl | rfl <;> rfl
  · rw [decide_eq_false q]
    rfl
theorem lIn_dis {σ : Sg} (hL : LOk σ) {a b : Int32} (h : a ≠ b) : lIn σ a &&& lIn σ b = 0 := by
  refine gb_ext fun i hi => ?_
  rw [gb_and, gb_lIn hL _ hi, gb_lIn hL _ hi, gb_0]
  by_cases q : σ 2 i = a
  · rw [decide_eq_false (fun e => h (q.symm.trans e)), Bool.and_false, Bool.and_false]
  · rw [decide_eq_false q, Bool.and_false, Bool.false_and]
theorem or_dis {x z w : Int32} (h1 : x &&& w = 0) (h2 : z &&& w = 0) : (x ||| z) &&& w = 0 := by
  refine gb_ext fun i hi => ?_
  have a := congrArg (fun v => gb v i) h1
  have b := congrArg (fun v => gb v i) h2
  simp only [gb_and, gb_0] at a b
  rw [gb_and, gb_or, gb_0]
  cases e : gb w i
  · rw [Bool.and_false]
  · rw [e, Bool.and_true] at a b
    rw [a, b]
    rfl
theorem lIn_sum {σ : Sg} (h : QI σ) : lIn σ 0 + lIn σ 1 + lIn σ 2 + lIn σ 3 + lIn σ 4 = ((1 : Int32) <<< (nI (nLo σ) &&& 31)) - 1 := by
  have d : ∀ {a b : Int32}, a ≠ b → lIn σ a &&& lIn σ b = 0 := fun q => lIn_dis h.2.1.lok q
  have d2 : (lIn σ 0 ||| lIn σ 1) &&& lIn σ 2 = 0 := or_dis (d (by decide)) (d (by decide))
  have d3 : (lIn σ 0 ||| lIn σ 1 ||| lIn σ 2) &&& lIn σ 3 = 0 := or_dis (or_dis (d (by decide)) (d (by decide))) (d (by decide))
  have d4 : (lIn σ 0 ||| lIn σ 1 ||| lIn σ 2 ||| lIn σ 3) &&& lIn σ 4 = 0 := or_dis (or_dis (or_dis (d (by decide)) (d (by decide))) (d (by decide))) (d (by decide))
  rw [or_add (d (a := 0) (b := 1) (by decide)), or_add d2, or_add d3, or_add d4]
  exact lIn_or h
theorem bit_1 {x : Int32} {i : Nat} (hi : i < 32) (h : gb x i = true) : (x >>> (nI i &&& 31)) &&& 1 = 1 := by
  rw [and1 x hi, if_pos h]
theorem bit_0 {x : Int32} {i : Nat} (hi : i < 32) (h : gb x i = false) : (x >>> (nI i &&& 31)) &&& 1 = 0 := by
  rw [and1 x hi, if_neg (by rw [h]; decide)]
/-- of: an existing lot -/
theorem of_n {σ : Sg} (hL : LOk σ) {j : Nat} (hj : j < nLo σ) : oOf σ (nI j) 0 = σ 1 j ∧ oOf σ (nI j) 1 = σ 2 j ∧ oOf σ (nI j) 2 = σ 3 j ∧ oOf σ (nI j) 3 = σ 4 j ∧ oOf σ (nI j) 4 = cStandTo σ (nI j) ∧ oOf σ (nI j) 5 = cToLot σ (nI j) ∧ oOf σ (nI j) 6 = cNearLine σ (cUpTo σ (nI j)) := by
  have l12 := hL.2
  have hx := sEx_of hL.1 hj (by omega)
  unfold oOf
  rw [if_pos hx, if_pos hx, if_pos hx, if_pos hx, if_pos hx, if_pos hx, if_pos hx, nI_clamp (by omega)]
  exact ⟨rfl, rfl, rfl, rfl, rfl, rfl, rfl⟩
theorem ofC_n {σ : Sg} (hC : COk σ) {k : Nat} (hk : k < nCl σ) : oOfClaim σ (nI k) 0 = σ 5 k ∧ oOfClaim σ (nI k) 1 = σ 6 k ∧ oOfClaim σ (nI k) 2 = σ 7 k ∧ oOfClaim σ (nI k) 3 = σ 8 k ∧ oOfClaim σ (nI k) 4 = σ 9 k ∧ oOfClaim σ (nI k) 5 = σ 10 k ∧ oOfClaim σ (nI k) 6 = σ 11 k := by
  have l30 := hC.2
  have hx := sEx_of hC.1 hk (by omega)
  unfold oOfClaim
  rw [if_pos hx, if_pos hx, if_pos hx, if_pos hx, if_pos hx, if_pos hx, if_pos hx, nI_clamp (by omega)]
  exact ⟨rfl, rfl, rfl, rfl, rfl, rfl, rfl⟩
theorem heir_n (σ : Sg) {g : Nat} (hg : g < 16) : oHeir σ (nI g) 0 = sPurse σ (nI g) ∧ oHeir σ (nI g) 1 = cOfHeir σ (nI g) ∧ oHeir σ (nI g) 2 = cOfHeir σ (nI g) &&& cStanding σ ∧ oHeir σ (nI g) 3 = lp (sNumf (σ 6) (cOfHeir σ (nI g) &&& cBrought σ)) 0 30 0 := by
  have hx := sHeir_n g hg
  unfold oHeir
  rw [if_pos hx, if_pos hx, if_pos hx, if_pos hx]
  exact ⟨rfl, rfl, rfl, rfl⟩
/-- sums of rows over sets -/
theorem lp_sum {g : Nat → Int32} {f : Nat → Nat} {set : Int32} {M : Nat} : ∀ n, n ≤ 32 → (∀ i, i < n → (if gb set i = true then g i else 0) = nI (f i)) → lp (sSumf g set) 0 n 0 = nI (sN f n)
  | 0, _, _ => rfl
  | n + 1, hn, h => by
    rw [lp_last, lp_sum (M := M) n (by omega) fun i hi => h i (by omega), sN_last, Nat.zero_add]
    have e := h n (by omega)
    unfold sSumf
    rw [sHolds_gb _ (by omega)]
    by_cases q : gb set n = true
    · rw [if_pos q] at e ⊢
      rw [e, nI_add]
    · rw [if_neg q] at e ⊢
      have : nI (sN f n) + 0 = nI (sN f n) := Int32.add_zero _
      rw [← nI_add, ← e, this]
theorem sN_cut {f : Nat → Nat} {n : Nat} : ∀ k, (∀ i, n ≤ i → i < n + k → f i = 0) → sN f (n + k) = sN f n
  | 0, _ => rfl
  | k + 1, h => by
    show sN f (n + k) + f (n + k) = sN f n
    rw [sN_cut k fun i h1 h2 => h i h1 (by omega), h (n + k) (by omega) (by omega)]
    rfl
theorem num_8 {σ : Sg} (h : QI σ) : oNumber σ 8 = nI (sN (vN σ) (nLo σ)) := by
  have l12 := h.2.1.lok.2
  rw [oN_8, lp_sum (M := 0) (f := fun i => if i < nLo σ then vN σ i else 0) 12 (by decide)]
  · congr 1
    have := sN_cut (f := fun i => if i < nLo σ then vN σ i else 0) (n := nLo σ) (12 - nLo σ) fun i h1 _ => if_neg (by omega)
    rw [show nLo σ + (12 - nLo σ) = 12 by omega] at this
    rw [this]
    exact sN_ext _ fun i hi => if_pos hi
  · intro i hi
    rw [gb_lAll h.2.1.lok (by omega)]
    by_cases q : i < nLo σ
    · rw [if_pos (decide_eq_true q), if_pos q]
      exact (h.1.1.val q).2.2
    · rw [if_neg (by simpa using q), if_neg q]
      rfl
theorem num_9 {σ : Sg} (h : QI σ) : oNumber σ 9 = nI (sN (wN σ) (nLo σ)) := by
  have l12 := h.2.1.lok.2
  rw [oN_9, lp_sum (M := 0) (f := fun i => if i < nLo σ then wN σ i else 0) 12 (by decide)]
  · congr 1
    have := sN_cut (f := fun i => if i < nLo σ then wN σ i else 0) (n := nLo σ) (12 - nLo σ) fun i h1 _ => if_neg (by omega)
    rw [show nLo σ + (12 - nLo σ) = 12 by omega] at this
    rw [this]
    exact sN_ext _ fun i hi => if_pos hi
  · intro i hi
    rw [gb_or, gb_lIn h.2.1.lok _ (by omega), gb_lIn h.2.1.lok _ (by omega)]
    by_cases q : i < nLo σ
    · rw [decide_eq_true q, if_pos q, Bool.true_and, Bool.true_and]
      unfold wN
      by_cases q2 : σ 2 i = 0 ∨ σ 2 i = 1
      · rw [if_pos q2, if_pos (by simpa using q2)]
        exact (h.1.1.val q).2.2
      · rw [if_neg q2, if_neg (by simpa using q2)]
        rfl
    · rw [decide_eq_false q, if_neg q]
      rfl
theorem bN_n {σ : Sg} (h : QI σ) {c : Nat} (hc : c < nCl σ) : σ 11 c = nI (bN σ c) ∧ bN σ c ≤ 9999 := by
  obtain ⟨b, hb, e⟩ := h.2.1.wb c hc
  have : bN σ c = b := by
    unfold bN
    rw [e, nI_clamp (by omega)]
  rw [this]
  exact ⟨e, hb⟩
theorem num_11 {σ : Sg} (h : QI σ) : oNumber σ 11 = nI (sN (bN σ) (nCl σ)) := by
  have l30 := h.2.1.cok.2
  rw [oN_11, lp_sum (M := 0) (f := fun i => if i < nCl σ then bN σ i else 0) 30 (by decide)]
  · congr 1
    have := sN_cut (f := fun i => if i < nCl σ then bN σ i else 0) (n := nCl σ) (30 - nCl σ) fun i h1 _ => if_neg (by omega)
    rw [show nCl σ + (30 - nCl σ) = 30 by omega] at this
    rw [this]
    exact sN_ext _ fun i hi => if_pos hi
  · intro i hi
    rw [gb_cAll h.2.1.cok (by omega)]
    by_cases q : i < nCl σ
    · rw [if_pos (decide_eq_true q), if_pos q]
      exact (bN_n h q).1
    · rw [if_neg (by simpa using q), if_neg q]
      rfl
theorem num_10 {σ : Sg} (h : QI σ) : oNumber σ 10 = nI (kN σ) := (oN_10 σ).trans h.1.2.2.1
theorem num_0 {σ : Sg} (h : QI σ) : oNumber σ 0 = nI (dN σ) ∧ dN σ ≤ 9999 := by
  obtain ⟨_, _, _, D, hD', hd, _⟩ := h.2.1.wn
  have : dN σ = D := by
    unfold dN
    rw [hd, nI_clamp (by omega)]
  rw [this]
  exact ⟨(oN_0 σ).trans hd, hD'⟩
theorem num_1 {σ : Sg} (h : QI σ) : oNumber σ 1 = nI (nLo σ) := (oN_1 σ).trans h.2.1.lok.1
theorem num_2 {σ : Sg} (h : QI σ) : oNumber σ 2 = nI (nCl σ) := (oN_2 σ).trans h.2.1.cok.1
theorem num_st (σ : Sg) {t : Nat} (ht : t < 5) : oNumber σ (3 + nI t) = lIn σ (nI t) := by
  rcases (show t = 0 ∨ t = 1 ∨ t = 2 ∨ t = 3 ∨ t = 4 by omega) with rfl | rfl | rfl | rfl | rfl
  · exact oN_3 σ
  · exact oN_4 σ
  · exact oN_5 σ
  · exact oN_6 σ
  · exact oN_7 σ
/-- when a lot falls -/
theorem falls_n {σ : Sg} (h : QI σ) {j : Nat} (hj : j < nLo σ) : (σ 2 j ≠ 1 → oFalls σ (nI j) = -5) ∧ (σ 2 j = 1 → oFalls σ (nI j) = -6 ∨ ∃ f, 1 ≤ f ∧ f ≤ 700 ∧ oFalls σ (nI j) = nI f) := by
  have l12 := h.2.1.lok.2
  have l30 := h.2.1.cok.2
  have hx := sEx_of h.2.1.lok.1 hj (by omega)
  unfold oFalls
  rw [if_pos hx, nI_clamp (by omega)]
  dsimp only
  constructor
  · intro q
    rw [if_neg q]
  · intro q
    rw [if_pos q]
    by_cases qu : cUpTo σ (nI j) = 0
    · rw [if_pos qu]
      obtain ⟨⟨s, s1, s2, e0⟩, ⟨l, l1, l2, e2⟩, _, D, hD, _, hk, hw⟩ := h.2.1.wn
      obtain ⟨k, k1, e3⟩ := hk j hj
      obtain ⟨u, u1, u2, _, _, _⟩ := idle_lp (W := 9999) e2 l2 (by decide) (op := cOpenTo σ (nI j)) (nCl σ) 0 0 (by omega) (by omega) (fun c _ hc _ => by
        obtain ⟨w, w1, w2⟩ := hw c (by omega)
        exact ⟨w, by omega, w2⟩)
      refine Or.inr ⟨u + max 1 (s - k), by omega, by omega, ?_⟩
      unfold sIdle
      rw [show (0 : Int32) = nI 0 from rfl, u2, e3, e0]
      have hm : max32 1 (nI s - nI k) = nI (max 1 (s - k)) := by
        rw [max32_1]
        have e := nI_sub (a := s) (b := k) (by omega) (by omega)
        have o1 : (1 : Int32).toInt = 1 := rfl
        by_cases q : 1 ≤ nI s - nI k
        · rw [if_pos q]
          rw [Int32.le_iff_toInt_le, e, o1] at q
          rw [nI_subN (by omega), Nat.max_eq_right (by omega)]
        · rw [if_neg q]
          rw [Int32.le_iff_toInt_le, e, o1] at q
          rw [Nat.max_eq_left (by omega)]
          rfl
      rw [hm, nI_add]
    · rw [if_neg qu]
      exact Or.inl rfl
theorem nI_le0' {f : Nat} (h : f < 2 ^ 31) : nI f ≤ 0 ↔ f = 0 := by
  rw [show (0 : Int32) = nI 0 from rfl, nI_leI h (by decide)]
  omega
theorem next_lp {σ : Sg} (h : QI σ) : ∀ n, n ≤ nLo σ → ((lp (ffF σ) 0 n (-6, -6)).2 = -6 ∧ ∀ j, j < n → oFalls σ (nI j) ≤ 0) ∨ ∃ f, 1 ≤ f ∧ f ≤ 700 ∧ (lp (ffF σ) 0 n (-6, -6)).2 = nI f ∧ ∀ j g, j < n → g ≤ 700 → 1 ≤ g → oFalls σ (nI j) = nI g → f ≤ g
  | 0, _ => Or.inl ⟨rfl, fun j hj => absurd hj (by omega)⟩
  | n + 1, hn => by
    have ih := next_lp h n (by omega)
    rw [lp_last, Nat.zero_add]
    generalize lp (ffF σ) 0 n (-6, -6) = q at ih
    have hf := falls_n h (j := n) (by omega)
    have key : (oFalls σ (nI n) ≤ 0) ∨ ∃ f, 1 ≤ f ∧ f ≤ 700 ∧ oFalls σ (nI n) = nI f := by
      by_cases q : σ 2 n = 1
      · rcases hf.2 q with e | e
        · exact Or.inl (by rw [e]; decide)
        · exact Or.inr e
      · exact Or.inl (by rw [hf.1 q]; decide)
    unfold ffF
    dsimp only
    rcases key with k | ⟨f, f1, f2, ef⟩
    · rw [if_pos k]
      rcases ih with ⟨e, hz⟩ | ⟨f', a1, a2, a3, a4⟩
      · refine Or.inl ⟨e, fun j hj => ?_⟩
        by_cases qj : j = n
        · rw [qj]
          exact k
        · exact hz j (by omega)
      · refine Or.inr ⟨f', a1, a2, a3, fun j g hj g1 g2 eg => ?_⟩
        by_cases qj : j = n
        · rw [qj] at eg
          rw [eg, nI_le0' (by omega)] at k
          omega
        · exact a4 j g (by omega) g1 g2 eg
    · have n0 : ¬ oFalls σ (nI n) ≤ 0 := by
        rw [ef, nI_le0' (by omega)]
        omega
      rw [if_neg n0]
      have same : ∀ j g, j = n → g ≤ 700 → oFalls σ (nI j) = nI g → f = g := fun j g qj g1 eg => by
        rw [qj, ef] at eg
        exact nI_inj2 (by omega) (by omega) eg
      rcases ih with ⟨e, hz⟩ | ⟨f', a1, a2, a3, a4⟩
      · rw [if_pos e]
        refine Or.inr ⟨f, f1, f2, ef, fun j g hj g1 g2 eg => ?_⟩
        by_cases qj : j = n
        · exact Nat.le_of_eq (same j g qj g1 eg)
        · have := hz j (by omega)
          rw [eg, nI_le0' (by omega)] at this
          omega
      · have n6 : ¬ q.2 = -6 := by
          rw [a3]
          intro e
          have h1 := congrArg Int32.toInt e
          rw [nI_int (by omega)] at h1
          have h2 : (-6 : Int32).toInt = -6 := rfl
          omega
        rw [if_neg n6]
        have hle : q.2 ≤ oFalls σ (nI n) ↔ f' ≤ f := by
          rw [a3, ef, nI_leI (by omega) (by omega)]
        by_cases q2 : q.2 ≤ oFalls σ (nI n)
        · rw [if_pos q2]
          refine Or.inr ⟨f', a1, a2, a3, fun j g hj g1 g2 eg => ?_⟩
          by_cases qj : j = n
          · have := same j g qj g1 eg
            have := hle.mp q2
            omega
          · exact a4 j g (by omega) g1 g2 eg
        · rw [if_neg q2]
          rw [hle] at q2
          refine Or.inr ⟨f, f1, f2, ef, fun j g hj g1 g2 eg => ?_⟩
          by_cases qj : j = n
          · exact Nat.le_of_eq (same j g qj g1 eg)
          · have := a4 j g (by omega) g1 g2 eg
            omega
theorem why_n {σ : Sg} (h : QI σ) {j : Nat} (hj : j < nLo σ) : (σ 2 j ≠ 1 → oWhy σ (nI j) = 1) ∧ (oWhy σ (nI j) = 0 → cStandTo σ (nI j) = 0) := by
  have l12 := h.2.1.lok.2
  have hx := sEx_of h.2.1.lok.1 hj (by omega)
  unfold oWhy
  rw [if_pos hx, nI_clamp (by omega)]
  constructor
  · intro q
    rw [if_neg q]
  · intro q
    by_cases q1 : σ 2 j = 1
    · rw [if_pos q1] at q
      by_cases q2 : cOpenTo σ (nI j) = 0
      · rw [if_pos q2] at q
        by_cases q3 : cUpTo σ (nI j) = 0
        · rw [← cStandTo_or h.2.1.cok, q2, q3]
          rfl
        · rw [if_neg q3] at q
          exact absurd q (by decide)
      · rw [if_neg q2] at q
        exact absurd q (by decide)
    · rw [if_neg q1] at q
      exact absurd q (by decide)
theorem stand_no {σ : Sg} (h : QI σ) {j : Nat} (hj : j < nLo σ) (q : σ 2 j = 2 ∨ σ 2 j = 4) : cStandTo σ (nI j) = 0 := by
  have l12 := h.2.1.lok.2
  have l30 := h.2.1.cok.2
  rw [cStandTo_bs h.2.1.cok, bs_eq0 (by omega)]
  intro c hc
  by_cases q6 : σ 6 c = nI j
  · cases hs : sStands σ c
    · rw [Bool.and_false]
    · have := (h.1.2.1 c hc).2.2.2 hs
      have e : loN σ c = j := by
        unfold loN
        rw [q6, nI_clamp (by omega)]
      rw [e] at this
      rcases q with q | q
      · exact absurd q this.1
      · exact absurd q this.2
  · rw [decide_eq_false q6, Bool.false_and]
/-- a lot, as it is looked at -/
def LotF (σ : Sg) (j t : Nat) : Prop := (¬ nI (vN σ j) ≤ 0) ∧ (¬ 10000 ≤ nI (vN σ j)) ∧ (¬ nI t < 0) ∧ (¬ 5 ≤ nI t) ∧ (lIn σ (nI t) >>> (nI j &&& 31) &&& 1 = 1) ∧ (cStandTo σ (nI j) &&& cToLot σ (nI j) = cStandTo σ (nI j)) ∧ (nI t = 2 ∨ nI t = 4 → cStandTo σ (nI j) = 0) ∧ (¬ 0 < nI t → σ 3 j = 0) ∧ (¬ 2 < nI t → σ 4 j = 0) ∧ (¬ σ 3 j < 0) ∧ (¬ nI (dN σ) < σ 3 j) ∧ (¬ nI (dN σ) < σ 4 j) ∧ (¬ nI t = 1 → oWhy σ (nI j) = 1) ∧ (oWhy σ (nI j) = 0 → cStandTo σ (nI j) = 0) ∧ (¬ cNearLine σ (cUpTo σ (nI j)) = -6 → (¬ cNearLine σ (cUpTo σ (nI j)) ≤ 0) ∧ (¬ 6 ≤ cNearLine σ (cUpTo σ (nI j))) ∧ ¬ cStandTo σ (nI j) = 0) ∧ (nI t = 1 → ¬ oFalls σ (nI j) = -6 → (¬ oFalls σ (nI j) ≤ 0) ∧ ¬ 700 < oFalls σ (nI j)) ∧ (¬ nI t = 1 → oFalls σ (nI j) = -5) ∧ (¬ oFalls σ (nI j) < 0 → (¬ oNextFall σ 1 < 0) ∧ ¬ oFalls σ (nI j) < oNextFall σ 1)
theorem lotF {σ : Sg} (h : QI σ) {j t : Nat} (hj : j < nLo σ) (ht : t < 5) (et : σ 2 j = nI t) : LotF σ j t := by
  have l12 := h.2.1.lok.2
  have l30 := h.2.1.cok.2
  obtain ⟨v1, v2, v3⟩ := h.1.1.val hj
  obtain ⟨_, _, k3, k4, k, k5, k6⟩ := h.1.1 j hj
  have d2 := (num_0 h).2
  obtain ⟨_, _, _, D, hD', hd, hk3, _⟩ := h.2.1.wn
  have eD : dN σ = D := by
    unfold dN
    rw [hd, nI_clamp (by omega)]
  obtain ⟨k', k7, k8⟩ := hk3 j hj
  have hf := falls_n h hj
  have hw := why_n h hj
  refine ⟨?_, ?_, nng (by omega), ?_, ?_, ?_, ?_, ?_, ?_, ?_, ?_, ?_, ?_, hw.2, ?_, ?_, ?_, ?_⟩
  · rw [nI_le0' (by omega)]
    omega
  · rw [show (10000 : Int32) = nI 10000 from rfl, nI_leI (by decide) (by omega)]
    omega
  · rw [show (5 : Int32) = nI 5 from rfl, nI_leI (by decide) (by omega)]
    omega
  · refine bit_1 (by omega) ?_
    rw [gb_lIn h.2.1.lok _ (by omega), decide_eq_true hj, decide_eq_true et]
    rfl
  · refine gb_ext fun i hi => ?_
    unfold cStandTo
    rw [gb_and, gb_and]
    cases gb (cToLot σ (nI j)) i <;> simp
  · intro q
    rw [← et] at q
    exact stand_no h hj q
  · intro q
    refine k3 ?_
    rw [et]
    rw [show (0 : Int32) = nI 0 from rfl, nI_ltI (by decide) (by omega)] at q
    rw [show t = 0 by omega]
    rfl
  · intro q
    rw [show (2 : Int32) = nI 2 from rfl, nI_ltI (by decide) (by omega)] at q
    refine k4 ?_ ?_
    · rw [et]
      intro e
      have := nI_inj2 (b := 3) (by omega) (by decide) e
      omega
    · rw [et]
      intro e
      have := nI_inj2 (b := 4) (by omega) (by decide) e
      omega
  · rw [k8]
    exact nng (by omega)
  · rw [k8, nI_ltI (by omega) (by omega)]
    omega
  · rw [k6, nI_ltI (by omega) (by omega)]
    omega
  · intro q
    exact hw.1 (fun e => q (et.symm.trans e))
  · intro q
    rcases near_c h.1.2.1 h.2.1.cok (cUpTo σ (nI j)) with ⟨e, _⟩ | ⟨c, l, c1, c2, c3, c4, c5, c6⟩
    · exact absurd e q
    · rw [c6]
      refine ⟨?_, ?_, ?_⟩
      · rw [nI_le0' (by omega)]
        omega
      · rw [show (6 : Int32) = nI 6 from rfl, nI_leI (by decide) (by omega)]
        omega
      · intro e
        have g : gb (cStandTo σ (nI j)) c = true := by
          rw [← cStandTo_or h.2.1.cok, gb_or, c2, Bool.or_true]
        rw [e, gb_0] at g
        exact absurd g (by decide)
  · intro q q6
    rcases hf.2 (et.trans q) with e | ⟨f, f1, f2, e⟩
    · exact absurd e q6
    · rw [e]
      refine ⟨?_, ?_⟩
      · rw [nI_le0' (by omega)]
        omega
      · rw [show (700 : Int32) = nI 700 from rfl, nI_ltI (by decide) (by omega)]
        omega
  · intro q
    exact hf.1 (fun e => q (et.symm.trans e))
  · intro q
    have key : ∃ f, 1 ≤ f ∧ f ≤ 700 ∧ oFalls σ (nI j) = nI f := by
      by_cases q1 : σ 2 j = 1
      · rcases hf.2 q1 with e | e
        · rw [e] at q
          exact absurd (by decide) q
        · exact e
      · rw [hf.1 q1] at q
        exact absurd (by decide) q
    obtain ⟨f, f1, f2, e⟩ := key
    have en : oNextFall σ 1 = (lp (ffF σ) 0 (nLo σ) (-6, -6)).2 := rfl
    rw [en, e]
    rcases next_lp h (nLo σ) (Nat.le_refl _) with ⟨_, hz⟩ | ⟨f', a1, a2, a3, a4⟩
    · have := hz j hj
      rw [e, nI_le0' (by omega)] at this
      omega
    · rw [a3]
      have := a4 j f hj f2 f1 e
      refine ⟨nng (by omega), ?_⟩
      rw [nI_ltI (by omega) (by omega)]
      omega
/-- what is summed up -/
def SO (σ : Sg) (n : Nat) : Int32 := lp (fun j a => a ||| cStandTo σ (nI j)) 0 n 0
theorem SO_s (σ : Sg) (n : Nat) : SO σ n ||| cStandTo σ (nI n) = SO σ (n + 1) := by
  unfold SO
  rw [lp_last, Nat.zero_add]
theorem SO_all {σ : Sg} (h : QI σ) : SO σ (nLo σ) = cStanding σ := by
  have l12 := h.2.1.lok.2
  have l30 := h.2.1.cok.2
  refine gb_ext fun i hi => ?_
  rw [Bool.eq_iff_iff]
  unfold SO
  rw [gb_lpor (fun j => cStandTo σ (nI j)), gb_0, cStanding_bs h.2.1.cok, gb_bs _ (by omega) hi]
  constructor
  · rintro (q | ⟨j, _, h2, h3⟩)
    · exact absurd q (by decide)
    · rw [gb_cStandTo h.2.1.cok _ hi] at h3
      simp only [Bool.and_eq_true, decide_eq_true_eq] at h3 ⊢
      exact ⟨h3.1, h3.2.2⟩
  · intro q
    simp only [Bool.and_eq_true, decide_eq_true_eq] at q
    obtain ⟨j, hj, e⟩ := h.2.1.wt i q.1
    refine Or.inr ⟨j, Nat.zero_le _, by omega, ?_⟩
    rw [gb_cStandTo h.2.1.cok _ hi, decide_eq_true q.1, decide_eq_true e, q.2]
    rfl
theorem wN_in {σ : Sg} {j t : Nat} (ht : t < 5) (et : σ 2 j = nI t) : (2 ≤ nI t → (0 : Int32) = nI (wN σ j)) ∧ (¬ 2 ≤ nI t → nI (vN σ j) = nI (wN σ j)) ∧ (¬ nI t = 3 → (0 : Int32) = nI (fN σ j)) ∧ (nI t = 3 → nI (vN σ j) = nI (fN σ j)) ∧ (¬ nI t = 2 → (0 : Int32) = nI (gN σ j)) ∧ (nI t = 2 → nI (vN σ j) = nI (gN σ j)) := by
  unfold wN fN gN
  rw [et]
  rcases (show t = 0 ∨ t = 1 ∨ t = 2 ∨ t = 3 ∨ t = 4 by omega) with rfl | rfl | rfl | rfl | rfl
  · exact ⟨fun q => absurd q (by decide), fun _ => rfl, fun _ => rfl, fun q => absurd q (by decide), fun _ => rfl, fun q => absurd q (by decide)⟩
  · exact ⟨fun q => absurd q (by decide), fun _ => rfl, fun _ => rfl, fun q => absurd q (by decide), fun _ => rfl, fun q => absurd q (by decide)⟩
  · exact ⟨fun _ => rfl, fun q => absurd (by decide) q, fun _ => rfl, fun q => absurd q (by decide), fun q => absurd rfl q, fun _ => rfl⟩
  · exact ⟨fun _ => rfl, fun q => absurd (by decide) q, fun q => absurd rfl q, fun _ => rfl, fun _ => rfl, fun q => absurd q (by decide)⟩
  · exact ⟨fun _ => rfl, fun q => absurd (by decide) q, fun _ => rfl, fun q => absurd q (by decide), fun _ => rfl, fun q => absurd q (by decide)⟩
theorem xn_0 {σ : Sg} (h : QI σ) (n : Nat) (P : PD) : xCount σ n P 0 = nI (dN σ) := (xC_0 σ n P).trans ((num_0 h).1)
theorem xn_1 {σ : Sg} (h : QI σ) (n : Nat) (P : PD) : xCount σ n P 1 = nI (nLo σ) := (xC_1 σ n P).trans (num_1 h)
theorem xn_2 {σ : Sg} (h : QI σ) (n : Nat) (P : PD) : xCount σ n P 2 = nI (nCl σ) := (xC_2 σ n P).trans (num_2 h)
theorem xn_8 {σ : Sg} (h : QI σ) (n : Nat) (P : PD) : xCount σ n P 8 = nI (sN (vN σ) (nLo σ)) := (xC_8 σ n P).trans (num_8 h)
theorem xn_9 {σ : Sg} (h : QI σ) (n : Nat) (P : PD) : xCount σ n P 9 = nI (sN (wN σ) (nLo σ)) := (xC_9 σ n P).trans (num_9 h)
theorem xn_10 {σ : Sg} (h : QI σ) (n : Nat) (P : PD) : xCount σ n P 10 = nI (kN σ) := (xC_10 σ n P).trans (num_10 h)
theorem xn_11 {σ : Sg} (h : QI σ) (n : Nat) (P : PD) : xCount σ n P 11 = nI (sN (bN σ) (nCl σ)) := (xC_11 σ n P).trans (num_11 h)
theorem xn_12 {σ : Sg} (h : QI σ) (n : Nat) (P : PD) : xCount σ n P 12 = cStanding σ := (xC_12 σ n P).trans (oN_12 σ)
theorem xn_3 {σ : Sg} (n : Nat) (P : PD) : xCount σ n P 3 = lIn σ 0 := (xC_3 σ n P).trans (oN_3 σ)
theorem xn_4 {σ : Sg} (n : Nat) (P : PD) : xCount σ n P 4 = lIn σ 1 := (xC_4 σ n P).trans (oN_4 σ)
theorem xn_5 {σ : Sg} (n : Nat) (P : PD) : xCount σ n P 5 = lIn σ 2 := (xC_5 σ n P).trans (oN_5 σ)
theorem xn_6 {σ : Sg} (n : Nat) (P : PD) : xCount σ n P 6 = lIn σ 3 := (xC_6 σ n P).trans (oN_6 σ)
theorem xn_7 {σ : Sg} (n : Nat) (P : PD) : xCount σ n P 7 = lIn σ 4 := (xC_7 σ n P).trans (oN_7 σ)
theorem xn_14 {σ : Sg} (n : Nat) (P : PD) : xCount σ n P 14 = σ 0 0 := (xC_14 σ n P).trans (oN_14 σ)
theorem xn_15 {σ : Sg} (n : Nat) (P : PD) : xCount σ n P 15 = σ 0 1 := (xC_15 σ n P).trans (oN_15 σ)
theorem xn_16 {σ : Sg} (n : Nat) (P : PD) : xCount σ n P 16 = σ 0 2 := (xC_16 σ n P).trans (oN_16 σ)
theorem xn_17 {σ : Sg} (n : Nat) (P : PD) : xCount σ n P 17 = σ 0 3 := (xC_17 σ n P).trans (oN_17 σ)
theorem xn_18 {σ : Sg} (n : Nat) (P : PD) : xCount σ n P 18 = σ 0 4 := (xC_18 σ n P).trans (oN_18 σ)
