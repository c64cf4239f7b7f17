/-! what a caller sees of the claims -/
def stB (σ : Sg) (k : Nat) : Int32 := if sStands σ k = true then bit k else 0
def hwB (σ : Sg) (k : Nat) : Int32 := if sStands σ k = true then 1 else 0
theorem stB_s (σ : Sg) (k : Nat) : bs (sStands σ) k ||| stB σ k = bs (sStands σ) (k + 1) := by
  unfold bs stB
  rw [lp_last, Nat.zero_add]
  unfold bsf
  split
  · rfl
  · exact or_0 _
theorem st_w {σ : Sg} {k w : Nat} (hw : w < 6) (e : σ 9 k = nI w) : sStands σ k = true ↔ ¬ 2 ≤ nI w := by
  rw [sSt_n, e]
  rcases (show w = 0 ∨ w = 1 ∨ w = 2 ∨ w = 3 ∨ w = 4 ∨ w = 5 by omega) with rfl | rfl | rfl | rfl | rfl | rfl <;> decide
theorem stB_in {σ : Sg} {k w : Nat} (hw : w < 6) (e : σ 9 k = nI w) : (2 ≤ nI w → (0 : Int32) = stB σ k) ∧ (¬ 2 ≤ nI w → (1 : Int32) <<< (nI k &&& 31) = stB σ k) ∧ (2 ≤ nI w → (0 : Int32) = hwB σ k) ∧ (¬ 2 ≤ nI w → (1 : Int32) = hwB σ k) := by
  have h := st_w hw e
  unfold stB hwB
  refine ⟨fun q => ?_, fun q => ?_, fun q => ?_, fun q => ?_⟩
  · rw [if_neg (fun s => h.mp s q)]
  · rw [if_pos (h.mpr q)]
    rfl
  · rw [if_neg (fun s => h.mp s q)]
  · rw [if_pos (h.mpr q)]
def ClF (σ : Sg) (k w g j : Nat) : Prop := (¬ nI w < 0) ∧ (¬ 6 ≤ nI w) ∧ (¬ nI j < 0) ∧ (¬ nI (nLo σ) ≤ nI j) ∧ (¬ nI g < 0) ∧ (¬ 16 ≤ nI g) ∧ (¬ σ 7 k ≤ 0) ∧ (¬ 6 ≤ σ 7 k) ∧ (¬ σ 8 k < 0) ∧ (¬ 100 < σ 8 k) ∧ (¬ σ 10 k < 0) ∧ (¬ nI w = 5 → nI (bN σ k) = 0) ∧ (nI w = 5 → ¬ σ 2 j = 2 → σ 2 j = 4) ∧ (cToLot σ (nI j) >>> (nI k &&& 31) &&& 1 = 1) ∧ (cOfHeir σ (nI g) >>> (nI k &&& 31) &&& 1 = 1) ∧ ((cOfHeir σ (nI g) &&& cStanding σ) >>> (nI k &&& 31) &&& 1 = hwB σ k) ∧ ∀ i, i < k → ¬ 1 < nI w → ¬ 1 < σ 9 i → σ 5 i = nI g → ¬ σ 6 i = nI j
theorem not1 {σ : Sg} {i : Nat} (hw : ∃ w, w < 6 ∧ σ 9 i = nI w) (h : ¬ 1 < σ 9 i) : sStands σ i = true := by
  obtain ⟨w, hw, e⟩ := hw
  rw [st_w hw e]
  rw [e] at h
  revert h
  rcases (show w = 0 ∨ w = 1 ∨ w = 2 ∨ w = 3 ∨ w = 4 ∨ w = 5 by omega) with rfl | rfl | rfl | rfl | rfl | rfl <;> decide
theorem clF {σ : Sg} (h : QI σ) {k w g j : Nat} (hk : k < nCl σ) (hw : w < 6) (hg : g < 16) (hj : j < nLo σ) (e9 : σ 9 k = nI w) (e5 : σ 5 k = nI g) (e6 : σ 6 k = nI j) : ClF σ k w g j := by
  have l12 := h.2.1.lok.2
  have l30 := h.2.1.cok.2
  obtain ⟨⟨l, l1, l2, e7⟩, k2, k3, k4⟩ := h.1.2.1 k hk
  obtain ⟨a, ha, e8⟩ := h.2.2.2 k hk
  obtain ⟨_, _, _, D, hD', hd, _, hw10⟩ := h.2.1.wn
  obtain ⟨b, hb, e10⟩ := hw10 k hk
  have el : loN σ k = j := by
    unfold loN
    rw [e6, nI_clamp (by omega)]
  refine ⟨nng (by omega), ?_, nng (by omega), ?_, nng (by omega), ?_, ?_, ?_, ?_, ?_, ?_, ?_, ?_, ?_, ?_, ?_, ?_⟩
  · rw [show (6 : Int32) = nI 6 from rfl, nI_leI (by decide) (by omega)]
    omega
  · rw [nI_leI (by omega) (by omega)]
    omega
  · rw [show (16 : Int32) = nI 16 from rfl, nI_leI (by decide) (by omega)]
    omega
  · rw [e7, nI_le0' (by omega)]
    omega
  · rw [e7, show (6 : Int32) = nI 6 from rfl, nI_leI (by decide) (by omega)]
    omega
  · rw [e8]
    exact nng (by omega)
  · rw [e8, show (100 : Int32) = nI 100 from rfl, nI_ltI (by decide) (by omega)]
    omega
  · rw [e10]
    exact nng (by omega)
  · intro q
    rw [← (bN_n h hk).1]
    exact k2 (fun e => q (e9.symm.trans e))
  · intro q q2
    have := k3 (e9.trans q)
    rw [el] at this
    rcases this with t | t
    · exact absurd t q2
    · exact t
  · refine bit_1 (by omega) ?_
    rw [gb_cToLot h.2.1.cok _ (by omega), decide_eq_true hk, decide_eq_true e6]
    rfl
  · refine bit_1 (by omega) ?_
    rw [gb_cOfHeir h.2.1.cok _ (by omega), decide_eq_true hk, decide_eq_true e5]
    rfl
  · have g : gb (cOfHeir σ (nI g) &&& cStanding σ) k = sStands σ k := by
      rw [gb_and, gb_cOfHeir h.2.1.cok _ (by omega), decide_eq_true hk, decide_eq_true e5, cStanding_bs h.2.1.cok, gb_bs _ (by omega) (by omega), decide_eq_true hk]
      rfl
    unfold hwB
    rw [and1 _ (by omega), g]
  · intro i hi q1 q2 q5 q6
    rw [← e9] at q1
    have := h.2.1.wo i k (by omega) hk (not1 (h.2.1.ws i (by omega)) q2) (not1 (h.2.1.ws k hk) q1) (q5.trans e5.symm) (q6.trans e6.symm)
    omega
/-- purses -/
def hN (σ : Sg) (g c : Nat) : Nat := if σ 5 c = nI g then bN σ c else 0
def pu (σ : Sg) (g : Nat) : Nat := sN (hN σ g) (nCl σ)
theorem purse_n {σ : Sg} (h : QI σ) (g : Nat) : sPurse σ (nI g) = nI (pu σ g) := by
  have l30 := h.2.1.cok.2
  unfold sPurse
  rw [lp_sum (M := 0) (f := fun i => if i < nCl σ then hN σ g i else 0) 30 (by decide)]
  · congr 1
    have := sN_cut (f := fun i => if i < nCl σ then hN σ g i else 0) (n := nCl σ) (30 - nCl σ) fun i h1 _ => if_neg (by omega)
    rw [show nCl σ + (30 - nCl σ) = 30 by omega] at this
    rw [this]
    exact sN_ext _ fun i hi => if_pos hi
  · intro i hi
    rw [gb_cOfHeir h.2.1.cok _ (by omega)]
    by_cases q : i < nCl σ
    · rw [decide_eq_true q, if_pos q, Bool.true_and]
      unfold hN
      by_cases q2 : σ 5 i = nI g
      · rw [if_pos q2, if_pos (decide_eq_true q2)]
        exact (bN_n h q).1
      · rw [if_neg q2, if_neg (by simpa using q2)]
        rfl
    · rw [decide_eq_false q, if_neg q]
      rfl
theorem sN_swap (F : Nat → Nat → Nat) (m : Nat) : ∀ n, sN (fun g => sN (F g) n) m = sN (fun c => sN (fun g => F g c) m) n
  | 0 => by
    have : ∀ m, sN (fun g => sN (F g) 0) m = 0 := by
      intro m
      induction m with
      | zero => rfl
      | succ m ih => rw [sN_last, ih]; rfl
    exact this m
  | n + 1 => by
    rw [sN_last, ← sN_swap F m n]
    exact sN_add m fun j _ => rfl
theorem pu_all {σ : Sg} (h : QI σ) : sN (pu σ) 16 = sN (bN σ) (nCl σ) := by
  unfold pu
  rw [sN_swap (hN σ) 16 (nCl σ)]
  refine sN_ext _ fun c hc => ?_
  obtain ⟨g, hg, e⟩ := h.2.1.wh c hc
  have h1 := sN_one (f := fun g => hN σ g c) (g := fun _ => 0) (j := g) 16 (fun i hi hne => by
    unfold hN
    rw [if_neg]
    rw [e]
    intro q
    exact hne (nI_inj2 (by omega) (by omega) q).symm) hg
  have h0 : sN (fun _ => 0) 16 = 0 := rfl
  have h2 : hN σ g c = bN σ c := by
    unfold hN
    rw [if_pos e]
  omega
theorem pu_le {σ : Sg} (h : QI σ) {g : Nat} (hg : g < 16) : pu σ g ≤ 119988 := by
  have t := h.1.tot h.2.1.lok.2
  have h1 := pu_all h
  have e1 := sN_mono (f := fun i => if i = g then pu σ g else 0) (g := pu σ) 16 (fun i _ => by
    try dsimp only
    split
    next e => rw [e]; exact Nat.le_refl _
    · exact Nat.zero_le _)
  have e2 := sN_one (f := fun i => if i = g then pu σ g else 0) (g := fun _ => 0) (j := g) 16 (fun i _ hi => if_neg hi) hg
  have h0 : sN (fun _ => 0) 16 = 0 := rfl
  try dsimp only at e2
  rw [if_pos rfl] at e2
  omega
theorem pu_acc {σ : Sg} (h : QI σ) : ∀ n, n ≤ 16 → sN (pu σ) n ≤ 119988 := by
  intro n hn
  have t := h.1.tot h.2.1.lok.2
  have h1 := pu_all h
  have e : ∀ k m, sN (pu σ) m ≤ sN (pu σ) (m + k) := by
    intro k
    induction k with
    | zero => exact fun m => Nat.le_refl _
    | succ k ih =>
      intro m
      have := ih m
      show _ ≤ sN (pu σ) (m + k) + _
      omega
  have := e (16 - n) n
  rw [show n + (16 - n) = 16 by omega] at this
  omega
def pdB (σ : Sg) (g : Nat) : Bool := decide (0 < pu σ g)
def pdn (σ : Sg) (g : Nat) : Nat := if pdB σ g = true then 1 else 0
theorem pdn_in {σ : Sg} (h : QI σ) {g : Nat} (hg : g < 16) : (nI (pu σ g) ≤ 0 → (0 : Int32) = nI (pdn σ g)) ∧ (¬ nI (pu σ g) ≤ 0 → (1 : Int32) = nI (pdn σ g)) := by
  have := pu_le h hg
  rw [nI_le0' (by omega)]
  unfold pdn pdB
  constructor
  · intro q
    rw [decide_eq_false (by omega)]
    rfl
  · intro q
    rw [decide_eq_true (by omega)]
    rfl
theorem pdn_s (σ : Sg) (i : Nat) : nI (cnt (pdB σ) 0 i) + nI (pdn σ i) = nI (cnt (pdB σ) 0 (i + 1)) := by
  rw [nI_add, cnt_s]
  rfl
theorem sN_pos {f : Nat → Nat} : ∀ n, 0 < sN f n ↔ ∃ i, i < n ∧ 0 < f i
  | 0 => ⟨fun h => absurd h (Nat.lt_irrefl 0), fun ⟨i, hi, _⟩ => absurd hi (by omega)⟩
  | n + 1 => by
    rw [sN_last]
    have ih := sN_pos (f := f) n
    constructor
    · intro q
      by_cases q1 : 0 < f n
      · exact ⟨n, by omega, q1⟩
      · obtain ⟨i, hi, h⟩ := ih.mp (by omega)
        exact ⟨i, by omega, h⟩
    · rintro ⟨i, hi, h⟩
      by_cases q1 : i = n
      · subst q1
        omega
      · have := ih.mpr ⟨i, by omega, h⟩
        omega
theorem lots_of {σ : Sg} (h : QI σ) {g : Nat} (hg : g < 16) : lp (sNumf (σ 6) (cOfHeir σ (nI g) &&& cBrought σ)) 0 30 0 = 0 ↔ pdB σ g = false := by
  have l12 := h.2.1.lok.2
  have l30 := h.2.1.cok.2
  have hs : ∀ c, c < 30 → gb (cOfHeir σ (nI g) &&& cBrought σ) c = (decide (c < nCl σ) && (decide (σ 5 c = nI g) && !decide (σ 11 c = 0))) := fun c hc => by
    rw [gb_and, gb_cOfHeir h.2.1.cok _ (by omega), gb_cBrought h.2.1.cok (by omega)]
    cases decide (c < nCl σ) <;> simp
  have e2 : lp (sNumf (σ 6) (cOfHeir σ (nI g) &&& cBrought σ)) 0 30 0 = lp (fun c a => a ||| (if gb (cOfHeir σ (nI g) &&& cBrought σ) c = true then (1 : Int32) <<< (σ 6 c &&& 31) else 0)) 0 30 0 := by
    refine lp_ext _ _ _ fun c _ hc a => ?_
    unfold sNumf
    rw [sHolds_gb _ (by omega)]
    by_cases q : gb (cOfHeir σ (nI g) &&& cBrought σ) c = true
    · rw [if_pos q, if_pos q]
    · rw [if_neg q, if_neg q, or_0]
  have b0 : ∀ c, c < nCl σ → (σ 11 c = 0 ↔ bN σ c = 0) := fun c hc => by
    obtain ⟨q1, q2⟩ := bN_n h hc
    rw [q1]
    exact ⟨fun e => nI_inj2 (b := 0) (by omega) (by decide) e, fun e => by rw [e]; rfl⟩
  unfold pdB
  rw [decide_eq_false_iff_not]
  unfold pu
  rw [sN_pos, e2]
  constructor
  · rintro q ⟨c, hc, hp⟩
    unfold hN at hp
    by_cases q5 : σ 5 c = nI g
    · rw [if_pos q5] at hp
      obtain ⟨j, hj, e6⟩ := h.2.1.wt c hc
      have gg := (gb_lpor (fun c => if gb (cOfHeir σ (nI g) &&& cBrought σ) c = true then (1 : Int32) <<< (σ 6 c &&& 31) else 0) j 30 0 0).mpr (Or.inr ⟨c, Nat.zero_le _, by omega, by
        rw [if_pos (by rw [hs c (by omega), decide_eq_true hc, decide_eq_true q5, decide_eq_false (fun e => by have := (b0 c hc).mp e; omega)]; rfl), e6]
        show gb (bit j) j = true
        rw [gb_bit j (by omega) j (by omega)]
        exact decide_eq_true rfl⟩)
      rw [q, gb_0] at gg
      exact absurd gg (by decide)
    · rw [if_neg q5] at hp
      exact absurd hp (Nat.lt_irrefl 0)
  · intro q
    refine lp_id _ _ _ fun c _ hc a => ?_
    rw [if_neg, or_0]
    rw [hs c (by omega)]
    simp only [Bool.and_eq_true, decide_eq_true_eq, Bool.not_eq_true', decide_eq_false_iff_not]
    rintro ⟨q1, q2, q3⟩
    rw [b0 c q1] at q3
    exact q ⟨c, q1, by unfold hN; rw [if_pos q2]; omega⟩
theorem lots_in {σ : Sg} (h : QI σ) {g : Nat} (hg : g < 16) : (lp (sNumf (σ 6) (cOfHeir σ (nI g) &&& cBrought σ)) 0 30 0 = 0 → (0 : Int32) = nI (pdn σ g)) ∧ (¬ lp (sNumf (σ 6) (cOfHeir σ (nI g) &&& cBrought σ)) 0 30 0 = 0 → (1 : Int32) = nI (pdn σ g)) := by
  rw [lots_of h hg]
  unfold pdn
  constructor
  · intro q
    rw [q]
    rfl
  · intro q
    rw [if_pos (by simpa using q)]
    rfl
/-- as many as are listed -/
theorem cnt_list {m : Nat} (f : Nat → Nat) : ∀ (n : Nat) (p : Nat → Bool), (∀ k, k < n → f k < m) → (∀ k l, k < n → l < n → f k = f l → k = l) → (∀ i, i < m → (p i = true ↔ ∃ k, k < n ∧ f k = i)) → cnt p 0 m = n
  | 0, p, _, _, h => cnt_0 _ _ fun j _ hj => by
    cases q : p j
    · rfl
    · obtain ⟨k, hk, _⟩ := (h j (by omega)).mp q
      omega
  | n + 1, p, h1, h2, h => by
    have ih := cnt_list f n (fun i => p i && !decide (i = f n)) (fun k hk => h1 k (by omega)) (fun k l hk hl e => h2 k l (by omega) (by omega) e) fun i hi => by
      simp only [Bool.and_eq_true, Bool.not_eq_true', decide_eq_false_iff_not]
      rw [h i hi]
      constructor
      · rintro ⟨⟨k, hk, e⟩, hne⟩
        refine ⟨k, ?_, e⟩
        rcases Nat.lt_or_ge k n with q | q
        · exact q
        · exfalso
          rw [show k = n by omega] at e
          exact hne e.symm
      · rintro ⟨k, hk, e⟩
        refine ⟨⟨k, by omega, e⟩, fun e2 => ?_⟩
        have := h2 k n (by omega) (by omega) (e.trans e2)
        omega
    rw [cnt_up (p := fun i => p i && !decide (i = f n)) (a := f n) m (fun i _ hne => by
      try dsimp only
      rw [decide_eq_false hne]
      simp) ((h (f n) (h1 n (by omega))).mpr ⟨n, by omega, rfl⟩) (by simp), ih, if_pos (h1 n (by omega))]
theorem cnt_at_most {m : Nat} (f : Nat → Nat) : ∀ (n : Nat) (p : Nat → Bool), (∀ i, i < m → p i = true → ∃ k, k < n ∧ f k = i) → cnt p 0 m ≤ n
  | 0, p, h => by
    rw [cnt_0]
    · exact Nat.le_refl _
    · intro j _ hj
      cases q : p j
      · rfl
      · obtain ⟨k, hk, _⟩ := h j (by omega) q
        omega
  | n + 1, p, h => by
    have ih := cnt_at_most f n (fun i => p i && !decide (i = f n)) fun i hi q => by
      simp only [Bool.and_eq_true, Bool.not_eq_true', decide_eq_false_iff_not] at q
      obtain ⟨k, hk, e⟩ := h i hi q.1
      refine ⟨k, ?_, e⟩
      rcases Nat.lt_or_ge k n with q' | q'
      · exact q'
      · exfalso
        rw [show k = n by omega] at e
        exact q.2 e.symm
    cases q : p (f n)
    · have e : cnt p 0 m = cnt (fun i => p i && !decide (i = f n)) 0 m := cnt_ext _ _ fun j _ _ => by
        by_cases qj : j = f n
        · rw [qj, q]
          rfl
        · rw [decide_eq_false qj]
          simp
      omega
    · have e := cnt_up (p := fun i => p i && !decide (i = f n)) (q := p) (a := f n) m (fun i _ hne => by
        try dsimp only
        rw [decide_eq_false hne]
        simp) q (by simp)
      rw [e]
      split <;> omega
theorem paid_n {σ : Sg} (h : QI σ) : (∀ r, r < nPd σ → ∃ g, g < 16 ∧ σ 12 r = nI g) ∧ nPd σ ≤ 16 ∧ cnt (pdB σ) 0 16 = nPd σ := by
  obtain ⟨w1, w2, w3⟩ := h.2.1.wp
  refine ⟨w2, w1.2, ?_⟩
  have l30 := h.2.1.cok.2
  refine cnt_list (fun k => (σ 12 k).toNatClampNeg) (nPd σ) (pdB σ) (fun k hk => ?_) (fun k l hk hl e => ?_) fun i hi => ?_
  · obtain ⟨g, hg, e⟩ := w2 k hk
    try dsimp only
    rw [e, nI_clamp (by omega)]
    exact hg
  · obtain ⟨g, hg, e1⟩ := w2 k hk
    obtain ⟨g', hg', e2⟩ := w2 l hl
    try dsimp only at e
    rw [e1, e2, nI_clamp (by omega), nI_clamp (by omega)] at e
    exact w3 k l hk hl (by rw [e1, e2, e])
  · have hq := h.2.1.wq i hi
    rw [mPd_iff, purse_n h] at hq
    have hp := pu_le h hi
    have hz : pdB σ i = true ↔ ¬ nI (pu σ i) = 0 := by
      unfold pdB
      rw [decide_eq_true_iff]
      constructor
      · intro q e
        have := nI_inj2 (b := 0) (by omega) (by decide) e
        omega
      · intro q
        refine Nat.pos_of_ne_zero fun e => q ?_
        rw [e]
        rfl
    rw [hz, ← hq]
    constructor
    · rintro ⟨k, hk, e⟩
      exact ⟨k, hk, by rw [e, nI_clamp (by omega)]⟩
    · rintro ⟨k, hk, e⟩
      obtain ⟨g, hg, e1⟩ := w2 k hk
      try dsimp only at e
      rw [e1, nI_clamp (by omega)] at e
      exact ⟨k, hk, by rw [e1, e]⟩
theorem num_13 {σ : Sg} (h : QI σ) : ∃ m, oNumber σ 13 = nI m ∧ m ≤ nCl σ := by
  have l30 := h.2.1.cok.2
  have e : oNumber σ 13 = sBit (lp (sNumf (σ 5) (cAll σ)) 0 30 0) := oN_13 σ
  have hg := who_gb h.2.1.cok h.2.1.wh
  refine ⟨_, by rw [e, sBit_cnt], ?_⟩
  refine cnt_at_most (fun c => (σ 5 c).toNatClampNeg) (nCl σ) _ fun i hi q => ?_
  obtain ⟨c, hc, e⟩ := (hg i hi).mp q
  exact ⟨c, hc, by rw [e, nI_clamp (by omega)]⟩
theorem paid_out {σ : Sg} (h : QI σ) : oPaid σ (nI (nPd σ)) = -1 ∧ oPaid σ (-1) = -1 := by
  have w := h.2.1.wp.1
  have := w.2
  constructor
  · unfold oPaid
    rw [if_neg (nng (by omega)), if_pos (by rw [w.1]; exact Int32.le_refl _)]
  · rfl
theorem paid_in {σ : Sg} (h : QI σ) {r : Nat} (hr : r < nPd σ) : oPaid σ (nI r) = σ 12 r := by
  have w := h.2.1.wp.1
  have := w.2
  unfold oPaid
  rw [if_neg (nng (by omega)), if_neg (by rw [w.1, nI_leI (by omega) (by omega)]; omega), nI_clamp (by omega)]
def pdM (σ : Sg) (r : Nat) : Int32 := lp (fun k a => a ||| ((1 : Int32) <<< (σ 12 k &&& 31))) 0 r 0
theorem pdM_s {σ : Sg} {r g : Nat} (e : σ 12 r = nI g) : pdM σ r ||| ((1 : Int32) <<< (nI g &&& 31)) = pdM σ (r + 1) := by
  unfold pdM
  rw [lp_last, Nat.zero_add, e]
theorem pdM_0 {σ : Sg} (h : QI σ) {r g : Nat} (hr : r < nPd σ) (hg : g < 16) (e : σ 12 r = nI g) : pdM σ r >>> (nI g &&& 31) &&& 1 = 0 := by
  refine bit_0 (by omega) ?_
  obtain ⟨w1, w2, w3⟩ := h.2.1.wp
  cases q : gb (pdM σ r) g
  · rfl
  · unfold pdM at q
    rw [gb_lpor (fun k => (1 : Int32) <<< (σ 12 k &&& 31)), gb_0] at q
    rcases q with q | ⟨k, _, hk, q⟩
    · exact absurd q (by decide)
    · obtain ⟨g', hg', e'⟩ := w2 k (by omega)
      rw [e'] at q
      have q : gb (bit g') g = true := q
      rw [gb_bit g' (by omega) g (by omega), decide_eq_true_eq] at q
      have := w3 k r (by omega) hr (by rw [e', e, q])
      omega
theorem paid_pu {σ : Sg} (h : QI σ) {r g : Nat} (hr : r < nPd σ) (hg : g < 16) (e : σ 12 r = nI g) : ¬ nI (pu σ g) ≤ 0 := by
  have hq := (h.2.1.wq g hg).mp (mPd_iff.mpr ⟨r, hr, e⟩)
  rw [purse_n h] at hq
  have := pu_le h hg
  rw [nI_le0' (by omega)]
  intro e0
  rw [e0] at hq
  exact hq rfl
theorem lapse_lp (σ : Sg) : ∀ n, n ≤ 30 → lp (flF σ) 0 n (-6) = -6 ∨ ∃ c, c < n ∧ σ 9 c = 0 ∧ lp (flF σ) 0 n (-6) = nI c
  | 0, _ => Or.inl rfl
  | n + 1, hn => by
    have ih := lapse_lp σ n (by omega)
    rw [lp_last, Nat.zero_add]
    generalize lp (flF σ) 0 n (-6) = a at ih
    unfold flF
    have hold : a = -6 ∨ ∃ c, c < n + 1 ∧ σ 9 c = 0 ∧ a = nI c := by
      rcases ih with e | ⟨c, h1, h2, h3⟩
      · exact Or.inl e
      · exact Or.inr ⟨c, by omega, h2, h3⟩
    by_cases q : sOpen σ n = true
    · have q0 : σ 9 n = 0 := by
        unfold sOpen at q
        simpa using q
      rw [if_pos q]
      split
      · exact Or.inr ⟨n, by omega, q0, rfl⟩
      · split
        · exact Or.inr ⟨n, by omega, q0, rfl⟩
        · exact hold
    · rw [if_neg q]
      exact hold
theorem lapse_n {σ : Sg} (h : QI σ) : (oNextLapse σ 0 = -6 ∧ oNextLapse σ 1 = -6) ∨ ∃ c l, c < nCl σ ∧ σ 9 c = 0 ∧ 1 ≤ l ∧ l ≤ 200 ∧ oNextLapse σ 1 = nI c ∧ oNextLapse σ 0 = nI l := by
  have l30 := h.2.1.cok.2
  have e1 : oNextLapse σ 1 = lp (flF σ) 0 (nCl σ) (-6) := rfl
  have e0 : oNextLapse σ 0 = if lp (flF σ) 0 (nCl σ) (-6) = -6 then lp (flF σ) 0 (nCl σ) (-6) else sLapse σ (lp (flF σ) 0 (nCl σ) (-6)).toNatClampNeg := rfl
  rw [e0, e1]
  rcases lapse_lp σ (nCl σ) l30 with e | ⟨c, hc, h9, e⟩
  · rw [e]
    exact Or.inl ⟨rfl, rfl⟩
  · obtain ⟨l, l1, l2, el⟩ := h.2.1.wl c hc
    refine Or.inr ⟨c, l, hc, h9, l1, l2, e, ?_⟩
    rw [e, if_neg, nI_clamp (by omega), el]
    intro q
    have h1 := congrArg Int32.toInt q
    rw [nI_int (by omega)] at h1
    have h2 : (-6 : Int32).toInt = -6 := rfl
    omega
theorem n6 {b : Nat} (h : b < 2 ^ 31) : ¬ nI b = -6 := by
  intro q
  have h1 := congrArg Int32.toInt q
  rw [nI_int h] at h1
  have h2 : (-6 : Int32).toInt = -6 := rfl
  omega
