/-! when a lot falls: lived through, and reckoned -/
theorem sLapse_n {σ : Sg} {c l w : Nat} (hl : σ 0 2 = nI l) (hw : σ 10 c = nI w) (h1 : l ≤ 200) (h2 : w < 2 ^ 30) : sLapse σ c = nI (max 1 (l - w)) := by
  unfold sLapse
  rw [hl, hw, max32_1]
  have e := nI_sub (a := l) (b := w) (by omega) h2
  have o1 : (1 : Int32).toInt = 1 := rfl
  by_cases q : 1 ≤ nI l - nI w
  · rw [if_pos q]
    rw [Int32.le_iff_toInt_le, e, o1] at q
    rw [nI_subN (by omega), Nat.max_eq_right (by omega)]
  · rw [if_neg q]
    rw [Int32.le_iff_toInt_le, e, o1] at q
    rw [Nat.max_eq_left (by omega)]
    rfl
theorem JI.wl {σ : Sg} (h : JI σ) : WL σ := by
  intro c hc
  obtain ⟨_, ⟨l, l1, l2, e2⟩, _, D, hD, _, _, hw⟩ := h.wn
  obtain ⟨w, w1, e10⟩ := hw c hc
  exact ⟨_, by omega, by omega, sLapse_n e2 e10 (by omega) (by omega)⟩
/-- a lot's day, from anywhere -/
def gPc (σ : Sg) (j b : Nat) : Bool := decide (b < nCl σ) && decide (σ 6 b = nI j)
theorem mDay_any {σ : Sg} (hC : COk σ) (j : Nat) : (mDay j σ).1 0 = σ 0 ∧ (mDay j σ).1 6 = σ 6 ∧ (mDay j σ).1 13 1 = σ 13 1 ∧ (∀ c, c < nCl σ → σ 6 c = nI j → (mDay j σ).1 9 c = gS σ c ∧ (mDay j σ).1 10 c = gW σ c) ∧ (mDay j σ).1 2 j = (if gFa σ j = true then 3 else σ 2 j) ∧ (mDay j σ).1 3 j = if gCo σ j = true then σ 3 j + 1 else σ 3 j := by
  have h30 := hC.2
  have e1 : lp (mDayF j) 0 (nCl σ) σ = gDay σ (gPc σ j) (fun _ => false) (σ 13 3) := by
    have e := mDay_cls (σ := σ) (j := j) (pl := fun _ => false) (cr := σ 13 3) (nCl σ) 0 (fun _ => false) (fun _ _ _ _ => rfl)
    rw [gDay_0] at e
    rw [e]
    refine gDay_c (fun b => ?_) fun _ => rfl
    unfold gPc
    simp
  generalize hτ : gDay σ (gPc σ j) (fun _ => false) (σ 13 3) = τ at e1
  have n2 : τ 2 j = σ 2 j := by
    rw [← hτ, gDay_2]
    simp
  have n3 : τ 3 j = σ 3 j := by
    rw [← hτ, gDay_3]
    simp
  have nC : nCl τ = nCl σ := by
    rw [← hτ]
    rfl
  have hC2 : COk τ := by
    rw [← hτ]
    exact hC
  have n0 : τ 0 = σ 0 := by
    rw [← hτ]
    rfl
  have n6 : τ 6 = σ 6 := by
    rw [← hτ]
    rfl
  have n13 : τ 13 1 = σ 13 1 := by
    rw [← hτ]
    rfl
  have eco : d6 j τ = gCo σ j := by
    unfold d6 gCo gFree
    rw [n2, cStandTo_bs hC2, nC]
    have key : bs (fun c => decide (τ 6 c = nI j) && sStands τ c) (nCl σ) = bs (fun c => decide (σ 6 c = nI j) && gSt σ c) (nCl σ) := by
      refine bs_ext (by omega) fun i hi => ?_
      rw [n6]
      by_cases q : σ 6 i = nI j
      · have : gPc σ j i = true := by
          unfold gPc
          rw [q]
          simp [hi]
        unfold sStands gSt
        rw [← hτ, gDay_9, if_pos this]
      · rw [decide_eq_false q]
        rfl
    rw [key]
  have e2 : mDay j σ = dEnd (decide (σ 2 j = 3)) (gCo σ j) j τ := by
    unfold mDay
    dsimp only
    rw [e1, eco]
  have efa : d4 (gCo σ j) j (d5 (gCo σ j) j τ) = gFa σ j := by
    unfold d4 d5 gFa
    rw [up2_s, up2_k _ (by decide), n3, n0]
    cases q : gCo σ j
    · rw [Bool.false_and, Bool.false_and]
    · rw [if_pos rfl]
  rw [e2]
  unfold dEnd
  dsimp only
  rw [efa]
  unfold d1 d2 d3 d5
  refine ⟨?_, ?_, ?_, fun c hc h6 => ?_, ?_, ?_⟩
  · rw [← n0]
    rfl
  · rw [← n6]
    rfl
  · rw [← n13]
    rfl
  · have : gPc σ j c = true := by
      unfold gPc
      rw [h6]
      simp [hc]
    refine ⟨?_, ?_⟩
    · rw [up2_k _ (by decide), up2_k _ (by decide), up2_k _ (by decide), up2_k _ (by decide), ← hτ, gDay_9, if_pos this]
    · rw [up2_k _ (by decide), up2_k _ (by decide), up2_k _ (by decide), up2_k _ (by decide), ← hτ, gDay_10, if_pos this]
  · rw [up2_k _ (by decide), up2_k _ (by decide), up2_s, up2_k _ (by decide), n2]
  · rw [up2_k _ (by decide), up2_k _ (by decide), up2_k _ (by decide), up2_s, n3]
/-- no claim to the lot is upheld, the open ones lapse within u days -/
def FI (τ : Sg) (j l s W k u : Nat) : Prop := COk τ ∧ τ 0 0 = nI s ∧ τ 0 2 = nI l ∧ τ 2 j = 1 ∧ τ 3 j = nI k ∧ (∀ c, c < nCl τ → τ 6 c = nI j → ¬ τ 9 c = 1) ∧ (∀ c, c < nCl τ → τ 6 c = nI j → τ 9 c = 0 → ∃ w, w ≤ W ∧ τ 10 c = nI w ∧ l - w ≤ u + 1) ∧ (u = 0 ∨ ∃ c w, c < nCl τ ∧ τ 6 c = nI j ∧ τ 9 c = 0 ∧ w ≤ W ∧ τ 10 c = nI w ∧ l - w = u + 1)
theorem gFree_t {σ : Sg} (hC : COk σ) {j : Nat} (h : ∀ c, c < nCl σ → σ 6 c = nI j → gSt σ c = false) : gFree σ j = true := by
  have h30 := hC.2
  unfold gFree
  rw [decide_eq_true_iff, bs_eq0 (by omega)]
  intro i hi
  by_cases q : σ 6 i = nI j
  · rw [h i hi q, Bool.and_false]
  · rw [decide_eq_false q, Bool.false_and]
theorem gFree_f {σ : Sg} (hC : COk σ) {j c : Nat} (hc : c < nCl σ) (h6 : σ 6 c = nI j) (h : gSt σ c = true) : gFree σ j = false := by
  have h30 := hC.2
  unfold gFree
  rw [decide_eq_false_iff_not, bs_eq0 (by omega)]
  intro q
  have := q c hc
  rw [decide_eq_true h6, h] at this
  exact absurd this (by decide)
theorem FI.step0 {τ : Sg} {j l s W k : Nat} (h : FI τ j l s W k 0) (hW : W < 2 ^ 30) (hl : l ≤ 200) (hs : s ≤ 400) (hk : k < 2 ^ 30) : (s ≤ k + 1 → (mDay j τ).1 2 j = 3) ∧ (¬ s ≤ k + 1 → FI (mDay j τ).1 j l s (W + 1) (k + 1) 0) := by
  obtain ⟨hC, h0, h2, hn, h3, hu, ho, _⟩ := h
  obtain ⟨m0, m6, m13, mc, m2, m3⟩ := mDay_any hC j
  have hg : ∀ c, c < nCl τ → τ 6 c = nI j → ¬ gS τ c = 0 ∧ ¬ gS τ c = 1 := by
    intro c hc h6
    unfold gS
    by_cases q : τ 9 c = 0
    · obtain ⟨w, w1, w2, w3⟩ := ho c hc h6 q
      rw [if_pos q, w2, h2, nI_1, if_neg]
      · exact ⟨by decide, by decide⟩
      · rw [nI_ltI (by omega) (by omega)]
        omega
    · rw [if_neg q]
      exact ⟨q, hu c hc h6⟩
  have hf : gFree τ j = true := gFree_t hC fun c hc h6 => by
    unfold gSt
    rw [decide_eq_false (hg c hc h6).1, decide_eq_false (hg c hc h6).2]
    rfl
  have hco : gCo τ j = true := by
    unfold gCo
    rw [hf, hn]
    rfl
  have hfa : gFa τ j = !decide (k + 1 < s) := by
    unfold gFa
    rw [hco, h3, h0, nI_1, Bool.true_and]
    congr 1
    rw [decide_eq_decide]
    exact nI_ltI (by omega) (by omega)
  constructor
  · intro q
    rw [m2, if_pos (by rw [hfa, decide_eq_false (by omega)]; rfl)]
  · intro q
    have hC2 := hC.to m13
    refine ⟨hC2.1, by rw [m0]; exact h0, by rw [m0]; exact h2, ?_, ?_, ?_, ?_, Or.inl rfl⟩
    · rw [m2, if_neg (by rw [hfa, decide_eq_true (by omega)]; decide)]
      exact hn
    · rw [m3, if_pos hco, h3]
      exact nI_1 _
    · intro c hc h6
      rw [hC2.2] at hc
      rw [m6] at h6
      rw [(mc c hc h6).1]
      exact (hg c hc h6).2
    · intro c hc h6 h9
      rw [hC2.2] at hc
      rw [m6] at h6
      rw [(mc c hc h6).1] at h9
      exact absurd h9 (hg c hc h6).1
theorem FI.stepS {τ : Sg} {j l s W k u : Nat} (h : FI τ j l s W k (u + 1)) (hW : W < 2 ^ 30) (hl : l ≤ 200) : FI (mDay j τ).1 j l s (W + 1) k u := by
  obtain ⟨hC, h0, h2, hn, h3, hu, ho, hx⟩ := h
  obtain ⟨m0, m6, m13, mc, m2, m3⟩ := mDay_any hC j
  have hC2 := hC.to m13
  rcases hx with hx | ⟨c0, w0, q1, q2, q3, q4, q5, q6⟩
  · omega
  have g0 : gS τ c0 = 0 := by
    unfold gS
    rw [if_pos q3, q5, h2, nI_1, if_pos]
    rw [nI_ltI (by omega) (by omega)]
    omega
  have hf : gFree τ j = false := gFree_f hC q1 q2 (by
    unfold gSt
    rw [g0]
    rfl)
  have hco : gCo τ j = false := by
    unfold gCo
    rw [hf, Bool.and_false]
  have hfa : gFa τ j = false := by
    unfold gFa
    rw [hco, Bool.false_and]
  refine ⟨hC2.1, by rw [m0]; exact h0, by rw [m0]; exact h2, ?_, ?_, ?_, ?_, Or.inr ⟨c0, w0 + 1, by rw [hC2.2]; exact q1, by rw [m6]; exact q2, by rw [(mc c0 q1 q2).1]; exact g0, by omega, ?_, by omega⟩⟩
  · rw [m2, hfa]
    exact hn
  · rw [m3, hco]
    exact h3
  · intro c hc h6
    rw [hC2.2] at hc
    rw [m6] at h6
    rw [(mc c hc h6).1]
    unfold gS
    split
    · split <;> decide
    · exact hu c hc h6
  · intro c hc h6 h9
    rw [hC2.2] at hc
    rw [m6] at h6
    rw [(mc c hc h6).1] at h9
    rw [(mc c hc h6).2]
    unfold gS at h9
    unfold gW
    by_cases q : τ 9 c = 0
    · obtain ⟨w, w1, w2, w3⟩ := ho c hc h6 q
      rw [if_pos q]
      exact ⟨w + 1, by omega, by rw [w2]; exact nI_1 _, by omega⟩
    · rw [if_neg q] at h9
      exact absurd h9 q
  · rw [(mc c0 q1 q2).2]
    unfold gW
    rw [if_pos q3, q5]
    exact nI_1 _
theorem mRun_end {j : Nat} {τ : Sg} (h : ¬ τ 2 j = 1) : ∀ (f i : Nat), mRun j f i τ = (i, τ)
  | 0, _ => rfl
  | f + 1, i => if_neg h
theorem mRun_F {j l s : Nat} (hl : l ≤ 200) (hs : s ≤ 400) : ∀ (f i W k u : Nat) (τ : Sg), W + f < 2 ^ 30 → k + f < 2 ^ 30 → FI τ j l s W k u → u + max 1 (s - k) ≤ f → (mRun j f i τ).1 = i + (u + max 1 (s - k)) ∧ (mRun j f i τ).2 2 j = 3
  | 0, i, W, k, u, τ, _, _, _, hf => by omega
  | f + 1, i, W, k, 0, τ, hW, hk, h, hf => by
    obtain ⟨a1, a2⟩ := h.step0 (by omega) hl hs (by omega)
    rw [show mRun j (f + 1) i τ = mRun j f (i + 1) (mDay j τ).1 from if_pos h.2.2.2.1]
    by_cases q : s ≤ k + 1
    · have e := a1 q
      rw [mRun_end (by rw [e]; decide)]
      exact ⟨by dsimp only; omega, e⟩
    · obtain ⟨r1, r2⟩ := mRun_F hl hs f (i + 1) (W + 1) (k + 1) 0 _ (by omega) (by omega) (a2 q) (by omega)
      exact ⟨by rw [r1]; omega, r2⟩
  | f + 1, i, W, k, u + 1, τ, hW, hk, h, hf => by
    rw [show mRun j (f + 1) i τ = mRun j f (i + 1) (mDay j τ).1 from if_pos h.2.2.2.1]
    obtain ⟨r1, r2⟩ := mRun_F hl hs f (i + 1) (W + 1) k u _ (by omega) (by omega) (h.stepS (by omega) hl) (by omega)
    exact ⟨by rw [r1]; omega, r2⟩
/-- with a claim upheld it never falls -/
theorem mRun_U {j : Nat} : ∀ (f i : Nat) (τ : Sg), COk τ → τ 2 j = 1 → (∃ c, c < nCl τ ∧ τ 6 c = nI j ∧ τ 9 c = 1) → (mRun j f i τ).2 2 j = 1
  | 0, i, τ, _, h, _ => h
  | f + 1, i, τ, hC, h, hx => by
    rw [show mRun j (f + 1) i τ = mRun j f (i + 1) (mDay j τ).1 from if_pos h]
    obtain ⟨m0, m6, m13, mc, m2, m3⟩ := mDay_any hC j
    have hC2 := hC.to m13
    obtain ⟨c, hc, h6, h9⟩ := hx
    have g1 : gS τ c = 1 := by
      unfold gS
      rw [h9]
      rfl
    have hf : gFree τ j = false := gFree_f hC hc h6 (by
      unfold gSt
      rw [g1]
      rfl)
    have hfa : gFa τ j = false := by
      unfold gFa gCo
      rw [hf, Bool.and_false, Bool.false_and]
    refine mRun_U f (i + 1) _ hC2.1 ?_ ⟨c, by rw [hC2.2]; exact hc, by rw [m6]; exact h6, by rw [(mc c hc h6).1]; exact g1⟩
    rw [m2, hfa]
    exact h
/-- idle days -/
theorem max32_n {a b : Nat} (ha : a < 2 ^ 31) (hb : b < 2 ^ 31) : max32 (nI a) (nI b) = nI (max a b) := by
  unfold max32
  by_cases q : a < b
  · rw [if_pos ((nI_ltI ha hb).mpr q), Nat.max_eq_right (by omega)]
  · rw [if_neg (fun h => q ((nI_ltI ha hb).mp h)), Nat.max_eq_left (by omega)]
theorem idle_lp {σ : Sg} {l W : Nat} (hl : σ 0 2 = nI l) (h200 : l ≤ 200) (hW : W < 2 ^ 30) {op : Int32} : ∀ (k i a : Nat), i + k ≤ 32 → a ≤ 199 → (∀ c, i ≤ c → c < i + k → gb op c = true → ∃ w, w ≤ W ∧ σ 10 c = nI w) → ∃ u, u ≤ 199 ∧ lp (idleF σ op) i k (nI a) = nI u ∧ a ≤ u ∧ (∀ c w, i ≤ c → c < i + k → gb op c = true → w ≤ W → σ 10 c = nI w → l - w ≤ u + 1) ∧ (u = a ∨ ∃ c w, i ≤ c ∧ c < i + k ∧ gb op c = true ∧ w ≤ W ∧ σ 10 c = nI w ∧ l - w = u + 1)
  | 0, i, a, _, h1, _ => ⟨a, h1, rfl, Nat.le_refl _, fun c w h1 h2 => by omega, Or.inl rfl⟩
  | k + 1, i, a, hi, h1, h => by
    rw [lp_s]
    by_cases q : gb op i = true
    · obtain ⟨w, w1, w2⟩ := h i (Nat.le_refl _) (by omega) q
      have e : idleF σ op i (nI a) = nI (max a (max 1 (l - w) - 1)) := by
        unfold idleF
        rw [sHolds_gb _ (by omega), if_pos q, sLapse_n hl w2 h200 (by omega), show (1 : Int32) = nI 1 from rfl, nI_subN (by omega), max32_n (by omega) (by omega)]
      rw [e]
      obtain ⟨u, u1, u2, u3, u4, u5⟩ := idle_lp hl h200 hW k (i + 1) (max a (max 1 (l - w) - 1)) (by omega) (by omega) (fun c a1 a2 a3 => h c (by omega) (by omega) a3)
      refine ⟨u, u1, u2, by omega, fun c w' a1 a2 a3 a4 a5 => ?_, ?_⟩
      · by_cases qc : c = i
        · subst qc
          have : w' = w := nI_inj2 (by omega) (by omega) (a5.symm.trans w2)
          omega
        · exact u4 c w' (by omega) (by omega) a3 a4 a5
      · rcases u5 with u5 | ⟨c, w', a1, a2, a3⟩
        · by_cases qa : u = a
          · exact Or.inl qa
          · exact Or.inr ⟨i, w, Nat.le_refl _, by omega, q, w1, w2, by omega⟩
        · exact Or.inr ⟨c, w', by omega, by omega, a3⟩
    · have e : idleF σ op i (nI a) = nI a := by
        unfold idleF
        rw [sHolds_gb _ (by omega), if_neg q]
      rw [e]
      obtain ⟨u, u1, u2, u3, u4, u5⟩ := idle_lp hl h200 hW k (i + 1) a (by omega) h1 (fun c a1 a2 a3 => h c (by omega) (by omega) a3)
      refine ⟨u, u1, u2, u3, fun c w' a1 a2 a3 a4 a5 => ?_, ?_⟩
      · by_cases qc : c = i
        · subst qc
          exact absurd a3 q
        · exact u4 c w' (by omega) (by omega) a3 a4 a5
      · rcases u5 with u5 | ⟨c, w', a1, a2, a3⟩
        · exact Or.inl u5
        · exact Or.inr ⟨c, w', by omega, by omega, a3⟩
theorem JI.wfall {σ : Sg} (h : JI σ) : WFall σ := by
  intro j hj h1
  have hl12 := h.lok.2
  have h30 := h.cok.2
  obtain ⟨⟨s, s1, s2, e0⟩, ⟨l, l1, l2, e2⟩, _, D, hD, _, hk, hw⟩ := h.wn
  obtain ⟨k, k1, e3⟩ := hk j hj
  have hex := sEx_of h.lok.1 hj (by omega)
  unfold oFalls
  rw [if_pos hex, nI_clamp (by omega)]
  dsimp only
  rw [if_pos h1]
  by_cases qu : cUpTo σ (nI j) = 0
  · rw [if_pos qu]
    rw [cUpTo_bs h.cok, bs_eq0 (by omega)] at qu
    have hop : ∀ c, c < 32 → (gb (cOpenTo σ (nI j)) c = true ↔ c < nCl σ ∧ σ 6 c = nI j ∧ σ 9 c = 0) := by
      intro c hc
      rw [cOpenTo_bs h.cok, gb_bs _ (by omega) hc]
      simp only [Bool.and_eq_true, decide_eq_true_eq]
    obtain ⟨u, u1, u2, _, u4, u5⟩ := idle_lp (W := 9999) e2 l2 (by decide) (op := cOpenTo σ (nI j)) (nCl σ) 0 0 (by omega) (by omega) (fun c _ hc _ => by
      obtain ⟨w, w1, w2⟩ := hw c (by omega)
      exact ⟨w, by omega, w2⟩)
    have hF : FI σ j l s 9999 k u := by
      refine ⟨h.cok, e0, e2, h1, e3, fun c hc h6 q => ?_, fun c hc h6 q => ?_, ?_⟩
      · have := qu c hc
        rw [decide_eq_true h6, decide_eq_true q] at this
        exact absurd this (by decide)
      · obtain ⟨w, w1, w2⟩ := hw c hc
        exact ⟨w, by omega, w2, u4 c w (Nat.zero_le _) (by omega) ((hop c (by omega)).mpr ⟨hc, h6, q⟩) (by omega) w2⟩
      · rcases u5 with u5 | ⟨c, w, _, a2, a3, a4, a5, a6⟩
        · exact Or.inl u5
        · obtain ⟨b1, b2, b3⟩ := (hop c (by omega)).mp a3
          exact Or.inr ⟨c, w, b1, b2, b3, a4, a5, a6⟩
    obtain ⟨r1, r2⟩ := mRun_F l2 s2 700 0 9999 k u σ (by decide) (by omega) hF (by omega)
    have em : mFall σ j = nI (u + max 1 (s - k)) := by
      unfold mFall
      rw [if_pos r2, r1, Nat.zero_add]
    have ei : sIdle σ (nI j) + max32 1 (σ 0 0 - σ 3 j) = nI (u + max 1 (s - k)) := by
      unfold sIdle
      rw [show (0 : Int32) = nI 0 from rfl, u2, e3, e0]
      have hm : max32 1 (nI s - nI k) = nI (max 1 (s - k)) := by
        rw [max32_1]
        have e := nI_sub (a := s) (b := k) (by omega) (by omega)
        have o1 : (1 : Int32).toInt = 1 := rfl
        by_cases q : 1 ≤ nI s - nI k
        · rw [if_pos q]
          rw [Int32.le_iff_toInt_le, e, o1] at q
          rw [nI_subN (by omega), Nat.max_eq_right (by omega)]
        · rw [if_neg q]
          rw [Int32.le_iff_toInt_le, e, o1] at q
          rw [Nat.max_eq_left (by omega)]
          rfl
      rw [hm, nI_add]
    rw [em, ei]
    exact ⟨rfl, Or.inr (nI_lt (a := 0) (by omega) (by omega))⟩
  · rw [if_neg qu]
    have : mFall σ j = -6 := by
      unfold mFall
      rw [if_neg]
      have hx : ∃ c, c < nCl σ ∧ σ 6 c = nI j ∧ σ 9 c = 1 := by
        refine Classical.byContradiction fun hn => qu ?_
        rw [cUpTo_bs h.cok, bs_eq0 (by omega)]
        intro c hc
        cases q : decide (σ 6 c = nI j) && decide (σ 9 c = 1)
        · rfl
        · simp only [Bool.and_eq_true, decide_eq_true_eq] at q
          exact absurd ⟨c, hc, q.1, q.2⟩ hn
      rw [mRun_U 700 0 σ h.cok h1 hx]
      decide
    exact ⟨this, Or.inl this⟩
