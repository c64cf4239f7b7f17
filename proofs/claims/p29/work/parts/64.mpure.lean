/-! folds -/
theorem lp_add {α : Type} (f : Nat → α → α) : ∀ (k l i : Nat) (a : α), lp f i (k + l) a = lp f (i + k) l (lp f i k a)
  | 0, l, i, a => by rw [Nat.zero_add, Nat.add_zero, lp_0]
  | k + 1, l, i, a => by
    rw [show k + 1 + l = (k + l) + 1 by omega, lp_s, lp_s, lp_add f k l (i + 1), show i + 1 + k = i + (k + 1) by omega]
theorem lp_ext {α : Type} {f g : Nat → α → α} : ∀ (k i : Nat) (a : α), (∀ j, i ≤ j → j < i + k → ∀ a, f j a = g j a) → lp f i k a = lp g i k a
  | 0, _, _, _ => rfl
  | k + 1, i, a, h => by
    rw [lp_s, lp_s, h i (Nat.le_refl _) (by omega)]
    exact lp_ext k (i + 1) _ fun j h1 h2 => h j (by omega) (by omega)
theorem lp_id {α : Type} {f : Nat → α → α} : ∀ (k i : Nat) (a : α), (∀ j, i ≤ j → j < i + k → ∀ a, f j a = a) → lp f i k a = a
  | 0, _, _, _ => rfl
  | k + 1, i, a, h => by
    rw [lp_s, h i (Nat.le_refl _) (by omega)]
    exact lp_id k (i + 1) _ fun j h1 h2 => h j (by omega) (by omega)
theorem lp_cut {α : Type} {f : Nat → α → α} {n N : Nat} (hn : n ≤ N) (a : α) (h : ∀ j, n ≤ j → j < N → ∀ a, f j a = a) : lp f 0 N a = lp f 0 n a := by
  have e : N = n + (N - n) := by omega
  rw [e, lp_add]
  exact lp_id _ _ _ fun j h1 h2 => h j (by omega) (by omega)
theorem lp_last {α : Type} (f : Nat → α → α) (k i : Nat) (a : α) : lp f i (k + 1) a = f (i + k) (lp f i k a) := lp_add f k 1 i a
/-- sets, joined -/
theorem gb_lpor (f : Nat → Int32) (b : Nat) : ∀ (k i : Nat) (a : Int32), gb (lp (fun w a => a ||| f w) i k a) b = true ↔ (gb a b = true ∨ ∃ w, i ≤ w ∧ w < i + k ∧ gb (f w) b = true)
  | 0, i, a => by
    rw [lp_0]
    constructor
    · exact Or.inl
    · rintro (h | ⟨c, h1, h2, _⟩)
      · exact h
      · omega
  | k + 1, i, a => by
    rw [lp_s, gb_lpor f b k (i + 1), gb_or, Bool.or_eq_true]
    constructor
    · rintro ((h | h) | ⟨c, h1, h2, h3⟩)
      · exact Or.inl h
      · exact Or.inr ⟨i, Nat.le_refl _, by omega, h⟩
      · exact Or.inr ⟨c, by omega, by omega, h3⟩
    · rintro (h | ⟨c, h1, h2, h3⟩)
      · exact Or.inl (Or.inl h)
      rcases Nat.lt_or_ge i c with q | q
      · exact Or.inr ⟨c, q, by omega, h3⟩
      · have : c = i := by omega
        subst this
        exact Or.inl (Or.inr h3)
theorem gb_ones : ∀ n, n ≤ 30 → ∀ i, i < 32 → gb (((1 : Int32) <<< (nI n &&& 31)) - 1) i = decide (i < n) := by
  decide
theorem gb_not (x : Int32) {i : Nat} (hi : i < 32) : gb (x ^^^ (-1)) i = !gb x i := by
  have e : ∀ i, i < 32 → gb (-1) i = true := by decide
  have e2 := e i hi
  unfold gb at *
  rw [Int32.toBitVec_xor, BitVec.getLsbD_xor, e2, Bool.xor_true]
theorem gb_cAll {σ : Sg} (hC : COk σ) {i : Nat} (hi : i < 32) : gb (cAll σ) i = decide (i < nCl σ) := by
  unfold cAll
  rw [hC.1]
  exact gb_ones _ hC.2 i hi
theorem gb_lAll {σ : Sg} (hL : LOk σ) {i : Nat} (hi : i < 32) : gb (lAll σ) i = decide (i < nLo σ) := by
  unfold lAll
  rw [hL.1]
  exact gb_ones _ (Nat.le_trans hL.2 (by decide)) i hi
theorem gb_cBrought {σ : Sg} (hC : COk σ) {i : Nat} (hi : i < 32) : gb (cBrought σ) i = (decide (i < nCl σ) && !decide (σ 11 i = 0)) := by
  unfold cBrought
  rw [gb_and, gb_cAll hC hi, gb_not _ hi, gb_bs _ (by have := hC.2; omega) hi]
  cases decide (i < nCl σ) <;> simp
theorem gb_cOfHeir {σ : Sg} (hC : COk σ) (w : Int32) {i : Nat} (hi : i < 32) : gb (cOfHeir σ w) i = (decide (i < nCl σ) && decide (σ 5 i = w)) := gb_bs _ (by have := hC.2; omega) hi
/-- how many -/
def cnt (p : Nat → Bool) : Nat → Nat → Nat
  | _, 0 => 0
  | i, k + 1 => (if p i = true then 1 else 0) + cnt p (i + 1) k
theorem cnt_le (p : Nat → Bool) : ∀ k i, cnt p i k ≤ k
  | 0, _ => Nat.le_refl _
  | k + 1, i => by
    have := cnt_le p k (i + 1)
    unfold cnt
    split <;> omega
theorem cnt_pos {p : Nat → Bool} : ∀ {k i c : Nat}, i ≤ c → c < i + k → p c = true → 0 < cnt p i k
  | 0, i, c, h1, h2, _ => by omega
  | k + 1, i, c, h1, h2, h => by
    unfold cnt
    by_cases hc : c = i
    · subst hc
      rw [if_pos h]
      omega
    · have := cnt_pos (p := p) (k := k) (i := i + 1) (c := c) (by omega) (by omega) h
      omega
theorem and1 (x : Int32) {i : Nat} (hi : i < 32) : (x >>> (nI i &&& 31)) &&& 1 = if gb x i = true then 1 else 0 := by
  have e : ∀ i, i < 32 → gb 1 i = decide (i = 0) := by decide
  have h := sHolds_gb x hi
  unfold sHolds at h
  by_cases g : gb x i = true
  · rw [g, decide_eq_true_iff] at h
    rw [if_pos g, h]
  · rw [if_neg g]
    rw [Bool.not_eq_true] at g
    rw [g, decide_eq_false_iff_not] at h
    refine gb_ext fun b hb => ?_
    rw [gb_and, gb_0, e b hb]
    by_cases h0 : b = 0
    · subst h0
      have h2 := gb_1 (x >>> (nI i &&& 31))
      rw [decide_eq_false h] at h2
      rw [← h2]
      rfl
    · simp [h0]
theorem mSize_lp (s : Int32) : ∀ (k i a : Nat), i + k ≤ 32 → lp (mSzf s) i k (nI a) = nI (a + cnt (gb s) i k)
  | 0, i, a, _ => rfl
  | k + 1, i, a, h => by
    rw [lp_s, show mSzf s i (nI a) = nI (a + if gb s i = true then 1 else 0) by
      unfold mSzf
      rw [and1 s (by omega)]
      split
      · exact nI_1 a
      · rw [Int32.add_zero]; rfl, mSize_lp s k (i + 1) _ (by omega)]
    show _ = nI (a + ((if gb s i = true then 1 else 0) + cnt (gb s) (i + 1) k))
    rw [Nat.add_assoc]
theorem mSize_cnt (s : Int32) : mSize s = nI (cnt (gb s) 0 30) := by
  have := mSize_lp s 30 0 0 (by decide)
  rw [Nat.zero_add] at this
  exact this
theorem mSize_ne {s : Int32} {c : Nat} (hc : c < 30) (h : gb s c = true) : ¬ mSize s = 0 := by
  rw [mSize_cnt]
  intro q
  have h1 := cnt_pos (p := gb s) (k := 30) (i := 0) (c := c) (by omega) (by omega) h
  have h2 := cnt_le (gb s) 30 0
  have := congrArg Int32.toNatClampNeg q
  rw [nI_clamp (by omega)] at this
  have h3 : (0 : Int32).toNatClampNeg = 0 := rfl
  omega
theorem max32_1 (x : Int32) : max32 1 x = if 1 ≤ x then x else 1 := by
  unfold max32
  by_cases h : x = 1
  · subst h
    rfl
  · by_cases h1 : 1 < x
    · rw [if_pos h1, if_pos (Int32.le_of_lt h1)]
    · rw [if_neg h1, if_neg]
      intro q
      exact h (Int32.le_antisymm (Int32.not_lt.mp h1) q)
