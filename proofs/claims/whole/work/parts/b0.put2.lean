/-! characters are put alike -/
theorem lus_0 (L : Int64) : lus L (8 * nI 0) = L := by
  unfold lus
  have e : ((8 * nI 0 : Int32).toInt64.toUInt64 &&& Int64.toUInt64 63) = 0 := by decide
  rw [e, UInt64.shiftRight_zero]
  rfl
theorem shr_shr (x : UInt64) : ∀ i, i < 7 → (x >>> ((8 * nI i : Int32).toInt64.toUInt64 &&& Int64.toUInt64 63)) >>> ((8 : Int32).toInt64.toUInt64 &&& Int64.toUInt64 63) = x >>> ((8 * nI (i + 1) : Int32).toInt64.toUInt64 &&& Int64.toUInt64 63) := by
  intro i hi
  have e8 : ((8 : Int32).toInt64.toUInt64 &&& Int64.toUInt64 63) = 8 := by decide
  have key : ∀ i, i < 8 → ((8 * nI i : Int32).toInt64.toUInt64 &&& Int64.toUInt64 63).toNat % 64 = 8 * i := by decide
  refine UInt64.toNat_inj.mp ?_
  rw [UInt64.toNat_shiftRight, UInt64.toNat_shiftRight, UInt64.toNat_shiftRight, key i (by omega), key (i + 1) (by omega), e8]
  rw [← Nat.shiftRight_add]
  rfl
theorem lus_s (L : Int64) {i : Nat} (hi : i < 7) : lus (lus L (8 * nI i)) 8 = lus L (8 * nI (i + 1)) := by
  unfold lus
  rw [UInt64.toUInt64_toInt64, shr_shr L.toUInt64 i hi]
theorem code_eq (L : Int64) (i : Nat) : (lus L (8 * nI i) &&& 255).toInt32 = sCode L (nI i) := by
  unfold sCode
  rw [Int64.toInt32_and]
  rfl
theorem ch_eq (L : Int64) : ∀ (k i : Nat), i + k = 8 → (∃ m, m ≤ 8 ∧ mCh k (lus L (8 * nI i)) i = some m ∧ chs L k i = nI m) ∨ (mCh k (lus L (8 * nI i)) i = none ∧ chs L k i = 0)
  | 0, i, h => Or.inl ⟨8, Nat.le_refl _, by
      have : i = 8 := by omega
      subst this
      rfl, rfl⟩
  | k + 1, i, h => by
    unfold mCh chs
    by_cases q : lg_cmp (lus L (8 * nI i)) 0 = 0
    · rw [if_pos q, if_pos q]
      exact Or.inl ⟨i, by omega, rfl, rfl⟩
    · rw [if_neg q, if_neg q, code_eq, mIn_if]
      by_cases q1 : sCode L (nI i) < 33
      · rw [if_pos q1, if_pos q1]
        exact Or.inr ⟨rfl, rfl⟩
      rw [if_neg q1, if_neg q1]
      by_cases q2 : sCode L (nI i) ≤ 126
      · rw [if_pos q2, if_pos q2]
        match k, h with
        | 0, h =>
          have : i = 7 := by omega
          subst this
          exact Or.inl ⟨8, Nat.le_refl _, rfl, rfl⟩
        | k + 1, h =>
          rw [lus_s L (by omega)]
          exact ch_eq L (k + 1) (i + 1) (by omega)
      · rw [if_neg q2, if_neg q2]
        exact Or.inr ⟨rfl, rfl⟩
theorem put_eq (T : Nat → Nat) {P : PD} (hP : P.1 ≤ 80) (L : Int64) : sPut T P L = ((mPut T P.1 L).1, (mPut T P.1 L).2.1, ((mPut T P.1 L).2.2, P.2)) ∧ (mPut T P.1 L).2.2 ≤ 80 := by
  have h := ch_eq L 8 0 rfl
  rw [lus_0] at h
  have ap : ∀ (k : Nat) (T : Nat → Nat) (n : Nat), (apF L k T n).2 = n + k := by
    intro k
    induction k with
    | zero => exact fun _ _ => rfl
    | succ k ih =>
      intro T n
      unfold apF
      rw [ih]
      omega
  unfold mPut sPut sChars
  rcases h with ⟨m, hm, h1, h2⟩ | ⟨h1, h2⟩
  · rw [h1, h2]
    unfold mPutR
    dsimp only
    by_cases q : m = 0
    · subst q
      rw [if_pos rfl, if_pos (show nI 0 = 0 from rfl)]
      exact ⟨rfl, hP⟩
    · rw [if_neg q, if_neg (show ¬ nI m = 0 from fun e => q (nI_inj2 (by omega) (b := 0) (by decide) e)), nI_add]
      have e80 : nI (P.1 + m) ≤ 80 ↔ P.1 + m ≤ 80 := nI_leI (b := 80) (by omega) (by decide)
      by_cases q2 : 80 < P.1 + m
      · rw [if_pos q2, if_neg (by rw [e80]; omega)]
        exact ⟨rfl, hP⟩
      · rw [if_neg q2, if_pos (by rw [e80]; omega), nI_clamp (by omega)]
        refine ⟨rfl, ?_⟩
        dsimp only
        rw [ap]
        omega
  · rw [h1, h2, if_pos rfl]
    exact ⟨rfl, hP⟩
