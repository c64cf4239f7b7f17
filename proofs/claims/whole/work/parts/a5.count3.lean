/-! numbers, all of them -/
theorem eq_count {ζ : Sg} (h : Inv ζ) (n : Nat) (P : PD) (w : Int32) : mCount ζ n (nI P.1) w = xCount ζ n P w := by
  cases hm : mIn w 0 20
  · have hx : w < 0 ∨ 20 < w := by
      unfold mIn at hm
      by_cases q : w < 0
      · exact Or.inl q
      · by_cases q2 : 20 < w
        · exact Or.inr q2
        · simp [q, q2] at hm
    have ne : ∀ k : Int32, mIn k 0 20 = true → ¬ w = k := fun k hk e => by
      rw [← e, hm] at hk
      exact absurd hk (by decide)
    have eC : oNumC ζ w = -2 := by
      unfold oNumC
      rw [if_neg (ne 0 (by decide)), if_neg (ne 1 (by decide)), if_neg (ne 2 (by decide)), if_neg (ne 8 (by decide)), if_neg (ne 9 (by decide)), if_neg (ne 10 (by decide)), if_neg (ne 11 (by decide)), if_neg (ne 12 (by decide)), if_neg (ne 13 (by decide))]
    have eM : mCount ζ n (nI P.1) w = -2 := by
      unfold mCount
      rw [if_neg (ne 0 (by decide)), if_neg (ne 1 (by decide)), if_neg (ne 2 (by decide)), if_neg (ne 3 (by decide)), if_neg (ne 4 (by decide)), if_neg (ne 5 (by decide)), if_neg (ne 6 (by decide)), if_neg (ne 7 (by decide)), if_neg (ne 8 (by decide)), if_neg (ne 9 (by decide)), if_neg (ne 10 (by decide)), if_neg (ne 11 (by decide)), if_neg (ne 12 (by decide)), if_neg (ne 13 (by decide)), if_neg (ne 14 (by decide)), if_neg (ne 15 (by decide)), if_neg (ne 16 (by decide)), if_neg (ne 17 (by decide)), if_neg (ne 18 (by decide)), if_neg (ne 19 (by decide)), if_neg (ne 20 (by decide))]
    rw [eM]
    unfold xCount
    rw [if_neg (ne 19 (by decide)), if_neg (ne 20 (by decide))]
    unfold oNumber oNumB
    have v0 : (0 : Int32).toInt = 0 := rfl
    have v3 : (3 : Int32).toInt = 3 := rfl
    have v7 : (7 : Int32).toInt = 7 := rfl
    have v14 : (14 : Int32).toInt = 14 := rfl
    have v19 : (19 : Int32).toInt = 19 := rfl
    have v20 : (20 : Int32).toInt = 20 := rfl
    rcases hx with hx | hx
    · rw [Int32.lt_iff_toInt_lt, v0] at hx
      rw [if_pos (by rw [Int32.lt_iff_toInt_lt, v3]; omega), if_pos (by rw [Int32.lt_iff_toInt_lt, v14]; omega), eC]
    · rw [Int32.lt_iff_toInt_lt, v20] at hx
      rw [if_neg (by rw [Int32.lt_iff_toInt_lt, v3]; omega), if_pos (by rw [Int32.lt_iff_toInt_lt, v7]; omega), if_neg (by rw [Int32.lt_iff_toInt_lt, v14]; omega), if_pos (by rw [Int32.le_iff_toInt_le, v19]; omega), eC]
  · obtain ⟨j, _, hj, rfl⟩ := mIn_of (x := w) (a := 0) (b := 20) (by decide) hm (by decide)
    rcases (show j = 0 ∨ j = 1 ∨ j = 2 ∨ j = 3 ∨ j = 4 ∨ j = 5 ∨ j = 6 ∨ j = 7 ∨ j = 8 ∨ j = 9 ∨ j = 10 ∨ j = 11 ∨ j = 12 ∨ j = 13 ∨ j = 14 ∨ j = 15 ∨ j = 16 ∨ j = 17 ∨ j = 18 ∨ j = 19 ∨ j = 20 by omega) with rfl | rfl | rfl | rfl | rfl | rfl | rfl | rfl | rfl | rfl | rfl | rfl | rfl | rfl | rfl | rfl | rfl | rfl | rfl | rfl | rfl
    · rfl
    · rfl
    · rfl
    · rfl
    · rfl
    · rfl
    · rfl
    · rfl
    · exact eq_8 h.1.lok
    · exact eq_9 h.1.lok
    · rfl
    · exact eq_11 h
    · exact eq_12 h.1.cok h.1.wh
    · exact eq_13 h.1.cok h.1.wh
    · rfl
    · rfl
    · rfl
    · rfl
    · rfl
    · rfl
    · rfl
