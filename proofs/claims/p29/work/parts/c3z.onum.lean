/-! numbers, one by one -/
theorem oN_0 (σ : Sg) : oNumber σ 0 = σ 13 4 := by
  unfold oNumber oNumB oNumC
  rw [if_pos (show (0 : Int32) < 3 by decide), if_pos (show (0 : Int32) < 14 by decide), if_pos rfl]
theorem oN_1 (σ : Sg) : oNumber σ 1 = σ 13 0 := by
  unfold oNumber oNumB oNumC
  rw [if_pos (show (1 : Int32) < 3 by decide), if_pos (show (1 : Int32) < 14 by decide), if_neg (show ¬ (1 : Int32) = 0 by decide), if_pos rfl]
theorem oN_2 (σ : Sg) : oNumber σ 2 = σ 13 1 := by
  unfold oNumber oNumB oNumC
  rw [if_pos (show (2 : Int32) < 3 by decide), if_pos (show (2 : Int32) < 14 by decide), if_neg (show ¬ (2 : Int32) = 0 by decide), if_neg (show ¬ (2 : Int32) = 1 by decide), if_pos rfl]
theorem oN_3 (σ : Sg) : oNumber σ 3 = lIn σ 0 := by
  unfold oNumber
  rw [if_neg (show ¬ (3 : Int32) < 3 by decide), if_neg (show ¬ (7 : Int32) < 3 by decide), show (3 : Int32) - 3 = 0 by decide]
theorem oN_4 (σ : Sg) : oNumber σ 4 = lIn σ 1 := by
  unfold oNumber
  rw [if_neg (show ¬ (4 : Int32) < 3 by decide), if_neg (show ¬ (7 : Int32) < 4 by decide), show (4 : Int32) - 3 = 1 by decide]
theorem oN_5 (σ : Sg) : oNumber σ 5 = lIn σ 2 := by
  unfold oNumber
  rw [if_neg (show ¬ (5 : Int32) < 3 by decide), if_neg (show ¬ (7 : Int32) < 5 by decide), show (5 : Int32) - 3 = 2 by decide]
theorem oN_6 (σ : Sg) : oNumber σ 6 = lIn σ 3 := by
  unfold oNumber
  rw [if_neg (show ¬ (6 : Int32) < 3 by decide), if_neg (show ¬ (7 : Int32) < 6 by decide), show (6 : Int32) - 3 = 3 by decide]
theorem oN_7 (σ : Sg) : oNumber σ 7 = lIn σ 4 := by
  unfold oNumber
  rw [if_neg (show ¬ (7 : Int32) < 3 by decide), if_neg (show ¬ (7 : Int32) < 7 by decide), show (7 : Int32) - 3 = 4 by decide]
theorem oN_8 (σ : Sg) : oNumber σ 8 = lp (sSumf (σ 1) (lAll σ)) 0 12 0 := by
  unfold oNumber oNumB oNumC
  rw [if_neg (show ¬ (8 : Int32) < 3 by decide), if_pos (show (7 : Int32) < 8 by decide), if_pos (show (8 : Int32) < 14 by decide), if_neg (show ¬ (8 : Int32) = 0 by decide), if_neg (show ¬ (8 : Int32) = 1 by decide), if_neg (show ¬ (8 : Int32) = 2 by decide), if_pos rfl]
theorem oN_9 (σ : Sg) : oNumber σ 9 = lp (sSumf (σ 1) (lIn σ 0 ||| lIn σ 1)) 0 12 0 := by
  unfold oNumber oNumB oNumC
  rw [if_neg (show ¬ (9 : Int32) < 3 by decide), if_pos (show (7 : Int32) < 9 by decide), if_pos (show (9 : Int32) < 14 by decide), if_neg (show ¬ (9 : Int32) = 0 by decide), if_neg (show ¬ (9 : Int32) = 1 by decide), if_neg (show ¬ (9 : Int32) = 2 by decide), if_neg (show ¬ (9 : Int32) = 8 by decide), if_pos rfl]
theorem oN_10 (σ : Sg) : oNumber σ 10 = σ 13 3 := by
  unfold oNumber oNumB oNumC
  rw [if_neg (show ¬ (10 : Int32) < 3 by decide), if_pos (show (7 : Int32) < 10 by decide), if_pos (show (10 : Int32) < 14 by decide), if_neg (show ¬ (10 : Int32) = 0 by decide), if_neg (show ¬ (10 : Int32) = 1 by decide), if_neg (show ¬ (10 : Int32) = 2 by decide), if_neg (show ¬ (10 : Int32) = 8 by decide), if_neg (show ¬ (10 : Int32) = 9 by decide), if_pos rfl]
theorem oN_11 (σ : Sg) : oNumber σ 11 = lp (sSumf (σ 11) (cAll σ)) 0 30 0 := by
  unfold oNumber oNumB oNumC
  rw [if_neg (show ¬ (11 : Int32) < 3 by decide), if_pos (show (7 : Int32) < 11 by decide), if_pos (show (11 : Int32) < 14 by decide), if_neg (show ¬ (11 : Int32) = 0 by decide), if_neg (show ¬ (11 : Int32) = 1 by decide), if_neg (show ¬ (11 : Int32) = 2 by decide), if_neg (show ¬ (11 : Int32) = 8 by decide), if_neg (show ¬ (11 : Int32) = 9 by decide), if_neg (show ¬ (11 : Int32) = 10 by decide), if_pos rfl]
theorem oN_12 (σ : Sg) : oNumber σ 12 = cStanding σ := by
  unfold oNumber oNumB oNumC
  rw [if_neg (show ¬ (12 : Int32) < 3 by decide), if_pos (show (7 : Int32) < 12 by decide), if_pos (show (12 : Int32) < 14 by decide), if_neg (show ¬ (12 : Int32) = 0 by decide), if_neg (show ¬ (12 : Int32) = 1 by decide), if_neg (show ¬ (12 : Int32) = 2 by decide), if_neg (show ¬ (12 : Int32) = 8 by decide), if_neg (show ¬ (12 : Int32) = 9 by decide), if_neg (show ¬ (12 : Int32) = 10 by decide), if_neg (show ¬ (12 : Int32) = 11 by decide), if_pos rfl]
theorem oN_13 (σ : Sg) : oNumber σ 13 = sBit (lp (sNumf (σ 5) (cAll σ)) 0 30 0) := by
  unfold oNumber oNumB oNumC
  rw [if_neg (show ¬ (13 : Int32) < 3 by decide), if_pos (show (7 : Int32) < 13 by decide), if_pos (show (13 : Int32) < 14 by decide), if_neg (show ¬ (13 : Int32) = 0 by decide), if_neg (show ¬ (13 : Int32) = 1 by decide), if_neg (show ¬ (13 : Int32) = 2 by decide), if_neg (show ¬ (13 : Int32) = 8 by decide), if_neg (show ¬ (13 : Int32) = 9 by decide), if_neg (show ¬ (13 : Int32) = 10 by decide), if_neg (show ¬ (13 : Int32) = 11 by decide), if_neg (show ¬ (13 : Int32) = 12 by decide), if_pos rfl]
theorem oN_14 (σ : Sg) : oNumber σ 14 = σ 0 0 := by
  unfold oNumber oNumB
  rw [if_neg (show ¬ (14 : Int32) < 3 by decide), if_pos (show (7 : Int32) < 14 by decide), if_neg (show ¬ (14 : Int32) < 14 by decide), if_neg (show ¬ (19 : Int32) ≤ 14 by decide), show ((14 : Int32) - 14).toNatClampNeg = 0 by decide]
theorem oN_15 (σ : Sg) : oNumber σ 15 = σ 0 1 := by
  unfold oNumber oNumB
  rw [if_neg (show ¬ (15 : Int32) < 3 by decide), if_pos (show (7 : Int32) < 15 by decide), if_neg (show ¬ (15 : Int32) < 14 by decide), if_neg (show ¬ (19 : Int32) ≤ 15 by decide), show ((15 : Int32) - 14).toNatClampNeg = 1 by decide]
theorem oN_16 (σ : Sg) : oNumber σ 16 = σ 0 2 := by
  unfold oNumber oNumB
  rw [if_neg (show ¬ (16 : Int32) < 3 by decide), if_pos (show (7 : Int32) < 16 by decide), if_neg (show ¬ (16 : Int32) < 14 by decide), if_neg (show ¬ (19 : Int32) ≤ 16 by decide), show ((16 : Int32) - 14).toNatClampNeg = 2 by decide]
theorem oN_17 (σ : Sg) : oNumber σ 17 = σ 0 3 := by
  unfold oNumber oNumB
  rw [if_neg (show ¬ (17 : Int32) < 3 by decide), if_pos (show (7 : Int32) < 17 by decide), if_neg (show ¬ (17 : Int32) < 14 by decide), if_neg (show ¬ (19 : Int32) ≤ 17 by decide), show ((17 : Int32) - 14).toNatClampNeg = 3 by decide]
theorem oN_18 (σ : Sg) : oNumber σ 18 = σ 0 4 := by
  unfold oNumber oNumB
  rw [if_neg (show ¬ (18 : Int32) < 3 by decide), if_pos (show (7 : Int32) < 18 by decide), if_neg (show ¬ (18 : Int32) < 14 by decide), if_neg (show ¬ (19 : Int32) ≤ 18 by decide), show ((18 : Int32) - 14).toNatClampNeg = 4 by decide]
theorem xC_0 (σ : Sg) (n : Nat) (P : PD) : xCount σ n P 0 = oNumber σ 0 := by
  unfold xCount
  rw [if_neg (show ¬ (0 : Int32) = 19 by decide), if_neg (show ¬ (0 : Int32) = 20 by decide)]
theorem xC_1 (σ : Sg) (n : Nat) (P : PD) : xCount σ n P 1 = oNumber σ 1 := by
  unfold xCount
  rw [if_neg (show ¬ (1 : Int32) = 19 by decide), if_neg (show ¬ (1 : Int32) = 20 by decide)]
theorem xC_2 (σ : Sg) (n : Nat) (P : PD) : xCount σ n P 2 = oNumber σ 2 := by
  unfold xCount
  rw [if_neg (show ¬ (2 : Int32) = 19 by decide), if_neg (show ¬ (2 : Int32) = 20 by decide)]
theorem xC_3 (σ : Sg) (n : Nat) (P : PD) : xCount σ n P 3 = oNumber σ 3 := by
  unfold xCount
  rw [if_neg (show ¬ (3 : Int32) = 19 by decide), if_neg (show ¬ (3 : Int32) = 20 by decide)]
theorem xC_4 (σ : Sg) (n : Nat) (P : PD) : xCount σ n P 4 = oNumber σ 4 := by
  unfold xCount
  rw [if_neg (show ¬ (4 : Int32) = 19 by decide), if_neg (show ¬ (4 : Int32) = 20 by decide)]
theorem xC_5 (σ : Sg) (n : Nat) (P : PD) : xCount σ n P 5 = oNumber σ 5 := by
  unfold xCount
  rw [if_neg (show ¬ (5 : Int32) = 19 by decide), if_neg (show ¬ (5 : Int32) = 20 by decide)]
theorem xC_6 (σ : Sg) (n : Nat) (P : PD) : xCount σ n P 6 = oNumber σ 6 := by
  unfold xCount
  rw [if_neg (show ¬ (6 : Int32) = 19 by decide), if_neg (show ¬ (6 : Int32) = 20 by decide)]
theorem xC_7 (σ : Sg) (n : Nat) (P : PD) : xCount σ n P 7 = oNumber σ 7 := by
  unfold xCount
  rw [if_neg (show ¬ (7 : Int32) = 19 by decide), if_neg (show ¬ (7 : Int32) = 20 by decide)]
theorem xC_8 (σ : Sg) (n : Nat) (P : PD) : xCount σ n P 8 = oNumber σ 8 := by
  unfold xCount
  rw [if_neg (show ¬ (8 : Int32) = 19 by decide), if_neg (show ¬ (8 : Int32) = 20 by decide)]
theorem xC_9 (σ : Sg) (n : Nat) (P : PD) : xCount σ n P 9 = oNumber σ 9 := by
  unfold xCount
  rw [if_neg (show ¬ (9 : Int32) = 19 by decide), if_neg (show ¬ (9 : Int32) = 20 by decide)]
theorem xC_10 (σ : Sg) (n : Nat) (P : PD) : xCount σ n P 10 = oNumber σ 10 := by
  unfold xCount
  rw [if_neg (show ¬ (10 : Int32) = 19 by decide), if_neg (show ¬ (10 : Int32) = 20 by decide)]
theorem xC_11 (σ : Sg) (n : Nat) (P : PD) : xCount σ n P 11 = oNumber σ 11 := by
  unfold xCount
  rw [if_neg (show ¬ (11 : Int32) = 19 by decide), if_neg (show ¬ (11 : Int32) = 20 by decide)]
theorem xC_12 (σ : Sg) (n : Nat) (P : PD) : xCount σ n P 12 = oNumber σ 12 := by
  unfold xCount
  rw [if_neg (show ¬ (12 : Int32) = 19 by decide), if_neg (show ¬ (12 : Int32) = 20 by decide)]
theorem xC_13 (σ : Sg) (n : Nat) (P : PD) : xCount σ n P 13 = oNumber σ 13 := by
  unfold xCount
  rw [if_neg (show ¬ (13 : Int32) = 19 by decide), if_neg (show ¬ (13 : Int32) = 20 by decide)]
theorem xC_14 (σ : Sg) (n : Nat) (P : PD) : xCount σ n P 14 = oNumber σ 14 := by
  unfold xCount
  rw [if_neg (show ¬ (14 : Int32) = 19 by decide), if_neg (show ¬ (14 : Int32) = 20 by decide)]
theorem xC_15 (σ : Sg) (n : Nat) (P : PD) : xCount σ n P 15 = oNumber σ 15 := by
  unfold xCount
  rw [if_neg (show ¬ (15 : Int32) = 19 by decide), if_neg (show ¬ (15 : Int32) = 20 by decide)]
theorem xC_16 (σ : Sg) (n : Nat) (P : PD) : xCount σ n P 16 = oNumber σ 16 := by
  unfold xCount
  rw [if_neg (show ¬ (16 : Int32) = 19 by decide), if_neg (show ¬ (16 : Int32) = 20 by decide)]
theorem xC_17 (σ : Sg) (n : Nat) (P : PD) : xCount σ n P 17 = oNumber σ 17 := by
  unfold xCount
  rw [if_neg (show ¬ (17 : Int32) = 19 by decide), if_neg (show ¬ (17 : Int32) = 20 by decide)]
theorem xC_18 (σ : Sg) (n : Nat) (P : PD) : xCount σ n P 18 = oNumber σ 18 := by
  unfold xCount
  rw [if_neg (show ¬ (18 : Int32) = 19 by decide), if_neg (show ¬ (18 : Int32) = 20 by decide)]
theorem xC_20 (σ : Sg) (n : Nat) (P : PD) : xCount σ n P 20 = nI n := by
  unfold xCount
  rw [if_neg (show ¬ (20 : Int32) = 19 by decide), if_pos rfl]
