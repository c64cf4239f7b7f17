theorem sEx_of {n : Int32} {N i : Nat} (hn : n = nI N) (hi : i < N) (hN : N < 2 ^ 31) : sExists n (nI i) = true := by
  unfold sExists
  subst hn
  rw [decide_eq_false (nI_pos (by omega)), decide_eq_false (nI_ge hi hN)]
  rfl
