theorem lp_cntf {f : Nat → Int32 → Int32} {p : Nat → Bool} (hf : ∀ i a, f i a = if p i = true then a + 1 else a) : ∀ (k i n : Nat), lp f i k (nI n) = nI (n + cnt p i k)
  | 0, i, n => rfl
  | k + 1, i, n => by
    rw [lp_s, hf]
    show lp f (i + 1) k (if p i = true then nI n + 1 else nI n) = nI (n + ((if p i = true then 1 else 0) + cnt p (i + 1) k))
    by_cases q : p i = true
    · rw [if_pos q, if_pos q, nI_1, lp_cntf hf k (i + 1), Nat.add_assoc]
    · rw [if_neg q, if_neg q, lp_cntf hf k (i + 1), Nat.zero_add]
