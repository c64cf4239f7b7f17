/-! shares -/
theorem gb_and_le {x z : Int32} {i : Nat} (h : gb (x &&& z) i = true) : gb x i = true := by
  rw [gb_and, Bool.and_eq_true] at h
  exact h.1
/-- a set below n -/
def Sub (x : Int32) (n : Nat) : Prop := ∀ i, i < 32 → n ≤ i → gb x i = false
theorem Sub.bs (p : Nat → Bool) {n : Nat} (hn : n ≤ 32) : Sub (bs p n) n := fun i hi h => by
  rw [gb_bs p hn hi, decide_eq_false (by omega)]
  rfl
theorem Sub.and {x z : Int32} {n : Nat} (h : Sub x n) : Sub (x &&& z) n := fun i hi hn => by
  rw [gb_and, h i hi hn]
  rfl
theorem Sub.size {x : Int32} {n : Nat} (h : Sub x n) (hn : n ≤ 30) : sBit x = mSize x := sBit_mSize (h 30 (by decide) hn) (h 31 (by decide) (by omega))
/-- of claims below their number, the nearest are the nearest -/
theorem mNear_eq {σ : Sg} (hC : COk σ) {s : Int32} (h : Sub s (nCl σ)) : mNear σ s = cNearest σ s := by
  have h32 : nCl σ ≤ 32 := by have := hC.2; omega
  refine gb_ext fun i hi => ?_
  unfold mNear cNearest
  rw [gb_bs _ h32 hi, gb_and, gb_bs _ h32 hi, sHolds_gb _ hi]
  by_cases q : i < nCl σ
  · simp [q]
  · rw [h i hi (by omega)]
    simp
theorem near_sub {σ : Sg} {s : Int32} (h : Sub s (nCl σ)) : Sub (cNearest σ s) (nCl σ) := h.and
theorem cUpTo_sub {σ : Sg} (hC : COk σ) (w : Int32) : Sub (cUpTo σ w) (nCl σ) := by
  rw [cUpTo_bs hC]
  exact Sub.bs _ (by have := hC.2; omega)
/-- a part of a set's member -/
theorem and_bit {x : Int32} {c : Nat} (hc : c < 32) : (x &&& bit c = 0) ↔ gb x c = false := by
  constructor
  · intro h
    have h2 := congrArg (fun v => gb v c) h
    simp only [gb_and, gb_0, gb_bit c hc c hc] at h2
    simpa using h2
  · intro h
    refine gb_ext fun i hi => ?_
    rw [gb_and, gb_0, gb_bit c hc i hi]
    by_cases q : i = c
    · subst q
      simp [h]
    · simp [q]
theorem sPart_eq {coins sh : Int32} {n c : Nat} (h : Sub sh n) (hn : n ≤ 30) (hc : c < 30) (hg : gb sh c = true) : sPart coins sh (bit c) = mPart coins sh c := by
  have hs := h.size hn
  have hs2 := (h.and (z := bit c - 1)).size hn
  unfold sPart mPart
  rw [hs, hs2, if_neg (mSize_ne hc hg), if_neg]
  rw [and_bit (by omega), hg]
  decide
