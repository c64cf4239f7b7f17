/-! sets of places, bit by bit -/
def gb (x : Int32) (i : Nat) : Bool := x.toBitVec.getLsbD i
theorem gb_ext {x z : Int32} (h : ∀ i, i < 32 → gb x i = gb z i) : x = z :=
  Int32.toBitVec_inj.mp (BitVec.eq_of_getLsbD_eq h)
theorem gb_and (x z : Int32) (i : Nat) : gb (x &&& z) i = (gb x i && gb z i) := by
  unfold gb
  rw [Int32.toBitVec_and, BitVec.getLsbD_and]
theorem gb_or (x z : Int32) (i : Nat) : gb (x ||| z) i = (gb x i || gb z i) := by
  unfold gb
  rw [Int32.toBitVec_or, BitVec.getLsbD_or]
theorem gb_0 (i : Nat) : gb 0 i = false := by
  unfold gb
  rw [show (0 : Int32).toBitVec = 0#32 from rfl]
  exact BitVec.getLsbD_zero
theorem gb_bit : ∀ i, i < 32 → ∀ k, k < 32 → gb (bit i) k = decide (k = i) := by
  decide
theorem gb_sh : ∀ i, i < 32 → (nI i &&& 31).toBitVec.smod 32 = BitVec.ofNat 32 i := by
  decide
theorem gb_1 (x : Int32) : decide (x &&& 1 = 1) = gb x 0 := by
  have e : ∀ i, i < 32 → gb 1 i = decide (i = 0) := by decide
  rw [Bool.eq_iff_iff, decide_eq_true_iff]
  constructor
  · intro h
    have h2 := congrArg (fun v => gb v 0) h
    simp only [gb_and, e 0 (by decide)] at h2
    simpa using h2
  · intro h
    refine gb_ext fun i hi => ?_
    rw [gb_and, e i hi]
    by_cases h0 : i = 0
    · subst h0
      rw [h]
      rfl
    · simp [h0]
theorem sHolds_gb (x : Int32) {i : Nat} (hi : i < 32) : sHolds x (nI i) = gb x i := by
  unfold sHolds
  rw [gb_1]
  unfold gb
  rw [Int32.toBitVec_shiftRight, gb_sh i hi]
  show (BitVec.sshiftRight x.toBitVec (BitVec.ofNat 32 i).toNat).getLsbD 0 = _
  rw [BitVec.toNat_ofNat, Nat.mod_eq_of_lt (by omega), BitVec.getLsbD_sshiftRight]
  simp [hi]
theorem gb_lp (p : Nat → Bool) : ∀ (k s : Nat) (a : Int32) (i : Nat), s + k ≤ 32 → i < 32 → gb (lp (bsf p) s k a) i = (gb a i || (decide (s ≤ i) && decide (i < s + k) && p i))
  | 0, s, a, i, _, _ => by
    rw [lp_0]
    by_cases h : s ≤ i
    · simp [show ¬ i < s by omega]
    · simp [h]
  | k + 1, s, a, i, h, hi => by
    rw [lp_s, gb_lp p k (s + 1) _ i (by omega) hi]
    unfold bsf
    by_cases hs : i = s
    · subst hs
      by_cases hp : p i = true
      · rw [if_pos hp, gb_or, gb_bit i hi i hi]
        simp [hp]
      · rw [if_neg hp]
        simp [hp]
    · have e : gb (if p s = true then a ||| bit s else a) i = gb a i := by
        split
        · rw [gb_or, gb_bit s (by omega) i hi]
          simp [hs]
        · rfl
      rw [e]
      by_cases h1 : s + 1 ≤ i
      · simp [h1, show s ≤ i by omega, show s + 1 + k = s + (k + 1) by omega]
      · simp [h1, show ¬ s ≤ i by omega]
theorem gb_bs (p : Nat → Bool) {n i : Nat} (hn : n ≤ 32) (hi : i < 32) : gb (bs p n) i = (decide (i < n) && p i) := by
  unfold bs
  rw [gb_lp p n 0 0 i (by omega) hi, gb_0]
  simp
theorem bs_and (p q : Nat → Bool) {n : Nat} (hn : n ≤ 32) : bs p n &&& bs q n = bs (fun i => p i && q i) n := by
  refine gb_ext fun i hi => ?_
  rw [gb_and, gb_bs p hn hi, gb_bs q hn hi, gb_bs _ hn hi]
  cases decide (i < n) <;> simp
theorem bs_or (p q : Nat → Bool) {n : Nat} (hn : n ≤ 32) : bs p n ||| bs q n = bs (fun i => p i || q i) n := by
  refine gb_ext fun i hi => ?_
  rw [gb_or, gb_bs p hn hi, gb_bs q hn hi, gb_bs _ hn hi]
  cases decide (i < n) <;> simp
theorem bs_ext {p q : Nat → Bool} {n : Nat} (hn : n ≤ 32) (h : ∀ i, i < n → p i = q i) : bs p n = bs q n := by
  refine gb_ext fun i hi => ?_
  rw [gb_bs p hn hi, gb_bs q hn hi]
  by_cases hin : i < n
  · simp [hin, h i hin]
  · simp [hin]
theorem bs_eq0 {p : Nat → Bool} {n : Nat} (hn : n ≤ 32) : bs p n = 0 ↔ ∀ i, i < n → p i = false := by
  constructor
  · intro h i hi
    have h2 := gb_bs p (i := i) hn (by omega)
    rw [h, gb_0] at h2
    simpa [hi] using h2.symm
  · intro h
    refine gb_ext fun i hi => ?_
    rw [gb_bs p hn hi, gb_0]
    by_cases hin : i < n
    · simp [h i hin]
    · simp [hin]
theorem cOpenTo_bs {σ : Sg} (hC : COk σ) (w : Int32) : cOpenTo σ w = bs (fun c => decide (σ 6 c = w) && decide (σ 9 c = 0)) (nCl σ) := bs_and _ _ (by have := hC.2; omega)
theorem cUpTo_bs {σ : Sg} (hC : COk σ) (w : Int32) : cUpTo σ w = bs (fun c => decide (σ 6 c = w) && decide (σ 9 c = 1)) (nCl σ) := bs_and _ _ (by have := hC.2; omega)
theorem cStanding_bs {σ : Sg} (hC : COk σ) : cStanding σ = bs (sStands σ) (nCl σ) := bs_or _ _ (by have := hC.2; omega)
theorem cStandTo_bs {σ : Sg} (hC : COk σ) (w : Int32) : cStandTo σ w = bs (fun c => decide (σ 6 c = w) && sStands σ c) (nCl σ) := by
  unfold cStandTo
  rw [cStanding_bs hC]
  exact bs_and _ _ (by have := hC.2; omega)
theorem cStandTo_or {σ : Sg} (hC : COk σ) (w : Int32) : cOpenTo σ w ||| cUpTo σ w = cStandTo σ w := by
  rw [cOpenTo_bs hC, cUpTo_bs hC, cStandTo_bs hC, bs_or _ _ (by have := hC.2; omega)]
  refine bs_ext (by have := hC.2; omega) fun i _ => ?_
  unfold sStands
  cases decide (σ 6 i = w) <;> simp
/-- within ranges -/
def mIn (v lo hi : Int32) : Bool := !decide (v < lo) && !decide (hi < v)
