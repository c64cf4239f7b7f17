/-! loops as folds; sets of places as numbers -/
def lp {α : Type} (f : Nat → α → α) : Nat → Nat → α → α
  | _, 0, a => a
  | i, k + 1, a => lp f (i + 1) k (f i a)
theorem lp_0 {α : Type} (f : Nat → α → α) (i : Nat) (a : α) : lp f i 0 a = a := rfl
theorem lp_s {α : Type} (f : Nat → α → α) (i k : Nat) (a : α) : lp f i (k + 1) a = lp f (i + 1) k (f i a) := rfl
def bit (i : Nat) : Int32 := (1 : Int32) <<< (nI i &&& 31)
def bsf (p : Nat → Bool) (i : Nat) (a : Int32) : Int32 := if p i = true then a ||| bit i else a
theorem bsf_t {p : Nat → Bool} {i : Nat} (a : Int32) (h : p i = true) : bsf p i a = a ||| bit i := if_pos h
theorem bsf_f {p : Nat → Bool} {i : Nat} (a : Int32) (h : p i = false) : bsf p i a = a := if_neg (by rw [h]; decide)
/-- the set of the places below n with p -/
def bs (p : Nat → Bool) (n : Nat) : Int32 := lp (bsf p) 0 n 0
def inc1 {i : Nat} {v : Int32} (h : v = nI i + Int32.ofInt 1) : v = nI (i + 1) := h.trans (nI_1 i)
theorem RO.mk {v w : Int32} {hp : Hp} (h : v = w) : RO (some (.int w)) hp (some (.int v)) hp := ⟨by rw [h], rfl⟩
/-- the counts of an office -/
def nLo (σ : Sg) : Nat := (σ 13 0).toNatClampNeg
def nCl (σ : Sg) : Nat := (σ 13 1).toNatClampNeg
def nPd (σ : Sg) : Nat := (σ 13 2).toNatClampNeg
def LOk (σ : Sg) : Prop := σ 13 0 = nI (nLo σ) ∧ nLo σ ≤ 12
def COk (σ : Sg) : Prop := σ 13 1 = nI (nCl σ) ∧ nCl σ ≤ 30
def POk (σ : Sg) : Prop := σ 13 2 = nI (nPd σ) ∧ nPd σ ≤ 16
/-! what the class's methods answer -/
def sHolds (set m : Int32) : Bool := decide ((set >>> (m &&& 31)) &&& 1 = 1)
def sExists (n x : Int32) : Bool := !decide (x < 0) && !decide (n ≤ x)
def sSumf (g : Nat → Int32) (set : Int32) (i : Nat) (a : Int32) : Int32 := if sHolds set (nI i) = true then a + g i else a
def sNumf (g : Nat → Int32) (set : Int32) (i : Nat) (a : Int32) : Int32 := if sHolds set (nI i) = true then a ||| ((1 : Int32) <<< (g i &&& 31)) else a
theorem ax_ix_of {n x : Int32} {N len : Nat} (hn : n = nI N) (hN : N ≤ len) (hl : len < 2 ^ 31) (h : sExists n x = true) : ∃ j, ax_ix x len j ∧ j < N ∧ x = nI j := by
  unfold sExists at h
  simp only [Bool.and_eq_true, Bool.not_eq_true', decide_eq_false_iff_not] at h
  obtain ⟨h1, h2⟩ := h
  obtain ⟨j, hj, rfl⟩ := nI_of h1
  subst hn
  have hlt : j < N := by
    rcases Nat.lt_or_ge j N with q | q
    · exact q
    · exact absurd (nI_le q (by omega)) h2
  exact ⟨j, ax_ixN (by omega) hl, hlt, rfl⟩
