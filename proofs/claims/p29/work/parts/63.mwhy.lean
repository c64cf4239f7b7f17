theorem lp_or (p : Nat → Bool) : ∀ (k i : Nat) (b : Bool), lp (fun c b => b || p c) i k b = true ↔ (b = true ∨ ∃ c, i ≤ c ∧ c < i + k ∧ p c = true)
  | 0, i, b => by
    rw [lp_0]
    constructor
    · exact Or.inl
    · rintro (h | ⟨c, h1, h2, _⟩)
      · exact h
      · omega
  | k + 1, i, b => by
    rw [lp_s, lp_or p k (i + 1) (b || p i), Bool.or_eq_true]
    constructor
    · rintro ((h | h) | ⟨c, h1, h2, h3⟩)
      · exact Or.inl h
      · exact Or.inr ⟨i, Nat.le_refl _, by omega, h⟩
      · exact Or.inr ⟨c, by omega, by omega, h3⟩
    · rintro (h | ⟨c, h1, h2, h3⟩)
      · exact Or.inl (Or.inl h)
      rcases Nat.lt_or_ge i c with q | q
      · exact Or.inr ⟨c, q, by omega, h3⟩
      · have : c = i := by omega
        subst this
        exact Or.inl (Or.inr h3)
def mNear (σ : Sg) (set : Int32) : Int32 := bs (fun c => sHolds set (nI c) && decide (σ 7 c = cNearLine σ set)) (nCl σ)
def mPart (coins sh : Int32) (j : Nat) : Int32 := coins / mSize sh + (if coins - coins / mSize sh * mSize sh ≤ mSize (sh &&& (bit j - 1)) then 0 else 1)
def mVal (s v : Int32) : Bool := if s = 0 then mIn v 1 400 else if s = 1 then mIn v 1 100 else if s = 2 then mIn v 1 200 else if s = 3 then mIn v 0 400 else if s = 4 then mIn v 0 50 else false
def wLot (σ : Sg) (v : Int32) : Int32 := if mIn v 1 9999 = true then (if σ 13 0 = 12 then -4 else 0) else -2
def wNotice (σ : Sg) (x : Int32) : Int32 := if sExists (σ 13 0) x = true then (if σ 2 x.toNatClampNeg = 0 then 0 else -5) else -1
def wClaim (σ : Sg) (he x ln : Int32) : Int32 := if sHeir he = true then (if sExists (σ 13 0) x = true then (if mIn ln 1 5 = true then (let j := x.toNatClampNeg
    if sOver σ j = true then -5 else if σ 2 j = 3 ∧ σ 0 3 < σ 4 j then -5 else if cOfHeir σ he &&& cStandTo σ x = 0 then (if σ 13 1 = 30 then -4 else 0) else -5) else -2) else -1) else -1
def wOpen (σ : Sg) (j : Nat) : Int32 := if σ 9 j = 0 then 0 else -5
def wProve (σ : Sg) (x p : Int32) : Int32 := if sExists (σ 13 1) x = true then (if mIn p 1 100 = true then wOpen σ x.toNatClampNeg else -2) else -1
def wDecide (σ : Sg) (x : Int32) : Int32 := if sExists (σ 13 1) x = true then wOpen σ x.toNatClampNeg else -1
def wWithdraw (σ : Sg) (x : Int32) : Int32 := if sExists (σ 13 1) x = true then (if sStands σ x.toNatClampNeg = true then 0 else -5) else -1
def wSettle (σ : Sg) (x : Int32) : Int32 := if sExists (σ 13 0) x = true then (if sOver σ x.toNatClampNeg = true then -5 else if cOpenTo σ x = 0 then (if cUpTo σ x = 0 then -5 else 0) else -5) else -1
def wPass (σ : Sg) (v : Int32) : Int32 := if mIn v 1 400 = true then (if σ 13 4 + v ≤ 9999 then 0 else -5) else -2
