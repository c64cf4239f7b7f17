def nLot (σ : Sg) (v : Int32) : Sg := up2 (up2 (up2 (up2 (up2 σ 1 (nLo σ) v) 2 (nLo σ) 0) 3 (nLo σ) 0) 4 (nLo σ) 0) 13 0 (σ 13 0 + 1)
def nClr (n : Nat) (w : Nat) (τ : Sg) : Sg := up2 τ (5 + w) n 0
def nClaim (σ : Sg) (he x l : Int32) : Sg := up2 (up2 (up2 (up2 (lp (nClr (nCl σ)) 0 7 σ) 5 (nCl σ) he) 6 (nCl σ) x) 7 (nCl σ) l) 13 1 (σ 13 1 + 1)
def nProof (σ : Sg) (j : Nat) (p : Int32) : Int32 := if σ 8 j + p ≤ 100 then σ 8 j + p else 100
def nProve (σ : Sg) (j : Nat) (p : Int32) : Sg := up2 (up2 σ 8 j (nProof σ j p)) 10 j 0
def nVerd (σ : Sg) (j : Nat) : Int32 := if σ 8 j < σ 0 1 then 2 else 1
def mPd (σ : Sg) (x : Int32) : Bool := lp (fun c b => b || decide (σ 12 c = x)) 0 (nPd σ) false
def mPay (σ : Sg) (j : Nat) (c : Int32) : Sg :=
  let τ := up2 (up2 σ 11 j c) 14 (σ 5 j).toNatClampNeg (σ 14 (σ 5 j).toNatClampNeg + c)
  if c ≤ 0 then τ else if mPd σ (σ 5 j) = true then τ else up2 (up2 τ 12 (nPd σ) (σ 5 j)) 13 2 (σ 13 2 + 1)
theorem up2c {σ : Sg} {K j a b : Nat} {v : Int32} : up2 σ K j v a b = if a = K ∧ b = j then v else σ a b := rfl
