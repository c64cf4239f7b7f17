/-! WHAT THE CLASS'S METHODS ANSWER, in the words of an office's rows -/
def ush (x z : Int32) : Int32 := (x.toUInt32 >>> (z.toUInt32 &&& Int32.toUInt32 31)).toInt32
def sBit (x : Int32) : Int32 :=
  let b := x - (ush x 1 &&& 1431655765)
  let c := (b &&& 858993459) + (ush b 2 &&& 858993459)
  let e := (c + ush c 4) &&& 252645135
  let f := e + ush e 8
  let g := f + ush f 16
  g &&& 63
-- lots
def lAll (σ : Sg) : Int32 := ((1 : Int32) <<< (σ 13 0 &&& 31)) - 1
def lIn (σ : Sg) (w : Int32) : Int32 := bs (fun i => decide (σ 2 i = w)) (nLo σ)
def sOver (σ : Sg) (j : Nat) : Bool := decide (σ 2 j = 2) || decide (σ 2 j = 4)
-- claims
def cAll (σ : Sg) : Int32 := ((1 : Int32) <<< (σ 13 1 &&& 31)) - 1
def cIn (σ : Sg) (w : Int32) : Int32 := bs (fun c => decide (σ 9 c = w)) (nCl σ)
def cStanding (σ : Sg) : Int32 := cIn σ 0 ||| cIn σ 1
def cOfHeir (σ : Sg) (w : Int32) : Int32 := bs (fun c => decide (σ 5 c = w)) (nCl σ)
def cToLot (σ : Sg) (w : Int32) : Int32 := bs (fun c => decide (σ 6 c = w)) (nCl σ)
def cOpenTo (σ : Sg) (w : Int32) : Int32 := cToLot σ w &&& cIn σ 0
def cUpTo (σ : Sg) (w : Int32) : Int32 := cToLot σ w &&& cIn σ 1
def cStandTo (σ : Sg) (w : Int32) : Int32 := cToLot σ w &&& cStanding σ
def cBrought (σ : Sg) : Int32 := cAll σ &&& (bs (fun c => decide (σ 11 c = 0)) (nCl σ) ^^^ (-1))
def sOpen (σ : Sg) (j : Nat) : Bool := decide (σ 9 j = 0)
def sStands (σ : Sg) (j : Nat) : Bool := decide (σ 9 j = 0) || decide (σ 9 j = 1)
def nlf (σ : Sg) (set : Int32) (c : Nat) (a : Int32) : Int32 := if sHolds set (nI c) = true then (if a = -6 then σ 7 c else if a ≤ σ 7 c then a else σ 7 c) else a
def cNearLine (σ : Sg) (set : Int32) : Int32 := lp (nlf σ set) 0 (nCl σ) (-6)
def cNearest (σ : Sg) (set : Int32) : Int32 := set &&& bs (fun c => decide (σ 7 c = cNearLine σ set)) (nCl σ)
def wLong (σ : Sg) (c : Nat) (lapse : Int32) : Sg := if σ 10 c + 1 < lapse then up2 σ 10 c (σ 10 c + 1) else up2 (up2 σ 10 c (σ 10 c + 1)) 9 c 4
def wDayF (lapse : Int32) (c : Nat) (q : Sg × Int32) : Sg × Int32 :=
  let σ' := if sOpen q.1 c = true then wLong q.1 c lapse else q.1
  (σ', if sStands σ' c = true then q.2 ||| ((1 : Int32) <<< (σ' 6 c &&& 31)) else q.2)
def wDay (σ : Sg) (lapse : Int32) : Sg × Int32 := lp (wDayF lapse) 0 (nCl σ) (σ, 0)
-- the office
def sHeir (x : Int32) : Bool := !decide (x < 0) && !decide (16 ≤ x)
def oSet (σ : Sg) (s v : Int32) : Int32 × Sg :=
  if s < 0 then (-2, σ) else if s < 5 then (let j := s.toNatClampNeg
    if v < ax_f 0 j then (-2, σ) else if v ≤ ax_f 1 j then (σ 0 j, up2 σ 0 j v) else (-2, σ)) else (-2, σ)
def oLot (σ : Sg) (v : Int32) : Int32 × Sg :=
  if v < 1 then (-2, σ) else if v ≤ 9999 then (if σ 13 0 < 12 then (σ 13 0, up2 (up2 σ 1 (nLo σ) v) 13 0 (σ 13 0 + 1)) else (-4, σ)) else (-2, σ)
def oNotice (σ : Sg) (x : Int32) : Int32 × Sg :=
  if sExists (σ 13 0) x = true then (let j := x.toNatClampNeg
    if σ 2 j = 0 then (sBit (lIn (up2 σ 2 j 1) 1), up2 σ 2 j 1) else (-5, σ)) else (-1, σ)
def sCanClaim (σ : Sg) (j : Nat) : Bool := if σ 2 j = 3 then !decide (σ 0 3 < σ 4 j) else !sOver σ j
def oClaim (σ : Sg) (he x ln : Int32) : Int32 × Sg :=
  if sHeir he = true then (if sExists (σ 13 0) x = true then (let j := x.toNatClampNeg
    if ln < 1 then (-2, σ) else if ln ≤ 5 then (if sCanClaim σ j = true then (if cOfHeir σ he &&& cStandTo σ x = 0 then
      (if σ 13 1 < 30 then (σ 13 1, up2 (up2 (up2 (up2 σ 5 (nCl σ) he) 6 (nCl σ) x) 7 (nCl σ) ln) 13 1 (σ 13 1 + 1)) else (-4, σ)) else (-5, σ)) else (-5, σ)) else (-2, σ)) else (-1, σ)) else (-1, σ)
def min32 (x z : Int32) : Int32 := if z < x then z else x
def max32 (x z : Int32) : Int32 := if x < z then z else x
def oProve (σ : Sg) (x p : Int32) : Int32 × Sg :=
  if sExists (σ 13 1) x = true then (let j := x.toNatClampNeg
    if p < 1 then (-2, σ) else if p ≤ 100 then (if sOpen σ j = true then (min32 100 (σ 8 j + p), up2 (up2 σ 8 j (min32 100 (σ 8 j + p))) 10 j 0) else (-5, σ)) else (-2, σ)) else (-1, σ)
def oDecide (σ : Sg) (x : Int32) : Int32 × Sg :=
  if sExists (σ 13 1) x = true then (let j := x.toNatClampNeg
    if sOpen σ j = true then (let v : Int32 := if σ 8 j < σ 0 1 then 2 else 1
      (v, up2 σ 9 j v)) else (-5, σ)) else (-1, σ)
def oWithdraw (σ : Sg) (x : Int32) : Int32 × Sg :=
  if sExists (σ 13 1) x = true then (let j := x.toNatClampNeg
    if sStands σ j = true then (sBit (cStandTo (up2 σ 9 j 3) (σ 6 j)), up2 σ 9 j 3) else (-5, σ)) else (-1, σ)
def sCoins (σ : Sg) (j : Nat) : Int32 := if σ 2 j = 3 then σ 1 j - σ 1 j * σ 0 4 / 100 else σ 1 j
def sPart (coins sh cl : Int32) : Int32 :=
  if sBit sh = 0 then 0 else if sh &&& cl = 0 then 0 else coins / sBit sh + (if coins - coins / sBit sh * sBit sh ≤ sBit (sh &&& (cl - 1)) then 0 else 1)
def sPurse (σ : Sg) (he : Int32) : Int32 := lp (sSumf (σ 11) (cOfHeir σ he)) 0 30 0
def sPayO (σ : Sg) (c : Nat) (coins : Int32) : Sg := if coins ≤ 0 then σ else if sPurse σ (σ 5 c) = 0 then (if 16 ≤ σ 13 2 then σ else up2 (up2 σ 12 (nPd σ) (σ 5 c)) 13 2 (σ 13 2 + 1)) else σ
def sSettleC (σ : Sg) (c : Nat) (coins : Int32) : Sg := up2 (up2 (sPayO σ c coins) 11 c coins) 9 c 5
def sLeave (σ : Sg) (j : Nat) (coins : Int32) : Sg := if σ 2 j = 3 then up2 (up2 σ 13 3 (σ 13 3 - coins)) 2 j 4 else up2 σ 2 j 2
def shareF (up coins sh : Int32) (c : Nat) (σ : Sg) : Sg := if sHolds up (nI c) = true then sSettleC σ c (sPart coins sh (bit c)) else σ
def oSettle (σ : Sg) (x : Int32) : Int32 × Sg :=
  if sExists (σ 13 0) x = true then (let j := x.toNatClampNeg
    let up := cUpTo σ x
    if sOver σ j = false ∧ cOpenTo σ x = 0 ∧ up ≠ 0 then (let coins := sCoins σ j
      let sh := cNearest σ up
      (sBit sh, sLeave (lp (shareF up coins sh) 0 (nCl σ) σ) j coins)) else (-5, σ)) else (-1, σ)
def sCount (σ : Sg) (j : Nat) : Int32 × Sg :=
  let σ1 := up2 σ 3 j (σ 3 j + 1)
  if σ1 0 0 ≤ σ1 3 j then (1, up2 (up2 σ1 2 j 3) 13 3 (σ 13 3 + σ 1 j)) else (0, σ1)
def pDayF (claimed : Int32) (j : Nat) (q : Sg × Int32) : Sg × Int32 :=
  if q.1 2 j = 3 then (up2 q.1 4 j (q.1 4 j + 1), q.2) else if q.1 2 j = 1 then (if sHolds claimed (nI j) = true then q else ((sCount q.1 j).2, q.2 + (sCount q.1 j).1)) else q
def pDay (σ : Sg) : Sg × Int32 :=
  let w := wDay σ (σ 0 2)
  let q := lp (pDayF w.2) 0 (nLo w.1) (w.1, 0)
  (up2 q.1 13 4 (q.1 13 4 + 1), q.2)
def pDaysF (_ : Nat) (q : Sg × Int32) : Sg × Int32 := ((pDay q.1).1, q.2 + (pDay q.1).2)
def oPass (σ : Sg) (n : Int32) : Int32 × Sg :=
  if n < 1 then (-2, σ) else if n ≤ 400 then (if σ 13 4 + n ≤ 9999 then (let q := lp pDaysF 0 n.toNatClampNeg (σ, 0)
    (q.2, q.1)) else (-5, σ)) else (-2, σ)
def oOf (σ : Sg) (x w : Int32) : Int32 :=
  if sExists (σ 13 0) x = true then (let j := x.toNatClampNeg
    if w = 0 then σ 1 j else if w = 1 then σ 2 j else if w = 2 then σ 3 j else if w = 3 then σ 4 j else if w = 4 then cStandTo σ x else if w = 5 then cToLot σ x else if w = 6 then cNearLine σ (cUpTo σ x) else -2) else -1
def oOfClaim (σ : Sg) (x w : Int32) : Int32 :=
  if sExists (σ 13 1) x = true then (let j := x.toNatClampNeg
    if w = 0 then σ 5 j else if w = 1 then σ 6 j else if w = 2 then σ 7 j else if w = 3 then σ 8 j else if w = 4 then σ 9 j else if w = 5 then σ 10 j else if w = 6 then σ 11 j else -2) else -1
def oHeir (σ : Sg) (x w : Int32) : Int32 :=
  if sHeir x = true then (if w = 0 then sPurse σ x else if w = 1 then cOfHeir σ x else if w = 2 then cOfHeir σ x &&& cStanding σ else if w = 3 then lp (sNumf (σ 6) (cOfHeir σ x &&& cBrought σ)) 0 30 0 else -2) else -1
def oPaid (σ : Sg) (x : Int32) : Int32 := if x < 0 then -1 else if σ 13 2 ≤ x then -1 else σ 12 x.toNatClampNeg
def oNumC (σ : Sg) (w : Int32) : Int32 :=
  if w = 0 then σ 13 4 else if w = 1 then σ 13 0 else if w = 2 then σ 13 1 else if w = 8 then lp (sSumf (σ 1) (lAll σ)) 0 12 0
  else if w = 9 then lp (sSumf (σ 1) (lIn σ 0 ||| lIn σ 1)) 0 12 0 else if w = 10 then σ 13 3 else if w = 11 then lp (sSumf (σ 11) (cAll σ)) 0 30 0
  else if w = 12 then cStanding σ else if w = 13 then sBit (lp (sNumf (σ 5) (cAll σ)) 0 30 0) else -2
def oNumB (σ : Sg) (w : Int32) : Int32 := if w < 14 then oNumC σ w else if 19 ≤ w then oNumC σ w else σ 0 (w - 14).toNatClampNeg
def oNumber (σ : Sg) (w : Int32) : Int32 := if w < 3 then oNumB σ w else if 7 < w then oNumB σ w else lIn σ (w - 3)
def oWhy (σ : Sg) (x : Int32) : Int32 :=
  if sExists (σ 13 0) x = true then (if σ 2 x.toNatClampNeg = 1 then (if cOpenTo σ x = 0 then (if cUpTo σ x = 0 then 0 else 3) else 2) else 1) else -1
def sLapse (σ : Sg) (c : Nat) : Int32 := max32 1 (σ 0 2 - σ 10 c)
def idleF (σ : Sg) (op : Int32) (c : Nat) (a : Int32) : Int32 := if sHolds op (nI c) = true then max32 a (sLapse σ c - 1) else a
def sIdle (σ : Sg) (x : Int32) : Int32 := lp (idleF σ (cOpenTo σ x)) 0 (nCl σ) 0
def oFalls (σ : Sg) (x : Int32) : Int32 :=
  if sExists (σ 13 0) x = true then (let j := x.toNatClampNeg
    if σ 2 j = 1 then (if cUpTo σ x = 0 then sIdle σ x + max32 1 (σ 0 0 - σ 3 j) else -6) else -5) else -1
def oShare (σ : Sg) (x he w : Int32) : Int32 :=
  if sExists (σ 13 0) x = true then (if sHeir he = true then (if w ≠ 0 ∧ w ≠ 1 then -2 else let j := x.toNatClampNeg
    if sOver σ j = true then -5 else let sh := cNearest σ (if w = 0 then cUpTo σ x else cStandTo σ x)
      sPart (sCoins σ j) sh (sh &&& cOfHeir σ he)) else -1) else -1
def ffF (σ : Sg) (j : Nat) (q : Int32 × Int32) : Int32 × Int32 := let f := oFalls σ (nI j)
  if f ≤ 0 then q else if q.2 = -6 then (nI j, f) else if q.2 ≤ f then q else (nI j, f)
def oNextFall (σ : Sg) (w : Int32) : Int32 :=
  if w ≠ 0 ∧ w ≠ 1 then -2 else let q := lp (ffF σ) 0 (nLo σ) (-6, -6)
    if w = 0 then q.1 else q.2
def sAhead (σ : Sg) (c b : Nat) : Bool := if sLapse σ c < sLapse σ b then true else if sLapse σ c = sLapse σ b then !decide (σ 6 b ≤ σ 6 c) else false
def flF (σ : Sg) (c : Nat) (a : Int32) : Int32 := if sOpen σ c = true then (if a = -6 then nI c else if sAhead σ c a.toNatClampNeg = true then nI c else a) else a
def oNextLapse (σ : Sg) (w : Int32) : Int32 :=
  if w ≠ 0 ∧ w ≠ 1 then -2 else let a := lp (flF σ) 0 (nCl σ) (-6)
    if w = 1 then a else if a = -6 then a else sLapse σ a.toNatClampNeg
theorem MO.mk {p : Int32 × Sg} {v : Int32} {σ' : Sg} {z o : Nat} {h h' : Nat → Option va_E} (he : p = (v, σ')) (hO : OffAt h' o σ') (hF : Fr o 16 h h') : MO (some (.int p.1)) z o h p.2 (some (.int v)) (z, h') := by
  subst he
  exact ⟨rfl, h', rfl, hO, hF⟩
theorem MO.mkn {τ σ' : Sg} {z o : Nat} {h h' : Nat → Option va_E} (he : τ = σ') (hO : OffAt h' o σ') (hF : Fr o 16 h h') : MO none z o h τ none (z, h') := by
  subst he
  exact ⟨rfl, h', rfl, hO, hF⟩
theorem nI_cl {j : Nat} (h : j < 2 ^ 31) : (nI j).toNatClampNeg = j := nI_clamp h
theorem cnt_lt {σ : Sg} {r N M : Nat} (h : σ 13 r = nI N) (hN : N ≤ M) (hM : M < 2 ^ 31) (hc : σ 13 r < nI M) : N < M := by
  rw [h] at hc
  exact (nI_ltI (by omega) hM).mp hc
theorem sw_out {x : Int32} {lo hi : Int} (h : ∀ n : Int, lo ≤ n → n ≤ hi → x ≠ Int32.ofInt n) : x.toInt < lo ∨ hi < x.toInt := by
  rcases Int.lt_or_le x.toInt lo with h1 | h1
  · exact Or.inl h1
  rcases Int.lt_or_le hi x.toInt with h2 | h2
  · exact Or.inr h2
  · exact absurd (Int32.ofInt_toInt x).symm (h x.toInt h1 h2)
theorem COk.to {σ σ' : Sg} (h : COk σ) (e : σ' 13 1 = σ 13 1) : COk σ' ∧ nCl σ' = nCl σ := by
  unfold COk nCl at *
  rw [e]
  exact ⟨h, rfl⟩
theorem LOk.to {σ σ' : Sg} (h : LOk σ) (e : σ' 13 0 = σ 13 0) : LOk σ' ∧ nLo σ' = nLo σ := by
  unfold LOk nLo at *
  rw [e]
  exact ⟨h, rfl⟩
theorem POk.to {σ σ' : Sg} (h : POk σ) (e : σ' 13 2 = σ 13 2) : POk σ' ∧ nPd σ' = nPd σ := by
  unfold POk nPd at *
  rw [e]
  exact ⟨h, rfl⟩
