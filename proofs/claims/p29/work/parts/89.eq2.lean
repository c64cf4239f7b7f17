theorem eq_notice {σ : Sg} (hL : LOk σ) (x : Int32) : oNotice σ x = if wNotice σ x < 0 then (wNotice σ x, σ) else (mSize (lIn (up2 σ 2 x.toNatClampNeg 1) 1), up2 σ 2 x.toNatClampNeg 1) := by
  have hs : sBit (lIn (up2 σ 2 x.toNatClampNeg 1) 1) = mSize (lIn (up2 σ 2 x.toNatClampNeg 1) 1) := sBit_bs _ (by
    have := (hL.to (σ' := up2 σ 2 x.toNatClampNeg 1) rfl).1.2
    omega)
  unfold oNotice wNotice
  by_cases h : sExists (σ 13 0) x = true
  · by_cases h2 : σ 2 x.toNatClampNeg = 0
    · simp [h, h2, hs]
    · simp [h, h2]
  · simp [h]
theorem mSize_stand {σ : Sg} (hC : COk σ) (w : Int32) : sBit (cStandTo σ w) = mSize (cStandTo σ w) := by
  rw [cStandTo_bs hC]
  exact sBit_bs _ hC.2
theorem eq_withdraw {σ : Sg} (hC : COk σ) (x : Int32) : oWithdraw σ x = if wWithdraw σ x < 0 then (wWithdraw σ x, σ) else (mSize (cStandTo (up2 σ 9 x.toNatClampNeg 3) (σ 6 x.toNatClampNeg)), up2 σ 9 x.toNatClampNeg 3) := by
  have hs := mSize_stand (hC.to (σ' := up2 σ 9 x.toNatClampNeg 3) rfl).1 (σ 6 x.toNatClampNeg)
  unfold oWithdraw wWithdraw
  by_cases h : sExists (σ 13 1) x = true
  · by_cases h2 : sStands σ x.toNatClampNeg = true
    · simp [h, h2, hs]
    · simp [h, h2]
  · simp [h]
