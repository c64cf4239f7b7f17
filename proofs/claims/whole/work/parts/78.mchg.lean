theorem wLot_ok {σ : Sg} (hL : LOk σ) {v : Int32} (h : ¬ wLot σ v < 0) : nLo σ < 12 := by
  unfold wLot at h
  split at h
  · split at h
    · exact absurd (by decide) h
    next q =>
      have h2 := hL.2
      rcases Nat.lt_or_ge (nLo σ) 12 with q1 | q1
      · exact q1
      · exact absurd (by rw [hL.1, show nLo σ = 12 by omega]; rfl) q
  · exact absurd (by decide) h
theorem wNotice_ok {σ : Sg} (hL : LOk σ) {x : Int32} (h : ¬ wNotice σ x < 0) : ∃ j, j < nLo σ ∧ x = nI j := by
  unfold wNotice at h
  split at h
  next q =>
    obtain ⟨j, _, hj, e⟩ := ax_ix_of hL.1 hL.2 (by decide) q
    exact ⟨j, hj, e⟩
  · exact absurd (by decide) h
theorem wSettle_ok {σ : Sg} (hL : LOk σ) {x : Int32} (h : ¬ wSettle σ x < 0) : ∃ j, j < nLo σ ∧ x = nI j := by
  unfold wSettle at h
  split at h
  next q =>
    obtain ⟨j, _, hj, e⟩ := ax_ix_of hL.1 hL.2 (by decide) q
    exact ⟨j, hj, e⟩
  · exact absurd (by decide) h
theorem wProve_ok {σ : Sg} (hC : COk σ) {x p : Int32} (h : ¬ wProve σ x p < 0) : ∃ j, j < nCl σ ∧ x = nI j := by
  unfold wProve at h
  split at h
  next q =>
    obtain ⟨j, _, hj, e⟩ := ax_ix_of hC.1 hC.2 (by decide) q
    exact ⟨j, hj, e⟩
  · exact absurd (by decide) h
theorem wDecide_ok {σ : Sg} (hC : COk σ) {x : Int32} (h : ¬ wDecide σ x < 0) : ∃ j, j < nCl σ ∧ x = nI j := by
  unfold wDecide at h
  split at h
  next q =>
    obtain ⟨j, _, hj, e⟩ := ax_ix_of hC.1 hC.2 (by decide) q
    exact ⟨j, hj, e⟩
  · exact absurd (by decide) h
theorem wWithdraw_ok {σ : Sg} (hC : COk σ) {x : Int32} (h : ¬ wWithdraw σ x < 0) : ∃ j, j < nCl σ ∧ x = nI j := by
  unfold wWithdraw at h
  split at h
  next q =>
    obtain ⟨j, _, hj, e⟩ := ax_ix_of hC.1 hC.2 (by decide) q
    exact ⟨j, hj, e⟩
  · exact absurd (by decide) h
theorem wClaim_ok {σ : Sg} (hC : COk σ) {y x l : Int32} (h : ¬ wClaim σ y x l < 0) : nCl σ < 30 := by
  have h2 := hC.2
  rcases Nat.lt_or_ge (nCl σ) 30 with q1 | q1
  · exact q1
  · have e : σ 13 1 = 30 := by rw [hC.1, show nCl σ = 30 by omega]; rfl
    refine absurd ?_ h
    unfold wClaim
    dsimp only
    split
    · split
      · split
        · split
          · decide
          split
          · decide
          split
          · first | decide | (rw [if_pos e]; decide)
          · decide
        · decide
      · decide
    · decide
theorem wPass_ok {σ : Sg} {v : Int32} (h : ¬ wPass σ v < 0) : ∃ j, 1 ≤ j ∧ j ≤ 400 ∧ v = nI j := by
  unfold wPass at h
  split at h
  next q => exact mIn_of (a := 1) (b := 400) (by decide) q (by decide)
  · exact absurd (by decide) h
theorem mVal_ok {s v : Int32} (h : mVal s v = true) : ∃ j, j < 5 ∧ s = nI j := by
  unfold mVal at h
  split at h
  next q => exact ⟨0, by decide, q⟩
  split at h
  next q => exact ⟨1, by decide, q⟩
  split at h
  next q => exact ⟨2, by decide, q⟩
  split at h
  next q => exact ⟨3, by decide, q⟩
  split at h
  next q => exact ⟨4, by decide, q⟩
  exact absurd h (by decide)
theorem wPass_ok2 {σ : Sg} {v : Int32} (h : ¬ wPass σ v < 0) : ∃ j, j < 401 ∧ v = nI j := by
  obtain ⟨j, _, h2, e⟩ := wPass_ok h
  exact ⟨j, by omega, e⟩
set_option maxRecDepth 100000 in
set_option maxHeartbeats 4000000 in
theorem m_lot {st : Nat → Nat} (d : Nat) {z : Nat} {h : Nat → Option va_E} {m : Nat} {ζ : Sg} {n : Nat} {G S : Nat → Sg} {sv tx : Nat → Int32} {ty sp : Int32} {tl : Nat → Int32} {tm : Int32} (hM : MAt h m ζ n n G S sv tx ty sp tl tm) (hL : LOk ζ) (hC : COk ζ) (x : Int32) : CT st (d + 6) yX5_lot cX5_lot 3 (some .int) [.ref m, .int x] (z, h) 0 0 (MMO (some (.int (if wLot ζ x < 0 then wLot ζ x else ζ 13 0))) z m h (if wLot ζ x < 0 then ζ else nLot ζ x) (if wLot ζ x < 0 then n else rcN n) (if wLot ζ x < 0 then n else rcN n) (if wLot ζ x < 0 then G else rcG G n ζ) (S) (sv) (tx) (ty) (sp) (tl) (tm)) := by
  refine CT.of (lv := [.ref m, .int x, .null]) (by decide) (Nat.le_of_ble_eq_true rfl) rfl rfl ?_
  refine x_aload_n dX5_lot_0 rfl ?_
  refine x_iload_n dX5_lot_1 rfl ?_
  refine c_VR dX5_lot_2 kX5_whyNotLot iX5_whyNotLot q753 (t_whyNotLot _ hM.z _) hM.z.ob rfl rfl rfl (Nat.le_of_ble_eq_true rfl) ⟨Nat.le_refl _, Nat.le_refl _⟩ ?_
  refine e_ist_n (lv' := fun w9 => [.ref m, .int x, .int w9]) dX5_lot_5 (Nat.le_of_ble_eq_true rfl) rfl (fun _ => rfl) (fun v1 ev1 => ?_)
  have ev1 : wLot ζ x = v1 := (ev1.trans rfl).symm
  subst ev1
  refine x_iload_n dX5_lot_6 rfl ?_
  refine x_if_ge (tgt := 12) dX5_lot_7 (by decide) (fun c7 => ?_) (fun c7 => ?_)
  · have hng : ¬ wLot ζ x < 0 := Int32.not_lt.mpr c7
    refine x_aload_n dX5_lot_12 rfl ?_
    refine c_VMMn dX5_lot_13 kX5_record iX5_record q738 (t_record _ hM) hM.ob rfl rfl rfl (Nat.le_of_ble_eq_true rfl) ⟨Nat.le_refl _, Nat.le_refl _⟩ (fun h2 hM2 hG2 => ?_)
    refine x_aload_n dX5_lot_16 rfl ?_
    refine x_iload_n dX5_lot_17 rfl ?_
    refine c_VZ dX5_lot_18 kX5_lotNow iX5_lotNow q757 (t_lotNow _ hM2.z hL (wLot_ok hL hng) _) hM2.z.ob rfl rfl rfl (Nat.le_of_ble_eq_true rfl) ⟨Nat.le_refl _, Nat.le_refl _⟩ (fun h3 hO3 hF3 => ?_)
    have hM3 := hM2.setZ hO3 hF3
    have hG3 : Fr m 8 _ h3 := hF3.wide (by omega) (by omega)
    refine x_iret dX5_lot_21 (Or.inl rfl) rfl (Nat.le_refl _) ?_
    simp only [if_neg hng]
    exact ⟨rfl, _, rfl, hM3, (hG2.tr hG3)⟩
  · refine x_iload_n dX5_lot_10 rfl ?_
    refine x_iret dX5_lot_11 (Or.inl rfl) rfl (Nat.le_refl _) ?_
    have hng : wLot ζ x < 0 := Int32.not_le.mp c7
    simp only [if_pos hng]
    exact ⟨rfl, _, rfl, hM, Fr.rf⟩

set_option maxRecDepth 100000 in
set_option maxHeartbeats 4000000 in
theorem m_notice {st : Nat → Nat} (d : Nat) {z : Nat} {h : Nat → Option va_E} {m : Nat} {ζ : Sg} {n : Nat} {G S : Nat → Sg} {sv tx : Nat → Int32} {ty sp : Int32} {tl : Nat → Int32} {tm : Int32} (hM : MAt h m ζ n n G S sv tx ty sp tl tm) (hL : LOk ζ) (hC : COk ζ) (x : Int32) : CT st (d + 6) yX5_notice cX5_notice 3 (some .int) [.ref m, .int x] (z, h) 0 0 (MMO (some (.int (if wNotice ζ x < 0 then wNotice ζ x else mSize (lIn (up2 ζ 2 x.toNatClampNeg 1) 1)))) z m h (if wNotice ζ x < 0 then ζ else up2 ζ 2 x.toNatClampNeg 1) (if wNotice ζ x < 0 then n else rcN n) (if wNotice ζ x < 0 then n else rcN n) (if wNotice ζ x < 0 then G else rcG G n ζ) (S) (sv) (tx) (ty) (sp) (tl) (tm)) := by
  refine CT.of (lv := [.ref m, .int x, .null]) (by decide) (Nat.le_of_ble_eq_true rfl) rfl rfl ?_
  refine x_aload_n dX5_notice_0 rfl ?_
  refine x_iload_n dX5_notice_1 rfl ?_
  refine c_VR dX5_notice_2 kX5_whyNotNotice iX5_whyNotNotice q769 (t_whyNotNotice _ hM.z hL _) hM.z.ob rfl rfl rfl (Nat.le_of_ble_eq_true rfl) ⟨Nat.le_refl _, Nat.le_refl _⟩ ?_
  refine e_ist_n (lv' := fun w9 => [.ref m, .int x, .int w9]) dX5_notice_5 (Nat.le_of_ble_eq_true rfl) rfl (fun _ => rfl) (fun v1 ev1 => ?_)
  have ev1 : wNotice ζ x = v1 := (ev1.trans rfl).symm
  subst ev1
  refine x_iload_n dX5_notice_6 rfl ?_
  refine x_if_ge (tgt := 12) dX5_notice_7 (by decide) (fun c7 => ?_) (fun c7 => ?_)
  · have hng : ¬ wNotice ζ x < 0 := Int32.not_lt.mpr c7
    obtain ⟨j, hj, ej⟩ := wNotice_ok hL hng
    have hj12 := hL.2
    have hj30 := hC.2
    subst ej
    have hcl := nI_cl (j := j) (by omega)
    refine x_aload_n dX5_notice_12 rfl ?_
    refine c_VMMn dX5_notice_13 kX5_record iX5_record q738 (t_record _ hM) hM.ob rfl rfl rfl (Nat.le_of_ble_eq_true rfl) ⟨Nat.le_refl _, Nat.le_refl _⟩ (fun h2 hM2 hG2 => ?_)
    refine x_aload_n dX5_notice_16 rfl ?_
    refine x_iload_n dX5_notice_17 rfl ?_
    refine c_VZ dX5_notice_18 kX5_noticeNow iX5_noticeNow q781 (t_noticeNow _ hM2.z hL (j := j) (by omega)) hM2.z.ob rfl rfl rfl (Nat.le_of_ble_eq_true rfl) ⟨Nat.le_refl _, Nat.le_refl _⟩ (fun h3 hO3 hF3 => ?_)
    have hM3 := hM2.setZ hO3 hF3
    have hG3 : Fr m 8 _ h3 := hF3.wide (by omega) (by omega)
    refine x_iret dX5_notice_21 (Or.inl rfl) rfl (Nat.le_refl _) ?_
    simp only [if_neg hng, hcl]
    exact ⟨rfl, _, rfl, hM3, (hG2.tr hG3)⟩
  · refine x_iload_n dX5_notice_10 rfl ?_
    refine x_iret dX5_notice_11 (Or.inl rfl) rfl (Nat.le_refl _) ?_
    have hng : wNotice ζ x < 0 := Int32.not_le.mp c7
    simp only [if_pos hng]
    exact ⟨rfl, _, rfl, hM, Fr.rf⟩

set_option maxRecDepth 100000 in
set_option maxHeartbeats 4000000 in
theorem m_claim {st : Nat → Nat} (d : Nat) {z : Nat} {h : Nat → Option va_E} {m : Nat} {ζ : Sg} {n : Nat} {G S : Nat → Sg} {sv tx : Nat → Int32} {ty sp : Int32} {tl : Nat → Int32} {tm : Int32} (hM : MAt h m ζ n n G S sv tx ty sp tl tm) (hL : LOk ζ) (hC : COk ζ) (y x l : Int32) : CT st (d + 6) yX5_claim cX5_claim 5 (some .int) [.ref m, .int y, .int x, .int l] (z, h) 0 0 (MMO (some (.int (if wClaim ζ y x l < 0 then wClaim ζ y x l else ζ 13 1))) z m h (if wClaim ζ y x l < 0 then ζ else nClaim ζ y x l) (if wClaim ζ y x l < 0 then n else rcN n) (if wClaim ζ y x l < 0 then n else rcN n) (if wClaim ζ y x l < 0 then G else rcG G n ζ) (S) (sv) (tx) (ty) (sp) (tl) (tm)) := by
  refine CT.of (lv := [.ref m, .int y, .int x, .int l, .null]) (by decide) (Nat.le_of_ble_eq_true rfl) rfl rfl ?_
  refine x_aload_n dX5_claim_0 rfl ?_
  refine x_iload_n dX5_claim_1 rfl ?_
  refine x_iload_n dX5_claim_2 rfl ?_
  refine x_iload_n dX5_claim_3 rfl ?_
  refine c_VR dX5_claim_4 kX5_whyNotClaim iX5_whyNotClaim q796 (t_whyNotClaim _ hM.z hL hC _ _ _) hM.z.ob rfl rfl rfl (Nat.le_of_ble_eq_true rfl) ⟨Nat.le_refl _, Nat.le_refl _⟩ ?_
  refine e_ist (lv' := fun w9 => [.ref m, .int y, .int x, .int l, .int w9]) dX5_claim_7 (Nat.le_of_ble_eq_true rfl) rfl (fun _ => rfl) (fun v1 ev1 => ?_)
  have ev1 : wClaim ζ y x l = v1 := (ev1.trans rfl).symm
  subst ev1
  refine x_iload dX5_claim_9 rfl ?_
  refine x_if_ge (tgt := 17) dX5_claim_11 (by decide) (fun c11 => ?_) (fun c11 => ?_)
  · have hng : ¬ wClaim ζ y x l < 0 := Int32.not_lt.mpr c11
    refine x_aload_n dX5_claim_17 rfl ?_
    refine c_VMMn dX5_claim_18 kX5_record iX5_record q738 (t_record _ hM) hM.ob rfl rfl rfl (Nat.le_of_ble_eq_true rfl) ⟨Nat.le_refl _, Nat.le_refl _⟩ (fun h2 hM2 hG2 => ?_)
    refine x_aload_n dX5_claim_21 rfl ?_
    refine x_iload_n dX5_claim_22 rfl ?_
    refine x_iload_n dX5_claim_23 rfl ?_
    refine x_iload_n dX5_claim_24 rfl ?_
    refine c_VZ dX5_claim_25 kX5_claimNow iX5_claimNow q819 (t_claimNow _ hM2.z hC (wClaim_ok hC hng) _ _ _) hM2.z.ob rfl rfl rfl (Nat.le_of_ble_eq_true rfl) ⟨Nat.le_refl _, Nat.le_refl _⟩ (fun h3 hO3 hF3 => ?_)
    have hM3 := hM2.setZ hO3 hF3
    have hG3 : Fr m 8 _ h3 := hF3.wide (by omega) (by omega)
    refine x_iret dX5_claim_28 (Or.inl rfl) rfl (Nat.le_refl _) ?_
    simp only [if_neg hng]
    exact ⟨rfl, _, rfl, hM3, (hG2.tr hG3)⟩
  · refine x_iload dX5_claim_14 rfl ?_
    refine x_iret dX5_claim_16 (Or.inl rfl) rfl (Nat.le_refl _) ?_
    have hng : wClaim ζ y x l < 0 := Int32.not_le.mp c11
    simp only [if_pos hng]
    exact ⟨rfl, _, rfl, hM, Fr.rf⟩

set_option maxRecDepth 100000 in
set_option maxHeartbeats 4000000 in
theorem m_prove {st : Nat → Nat} (d : Nat) {z : Nat} {h : Nat → Option va_E} {m : Nat} {ζ : Sg} {n : Nat} {G S : Nat → Sg} {sv tx : Nat → Int32} {ty sp : Int32} {tl : Nat → Int32} {tm : Int32} (hM : MAt h m ζ n n G S sv tx ty sp tl tm) (hL : LOk ζ) (hC : COk ζ) (x p : Int32) : CT st (d + 6) yX5_prove cX5_prove 4 (some .int) [.ref m, .int x, .int p] (z, h) 0 0 (MMO (some (.int (if wProve ζ x p < 0 then wProve ζ x p else nProof ζ x.toNatClampNeg p))) z m h (if wProve ζ x p < 0 then ζ else nProve ζ x.toNatClampNeg p) (if wProve ζ x p < 0 then n else rcN n) (if wProve ζ x p < 0 then n else rcN n) (if wProve ζ x p < 0 then G else rcG G n ζ) (S) (sv) (tx) (ty) (sp) (tl) (tm)) := by
  refine CT.of (lv := [.ref m, .int x, .int p, .null]) (by decide) (Nat.le_of_ble_eq_true rfl) rfl rfl ?_
  refine x_aload_n dX5_prove_0 rfl ?_
  refine x_iload_n dX5_prove_1 rfl ?_
  refine x_iload_n dX5_prove_2 rfl ?_
  refine c_VR dX5_prove_3 kX5_whyNotProve iX5_whyNotProve q831 (t_whyNotProve _ hM.z hC _ _) hM.z.ob rfl rfl rfl (Nat.le_of_ble_eq_true rfl) ⟨Nat.le_refl _, Nat.le_refl _⟩ ?_
  refine e_ist_n (lv' := fun w9 => [.ref m, .int x, .int p, .int w9]) dX5_prove_6 (Nat.le_of_ble_eq_true rfl) rfl (fun _ => rfl) (fun v1 ev1 => ?_)
  have ev1 : wProve ζ x p = v1 := (ev1.trans rfl).symm
  subst ev1
  refine x_iload_n dX5_prove_7 rfl ?_
  refine x_if_ge (tgt := 13) dX5_prove_8 (by decide) (fun c8 => ?_) (fun c8 => ?_)
  · have hng : ¬ wProve ζ x p < 0 := Int32.not_lt.mpr c8
    obtain ⟨j, hj, ej⟩ := wProve_ok hC hng
    have hj12 := hL.2
    have hj30 := hC.2
    subst ej
    have hcl := nI_cl (j := j) (by omega)
    refine x_aload_n dX5_prove_13 rfl ?_
    refine c_VMMn dX5_prove_14 kX5_record iX5_record q738 (t_record _ hM) hM.ob rfl rfl rfl (Nat.le_of_ble_eq_true rfl) ⟨Nat.le_refl _, Nat.le_refl _⟩ (fun h2 hM2 hG2 => ?_)
    refine x_aload_n dX5_prove_17 rfl ?_
    refine x_iload_n dX5_prove_18 rfl ?_
    refine x_iload_n dX5_prove_19 rfl ?_
    refine c_VZ dX5_prove_20 kX5_proveNow iX5_proveNow q843 (t_proveNow _ hM2.z (j := j) (by omega) _) hM2.z.ob rfl rfl rfl (Nat.le_of_ble_eq_true rfl) ⟨Nat.le_refl _, Nat.le_refl _⟩ (fun h3 hO3 hF3 => ?_)
    have hM3 := hM2.setZ hO3 hF3
    have hG3 : Fr m 8 _ h3 := hF3.wide (by omega) (by omega)
    refine x_iret dX5_prove_23 (Or.inl rfl) rfl (Nat.le_refl _) ?_
    simp only [if_neg hng, hcl]
    exact ⟨rfl, _, rfl, hM3, (hG2.tr hG3)⟩
  · refine x_iload_n dX5_prove_11 rfl ?_
    refine x_iret dX5_prove_12 (Or.inl rfl) rfl (Nat.le_refl _) ?_
    have hng : wProve ζ x p < 0 := Int32.not_le.mp c8
    simp only [if_pos hng]
    exact ⟨rfl, _, rfl, hM, Fr.rf⟩

set_option maxRecDepth 100000 in
set_option maxHeartbeats 4000000 in
theorem m_decide {st : Nat → Nat} (d : Nat) {z : Nat} {h : Nat → Option va_E} {m : Nat} {ζ : Sg} {n : Nat} {G S : Nat → Sg} {sv tx : Nat → Int32} {ty sp : Int32} {tl : Nat → Int32} {tm : Int32} (hM : MAt h m ζ n n G S sv tx ty sp tl tm) (hL : LOk ζ) (hC : COk ζ) (x : Int32) : CT st (d + 6) yX5_decide cX5_decide 3 (some .int) [.ref m, .int x] (z, h) 0 0 (MMO (some (.int (if wDecide ζ x < 0 then wDecide ζ x else nVerd ζ x.toNatClampNeg))) z m h (if wDecide ζ x < 0 then ζ else up2 ζ 9 x.toNatClampNeg (nVerd ζ x.toNatClampNeg)) (if wDecide ζ x < 0 then n else rcN n) (if wDecide ζ x < 0 then n else rcN n) (if wDecide ζ x < 0 then G else rcG G n ζ) (S) (sv) (tx) (ty) (sp) (tl) (tm)) := by
  refine CT.of (lv := [.ref m, .int x, .null]) (by decide) (Nat.le_of_ble_eq_true rfl) rfl rfl ?_
  refine x_aload_n dX5_decide_0 rfl ?_
  refine x_iload_n dX5_decide_1 rfl ?_
  refine c_VR dX5_decide_2 kX5_whyNotDecide iX5_whyNotDecide q851 (t_whyNotDecide _ hM.z hC _) hM.z.ob rfl rfl rfl (Nat.le_of_ble_eq_true rfl) ⟨Nat.le_refl _, Nat.le_refl _⟩ ?_
  refine e_ist_n (lv' := fun w9 => [.ref m, .int x, .int w9]) dX5_decide_5 (Nat.le_of_ble_eq_true rfl) rfl (fun _ => rfl) (fun v1 ev1 => ?_)
  have ev1 : wDecide ζ x = v1 := (ev1.trans rfl).symm
  subst ev1
  refine x_iload_n dX5_decide_6 rfl ?_
  refine x_if_ge (tgt := 12) dX5_decide_7 (by decide) (fun c7 => ?_) (fun c7 => ?_)
  · have hng : ¬ wDecide ζ x < 0 := Int32.not_lt.mpr c7
    obtain ⟨j, hj, ej⟩ := wDecide_ok hC hng
    have hj12 := hL.2
    have hj30 := hC.2
    subst ej
    have hcl := nI_cl (j := j) (by omega)
    refine x_aload_n dX5_decide_12 rfl ?_
    refine c_VMMn dX5_decide_13 kX5_record iX5_record q738 (t_record _ hM) hM.ob rfl rfl rfl (Nat.le_of_ble_eq_true rfl) ⟨Nat.le_refl _, Nat.le_refl _⟩ (fun h2 hM2 hG2 => ?_)
    refine x_aload_n dX5_decide_16 rfl ?_
    refine x_iload_n dX5_decide_17 rfl ?_
    refine c_VZ dX5_decide_18 kX5_decideNow iX5_decideNow q855 (t_decideNow _ hM2.z (j := j) (by omega)) hM2.z.ob rfl rfl rfl (Nat.le_of_ble_eq_true rfl) ⟨Nat.le_refl _, Nat.le_refl _⟩ (fun h3 hO3 hF3 => ?_)
    have hM3 := hM2.setZ hO3 hF3
    have hG3 : Fr m 8 _ h3 := hF3.wide (by omega) (by omega)
    refine x_iret dX5_decide_21 (Or.inl rfl) rfl (Nat.le_refl _) ?_
    simp only [if_neg hng, hcl]
    exact ⟨rfl, _, rfl, hM3, (hG2.tr hG3)⟩
  · refine x_iload_n dX5_decide_10 rfl ?_
    refine x_iret dX5_decide_11 (Or.inl rfl) rfl (Nat.le_refl _) ?_
    have hng : wDecide ζ x < 0 := Int32.not_le.mp c7
    simp only [if_pos hng]
    exact ⟨rfl, _, rfl, hM, Fr.rf⟩

set_option maxRecDepth 100000 in
set_option maxHeartbeats 4000000 in
theorem m_withdraw {st : Nat → Nat} (d : Nat) {z : Nat} {h : Nat → Option va_E} {m : Nat} {ζ : Sg} {n : Nat} {G S : Nat → Sg} {sv tx : Nat → Int32} {ty sp : Int32} {tl : Nat → Int32} {tm : Int32} (hM : MAt h m ζ n n G S sv tx ty sp tl tm) (hL : LOk ζ) (hC : COk ζ) (x : Int32) : CT st (d + 6) yX5_withdraw cX5_withdraw 3 (some .int) [.ref m, .int x] (z, h) 0 0 (MMO (some (.int (if wWithdraw ζ x < 0 then wWithdraw ζ x else mSize (cStandTo (up2 ζ 9 x.toNatClampNeg 3) (ζ 6 x.toNatClampNeg))))) z m h (if wWithdraw ζ x < 0 then ζ else up2 ζ 9 x.toNatClampNeg 3) (if wWithdraw ζ x < 0 then n else rcN n) (if wWithdraw ζ x < 0 then n else rcN n) (if wWithdraw ζ x < 0 then G else rcG G n ζ) (S) (sv) (tx) (ty) (sp) (tl) (tm)) := by
  refine CT.of (lv := [.ref m, .int x, .null]) (by decide) (Nat.le_of_ble_eq_true rfl) rfl rfl ?_
  refine x_aload_n dX5_withdraw_0 rfl ?_
  refine x_iload_n dX5_withdraw_1 rfl ?_
  refine c_VR dX5_withdraw_2 kX5_whyNotWithdraw iX5_whyNotWithdraw q863 (t_whyNotWithdraw _ hM.z hC _) hM.z.ob rfl rfl rfl (Nat.le_of_ble_eq_true rfl) ⟨Nat.le_refl _, Nat.le_refl _⟩ ?_
  refine e_ist_n (lv' := fun w9 => [.ref m, .int x, .int w9]) dX5_withdraw_5 (Nat.le_of_ble_eq_true rfl) rfl (fun _ => rfl) (fun v1 ev1 => ?_)
  have ev1 : wWithdraw ζ x = v1 := (ev1.trans rfl).symm
  subst ev1
  refine x_iload_n dX5_withdraw_6 rfl ?_
  refine x_if_ge (tgt := 12) dX5_withdraw_7 (by decide) (fun c7 => ?_) (fun c7 => ?_)
  · have hng : ¬ wWithdraw ζ x < 0 := Int32.not_lt.mpr c7
    obtain ⟨j, hj, ej⟩ := wWithdraw_ok hC hng
    have hj12 := hL.2
    have hj30 := hC.2
    subst ej
    have hcl := nI_cl (j := j) (by omega)
    refine x_aload_n dX5_withdraw_12 rfl ?_
    refine c_VMMn dX5_withdraw_13 kX5_record iX5_record q738 (t_record _ hM) hM.ob rfl rfl rfl (Nat.le_of_ble_eq_true rfl) ⟨Nat.le_refl _, Nat.le_refl _⟩ (fun h2 hM2 hG2 => ?_)
    refine x_aload_n dX5_withdraw_16 rfl ?_
    refine x_iload_n dX5_withdraw_17 rfl ?_
    refine c_VZ dX5_withdraw_18 kX5_withdrawNow iX5_withdrawNow q867 (t_withdrawNow _ hM2.z hC (j := j) (by omega)) hM2.z.ob rfl rfl rfl (Nat.le_of_ble_eq_true rfl) ⟨Nat.le_refl _, Nat.le_refl _⟩ (fun h3 hO3 hF3 => ?_)
    have hM3 := hM2.setZ hO3 hF3
    have hG3 : Fr m 8 _ h3 := hF3.wide (by omega) (by omega)
    refine x_iret dX5_withdraw_21 (Or.inl rfl) rfl (Nat.le_refl _) ?_
    simp only [if_neg hng, hcl]
    exact ⟨rfl, _, rfl, hM3, (hG2.tr hG3)⟩
  · refine x_iload_n dX5_withdraw_10 rfl ?_
    refine x_iret dX5_withdraw_11 (Or.inl rfl) rfl (Nat.le_refl _) ?_
    have hng : wWithdraw ζ x < 0 := Int32.not_le.mp c7
    simp only [if_pos hng]
    exact ⟨rfl, _, rfl, hM, Fr.rf⟩

set_option maxRecDepth 100000 in
set_option maxHeartbeats 4000000 in
theorem m_settle {st : Nat → Nat} (d : Nat) {z : Nat} {h : Nat → Option va_E} {m : Nat} {ζ : Sg} {n : Nat} {G S : Nat → Sg} {sv tx : Nat → Int32} {ty sp : Int32} {tl : Nat → Int32} {tm : Int32} (hM : MAt h m ζ n n G S sv tx ty sp tl tm) (hL : LOk ζ) (hC : COk ζ) (hH : WH ζ) (hWP : WP ζ) (x : Int32) : CT st (d + 6) yX5_settle cX5_settle 3 (some .int) [.ref m, .int x] (z, h) 0 0 (MMO (some (.int (if wSettle ζ x < 0 then wSettle ζ x else mSize (mNear ζ (cUpTo ζ x))))) z m h (if wSettle ζ x < 0 then ζ else mSettle ζ x.toNatClampNeg) (if wSettle ζ x < 0 then n else rcN n) (if wSettle ζ x < 0 then n else rcN n) (if wSettle ζ x < 0 then G else rcG G n ζ) (S) (sv) (tx) (ty) (sp) (tl) (tm)) := by
  refine CT.of (lv := [.ref m, .int x, .null]) (by decide) (Nat.le_of_ble_eq_true rfl) rfl rfl ?_
  refine x_aload_n dX5_settle_0 rfl ?_
  refine x_iload_n dX5_settle_1 rfl ?_
  refine c_VR dX5_settle_2 kX5_whyNotSettle iX5_whyNotSettle q883 (t_whyNotSettle _ hM.z hL hC _) hM.z.ob rfl rfl rfl (Nat.le_of_ble_eq_true rfl) ⟨Nat.le_refl _, Nat.le_refl _⟩ ?_
  refine e_ist_n (lv' := fun w9 => [.ref m, .int x, .int w9]) dX5_settle_5 (Nat.le_of_ble_eq_true rfl) rfl (fun _ => rfl) (fun v1 ev1 => ?_)
  have ev1 : wSettle ζ x = v1 := (ev1.trans rfl).symm
  subst ev1
  refine x_iload_n dX5_settle_6 rfl ?_
  refine x_if_ge (tgt := 12) dX5_settle_7 (by decide) (fun c7 => ?_) (fun c7 => ?_)
  · have hng : ¬ wSettle ζ x < 0 := Int32.not_lt.mpr c7
    obtain ⟨j, hj, ej⟩ := wSettle_ok hL hng
    have hj12 := hL.2
    have hj30 := hC.2
    subst ej
    have hcl := nI_cl (j := j) (by omega)
    refine x_aload_n dX5_settle_12 rfl ?_
    refine c_VMMn dX5_settle_13 kX5_record iX5_record q738 (t_record _ hM) hM.ob rfl rfl rfl (Nat.le_of_ble_eq_true rfl) ⟨Nat.le_refl _, Nat.le_refl _⟩ (fun h2 hM2 hG2 => ?_)
    refine x_aload_n dX5_settle_16 rfl ?_
    refine x_iload_n dX5_settle_17 rfl ?_
    refine c_VZ dX5_settle_18 kX5_settleNow iX5_settleNow q887 (t_settleNow _ hM2.z hC hH hWP (j := j) (by omega)) hM2.z.ob rfl rfl rfl (Nat.le_of_ble_eq_true rfl) ⟨Nat.le_refl _, Nat.le_refl _⟩ (fun h3 hO3 hF3 => ?_)
    have hM3 := hM2.setZ hO3 hF3
    have hG3 : Fr m 8 _ h3 := hF3.wide (by omega) (by omega)
    refine x_iret dX5_settle_21 (Or.inl rfl) rfl (Nat.le_refl _) ?_
    simp only [if_neg hng, hcl]
    exact ⟨rfl, _, rfl, hM3, (hG2.tr hG3)⟩
  · refine x_iload_n dX5_settle_10 rfl ?_
    refine x_iret dX5_settle_11 (Or.inl rfl) rfl (Nat.le_refl _) ?_
    have hng : wSettle ζ x < 0 := Int32.not_le.mp c7
    simp only [if_pos hng]
    exact ⟨rfl, _, rfl, hM, Fr.rf⟩

set_option maxRecDepth 100000 in
set_option maxHeartbeats 4000000 in
theorem m_pass {st : Nat → Nat} (d : Nat) {z : Nat} {h : Nat → Option va_E} {m : Nat} {ζ : Sg} {n : Nat} {G S : Nat → Sg} {sv tx : Nat → Int32} {ty sp : Int32} {tl : Nat → Int32} {tm : Int32} (hM : MAt h m ζ n n G S sv tx ty sp tl tm) (hL : LOk ζ) (hC : COk ζ) (x : Int32) : CT st (d + 8) yX5_pass cX5_pass 3 (some .int) [.ref m, .int x] (z, h) 0 0 (MMO (some (.int (if wPass ζ x < 0 then wPass ζ x else (lp mPassF 0 x.toNatClampNeg (ζ, 0)).2))) z m h (if wPass ζ x < 0 then ζ else (lp mPassF 0 x.toNatClampNeg (ζ, 0)).1) (if wPass ζ x < 0 then n else rcN n) (if wPass ζ x < 0 then n else rcN n) (if wPass ζ x < 0 then G else rcG G n ζ) (S) (sv) (tx) (ty) (sp) (tl) (tm)) := by
  refine CT.of (lv := [.ref m, .int x, .null]) (by decide) (Nat.le_of_ble_eq_true rfl) rfl rfl ?_
  refine x_aload_n dX5_pass_0 rfl ?_
  refine x_iload_n dX5_pass_1 rfl ?_
  refine c_VR dX5_pass_2 kX5_whyNotPass iX5_whyNotPass q918 (t_whyNotPass _ hM.z _) hM.z.ob rfl rfl rfl (Nat.le_of_ble_eq_true rfl) ⟨Nat.le_refl _, Nat.le_refl _⟩ ?_
  refine e_ist_n (lv' := fun w9 => [.ref m, .int x, .int w9]) dX5_pass_5 (Nat.le_of_ble_eq_true rfl) rfl (fun _ => rfl) (fun v1 ev1 => ?_)
  have ev1 : wPass ζ x = v1 := (ev1.trans rfl).symm
  subst ev1
  refine x_iload_n dX5_pass_6 rfl ?_
  refine x_if_ge (tgt := 12) dX5_pass_7 (by decide) (fun c7 => ?_) (fun c7 => ?_)
  · have hng : ¬ wPass ζ x < 0 := Int32.not_lt.mpr c7
    obtain ⟨j, hj, ej⟩ := wPass_ok2 hng
    have hj12 := hL.2
    have hj30 := hC.2
    subst ej
    have hcl := nI_cl (j := j) (by omega)
    refine x_aload_n dX5_pass_12 rfl ?_
    refine c_VMMn dX5_pass_13 kX5_record iX5_record q738 (t_record _ hM) hM.ob rfl rfl rfl (Nat.le_of_ble_eq_true rfl) ⟨Nat.le_refl _, Nat.le_refl _⟩ (fun h2 hM2 hG2 => ?_)
    refine x_aload_n dX5_pass_16 rfl ?_
    refine x_iload_n dX5_pass_17 rfl ?_
    refine c_VZ dX5_pass_18 kX5_passNow iX5_passNow q922 (t_passNow _ hM2.z hL hC (N := j) (by omega)) hM2.z.ob rfl rfl rfl (Nat.le_of_ble_eq_true rfl) ⟨Nat.le_refl _, Nat.le_refl _⟩ (fun h3 hO3 hF3 => ?_)
    have hM3 := hM2.setZ hO3 hF3
    have hG3 : Fr m 8 _ h3 := hF3.wide (by omega) (by omega)
    refine x_iret dX5_pass_21 (Or.inl rfl) rfl (Nat.le_refl _) ?_
    simp only [if_neg hng, hcl]
    exact ⟨rfl, _, rfl, hM3, (hG2.tr hG3)⟩
  · refine x_iload_n dX5_pass_10 rfl ?_
    refine x_iret dX5_pass_11 (Or.inl rfl) rfl (Nat.le_refl _) ?_
    have hng : wPass ζ x < 0 := Int32.not_le.mp c7
    simp only [if_pos hng]
    exact ⟨rfl, _, rfl, hM, Fr.rf⟩

set_option maxRecDepth 100000 in
set_option maxHeartbeats 4000000 in
theorem m_set {st : Nat → Nat} (d : Nat) {z : Nat} {h : Nat → Option va_E} {m : Nat} {ζ : Sg} {n : Nat} {G S : Nat → Sg} {sv tx : Nat → Int32} {ty sp : Int32} {tl : Nat → Int32} {tm : Int32} (hM : MAt h m ζ n n G S sv tx ty sp tl tm) (s v : Int32) : CT st (d + 3) yX5_set cX5_set 4 (some .int) [.ref m, .int s, .int v] (z, h) 0 0 (MMO (some (.int (if mVal s v = true then ζ 0 s.toNatClampNeg else -2))) z m h (if mVal s v = true then up2 ζ 0 s.toNatClampNeg v else ζ) (if mVal s v = true then rcN n else n) (if mVal s v = true then rcN n else n) (if mVal s v = true then rcG G n ζ else G) (S) (sv) (tx) (ty) (sp) (tl) (tm)) := by
  refine CT.of (lv := [.ref m, .int s, .int v, .null]) (by decide) (Nat.le_of_ble_eq_true rfl) rfl rfl ?_
  refine x_iload_n dX5_set_0 rfl ?_
  refine x_iload_n dX5_set_1 rfl ?_
  refine c_SR dX5_set_2 kX5_isValue q747 q746 (t_isValue _ _ _) rfl rfl (Nat.le_of_ble_eq_true rfl) ⟨Nat.le_refl _, Nat.le_refl _⟩ ?_
  refine x_if_ne (tgt := 11) dX5_set_5 (by decide) (fun c5 => ?_) (fun c5 => ?_)
  · have c5 := bI_ne c5
    obtain ⟨j, hj, rfl⟩ := mVal_ok c5
    have hcl := nI_cl (j := j) (by omega)
    refine x_aload_n dX5_set_11 rfl ?_
    refine c_VMMn dX5_set_12 kX5_record iX5_record q738 (t_record _ hM) hM.ob rfl rfl rfl (Nat.le_of_ble_eq_true rfl) ⟨Nat.le_refl _, Nat.le_refl _⟩ (fun h1 hM1 hG1 => ?_)
    refine x_aload_n dX5_set_15 rfl ?_
    refine x_get dX5_set_16 fX5_7 hM1.ob rfl ?_
    refine x_iload_n dX5_set_19 rfl ?_
    refine z_ald (0) (j) dX5_set_20 hM1.z (zAt_set hj) (ixN (b := j) (by omega)) ?_
    refine e_ist_n (lv' := fun w9 => [.ref m, .int (nI j), .int v, .int w9]) dX5_set_21 (Nat.le_of_ble_eq_true rfl) rfl (fun _ => rfl) (fun v2 ev2 => ?_)
    refine x_aload_n dX5_set_22 rfl ?_
    refine x_get dX5_set_23 fX5_7 hM1.ob rfl ?_
    refine x_iload_n dX5_set_26 rfl ?_
    refine x_iload_n dX5_set_27 rfl ?_
    refine z_ast (0) (j) dX5_set_28 hM1.z (zAt_set hj) (ixN (b := j) (by omega)) (fun h3 hO3 hF3 => ?_)
    have hM3 := hM1.setZ hO3 hF3
    have hG3 : Fr m 8 _ h3 := hF3.wide (by omega) (by omega)
    refine x_iload_n dX5_set_29 rfl ?_
    refine x_iret dX5_set_30 (Or.inl rfl) rfl (Nat.le_refl _) ?_
    simp only [if_pos c5, hcl]
    exact ⟨by subst_vars; rfl, _, rfl, hM3, (hG1.tr hG3)⟩
  · have c5 := bI_eq c5
    refine x_bipush (v := (-2)) dX5_set_8 rfl ?_
    refine x_iret dX5_set_10 (Or.inl rfl) rfl (Nat.le_refl _) ?_
    have c5 : ¬ mVal s v = true := by rw [c5]; decide
    simp only [if_neg c5]
    exact ⟨rfl, _, rfl, hM, Fr.rf⟩
