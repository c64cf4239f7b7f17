theorem oPaid_ex (σ : Sg) (x : Int32) : oPaid σ x = if sExists (σ 13 2) x = true then σ 12 x.toNatClampNeg else -1 := by
  unfold oPaid sExists
  by_cases h : x < 0
  · simp [h]
  · by_cases h2 : σ 13 2 ≤ x <;> simp [h, h2]
theorem mIn001 : mIn 0 0 1 = true := by decide
set_option maxRecDepth 100000 in
set_option maxHeartbeats 4000000 in
theorem m_of {st : Nat → Nat} (d : Nat) {z : Nat} {h : Nat → Option va_E} {m : Nat} {fs : List Value} {ζ : Sg} (H : ZAt h m fs ζ) (hL : LOk ζ) (hC : COk ζ) (hS : WS ζ) (x w : Int32) : CT st (d + 5) yX5_of cX5_of 3 (some .int) [.ref m, .int x, .int w] (z, h) 0 0 (RO (some (.int (oOf ζ x w))) (z, h)) := by
  refine CT.of (lv := [.ref m, .int x, .int w]) (by decide) (Nat.le_of_ble_eq_true rfl) rfl rfl ?_
  refine x_aload_n dX5_of_0 rfl ?_
  refine x_iload_n dX5_of_1 rfl ?_
  refine c_VR dX5_of_2 kX5_isLot iX5_isLot q773 (t_misLot _ H hL _) H.ob rfl rfl rfl (Nat.le_of_ble_eq_true rfl) ⟨Nat.le_refl _, Nat.le_refl _⟩ ?_
  refine x_if_ne (tgt := 10) dX5_of_5 (by decide) (fun c5 => ?_) (fun c5 => ?_)
  · have c5 := bI_ne c5
    obtain ⟨j, -, hj, rfl⟩ := ax_ix_of hL.1 hL.2 (Nat.le_of_ble_eq_true rfl) c5
    have hj12 := hL.2
    have hcl := nI_cl (j := j) (by omega)
    refine x_iload_n dX5_of_10 rfl ?_
    by_cases k11_0 : w = 0
    · subst k11_0
      refine x_tableIn (off := 41) (tgt := 52) dX5_of_11 (by decide) (by decide) rfl (by decide) ?_
      refine x_aload_n dX5_of_52 rfl ?_
      refine x_iload_n dX5_of_53 rfl ?_
      refine x_iload_n dX5_of_54 rfl ?_
      refine c_VR dX5_of_55 kX5_lotOf iX5_lotOf q777 (t_lotOf _ H (a := (nI j)) (j := j) (b := 0) (w := 0) (1) rfl (by omega) rfl (by decide) rfl) H.ob rfl rfl rfl (Nat.le_of_ble_eq_true rfl) ⟨Nat.le_refl _, Nat.le_refl _⟩ ?_
      refine x_iret dX5_of_58 (Or.inl rfl) rfl (Nat.le_refl _) ?_
      exact RO.mk (by simp [oOf, cUpTo, mAllTo_eq hC hS, *])
    by_cases k11_1 : w = 1
    · subst k11_1
      refine x_tableIn (off := 41) (tgt := 52) dX5_of_11 (by decide) (by decide) rfl (by decide) ?_
      refine x_aload_n dX5_of_52 rfl ?_
      refine x_iload_n dX5_of_53 rfl ?_
      refine x_iload_n dX5_of_54 rfl ?_
      refine c_VR dX5_of_55 kX5_lotOf iX5_lotOf q777 (t_lotOf _ H (a := (nI j)) (j := j) (b := 1) (w := 1) (2) rfl (by omega) rfl (by decide) rfl) H.ob rfl rfl rfl (Nat.le_of_ble_eq_true rfl) ⟨Nat.le_refl _, Nat.le_refl _⟩ ?_
      refine x_iret dX5_of_58 (Or.inl rfl) rfl (Nat.le_refl _) ?_
      exact RO.mk (by simp [oOf, cUpTo, mAllTo_eq hC hS, *])
    by_cases k11_2 : w = 2
    · subst k11_2
      refine x_tableIn (off := 41) (tgt := 52) dX5_of_11 (by decide) (by decide) rfl (by decide) ?_
      refine x_aload_n dX5_of_52 rfl ?_
      refine x_iload_n dX5_of_53 rfl ?_
      refine x_iload_n dX5_of_54 rfl ?_
      refine c_VR dX5_of_55 kX5_lotOf iX5_lotOf q777 (t_lotOf _ H (a := (nI j)) (j := j) (b := 2) (w := 2) (3) rfl (by omega) rfl (by decide) rfl) H.ob rfl rfl rfl (Nat.le_of_ble_eq_true rfl) ⟨Nat.le_refl _, Nat.le_refl _⟩ ?_
      refine x_iret dX5_of_58 (Or.inl rfl) rfl (Nat.le_refl _) ?_
      exact RO.mk (by simp [oOf, cUpTo, mAllTo_eq hC hS, *])
    by_cases k11_3 : w = 3
    · subst k11_3
      refine x_tableIn (off := 41) (tgt := 52) dX5_of_11 (by decide) (by decide) rfl (by decide) ?_
      refine x_aload_n dX5_of_52 rfl ?_
      refine x_iload_n dX5_of_53 rfl ?_
      refine x_iload_n dX5_of_54 rfl ?_
      refine c_VR dX5_of_55 kX5_lotOf iX5_lotOf q777 (t_lotOf _ H (a := (nI j)) (j := j) (b := 3) (w := 3) (4) rfl (by omega) rfl (by decide) rfl) H.ob rfl rfl rfl (Nat.le_of_ble_eq_true rfl) ⟨Nat.le_refl _, Nat.le_refl _⟩ ?_
      refine x_iret dX5_of_58 (Or.inl rfl) rfl (Nat.le_refl _) ?_
      exact RO.mk (by simp [oOf, cUpTo, mAllTo_eq hC hS, *])
    by_cases k11_4 : w = 4
    · subst k11_4
      refine x_tableIn (off := 48) (tgt := 59) dX5_of_11 (by decide) (by decide) rfl (by decide) ?_
      refine x_aload_n dX5_of_59 rfl ?_
      refine x_iload_n dX5_of_60 rfl ?_
      refine c_VR dX5_of_61 kX5_standing iX5_standing q871 (t_mstanding _ H hC _) H.ob rfl rfl rfl (Nat.le_of_ble_eq_true rfl) ⟨Nat.le_refl _, Nat.le_refl _⟩ ?_
      refine x_iret dX5_of_64 (Or.inl rfl) rfl (Nat.le_refl _) ?_
      exact RO.mk (by simp [oOf, cUpTo, mAllTo_eq hC hS, *])
    by_cases k11_5 : w = 5
    · subst k11_5
      refine x_tableIn (off := 54) (tgt := 65) dX5_of_11 (by decide) (by decide) rfl (by decide) ?_
      refine x_aload_n dX5_of_65 rfl ?_
      refine x_iload_n dX5_of_66 rfl ?_
      refine c_VR dX5_of_67 kX5_allClaimsTo iX5_allClaimsTo q938 (t_allClaimsTo _ H hC _) H.ob rfl rfl rfl (Nat.le_of_ble_eq_true rfl) ⟨Nat.le_refl _, Nat.le_refl _⟩ ?_
      refine x_iret dX5_of_70 (Or.inl rfl) rfl (Nat.le_refl _) ?_
      exact RO.mk (by simp [oOf, cUpTo, mAllTo_eq hC hS, *])
    by_cases k11_6 : w = 6
    · subst k11_6
      refine x_tableIn (off := 60) (tgt := 71) dX5_of_11 (by decide) (by decide) rfl (by decide) ?_
      refine x_aload_n dX5_of_71 rfl ?_
      refine x_aload_n dX5_of_72 rfl ?_
      refine x_iload_n dX5_of_73 rfl ?_
      refine x_iconst (v := 1) dX5_of_74 rfl ?_
      refine c_VR dX5_of_75 kX5_claimsTo iX5_claimsTo q875 (t_claimsTo _ H hC _ _) H.ob rfl rfl rfl (Nat.le_of_ble_eq_true rfl) ⟨Nat.le_refl _, Nat.le_refl _⟩ ?_
      refine c_VR dX5_of_78 kX5_nearest iX5_nearest q895 (t_mnearest _ H hC _) H.ob rfl rfl rfl (Nat.le_of_ble_eq_true rfl) ⟨Nat.le_refl _, Nat.le_refl _⟩ ?_
      refine x_iret dX5_of_81 (Or.inl rfl) rfl (Nat.le_refl _) ?_
      exact RO.mk (by simp [oOf, cUpTo, mAllTo_eq hC hS, *])
    refine x_tableOut (tgt := 82) dX5_of_11 (sw_out fun n h1 h2 => by rcases (show n = 0 ∨ n = 1 ∨ n = 2 ∨ n = 3 ∨ n = 4 ∨ n = 5 ∨ n = 6 by omega) with rfl | rfl | rfl | rfl | rfl | rfl | rfl; exact k11_0; exact k11_1; exact k11_2; exact k11_3; exact k11_4; exact k11_5; exact k11_6) (by decide) ?_
    refine x_bipush (v := (-2)) dX5_of_82 rfl ?_
    refine x_iret dX5_of_84 (Or.inl rfl) rfl (Nat.le_refl _) ?_
    exact RO.mk (by simp [oOf, cUpTo, mAllTo_eq hC hS, *])
  · have c5 := bI_eq c5
    refine x_iconst (v := (-1)) dX5_of_8 rfl ?_
    refine x_iret dX5_of_9 (Or.inl rfl) rfl (Nat.le_refl _) ?_
    exact RO.mk (by simp [oOf, cUpTo, mAllTo_eq hC hS, *])

set_option maxRecDepth 100000 in
set_option maxHeartbeats 4000000 in
theorem m_ofClaim {st : Nat → Nat} (d : Nat) {z : Nat} {h : Nat → Option va_E} {m : Nat} {fs : List Value} {ζ : Sg} (H : ZAt h m fs ζ) (hC : COk ζ) (x w : Int32) : CT st (d + 3) yX5_ofClaim cX5_ofClaim 3 (some .int) [.ref m, .int x, .int w] (z, h) 0 0 (RO (some (.int (oOfClaim ζ x w))) (z, h)) := by
  refine CT.of (lv := [.ref m, .int x, .int w]) (by decide) (Nat.le_of_ble_eq_true rfl) rfl rfl ?_
  refine x_aload_n dX5_ofClaim_0 rfl ?_
  refine x_iload_n dX5_ofClaim_1 rfl ?_
  refine c_VR dX5_ofClaim_2 kX5_isClaim iX5_isClaim q835 (t_misClaim _ H hC _) H.ob rfl rfl rfl (Nat.le_of_ble_eq_true rfl) ⟨Nat.le_refl _, Nat.le_refl _⟩ ?_
  refine x_if_ne (tgt := 10) dX5_ofClaim_5 (by decide) (fun c5 => ?_) (fun c5 => ?_)
  · have c5 := bI_ne c5
    obtain ⟨j, -, hj, rfl⟩ := ax_ix_of hC.1 hC.2 (Nat.le_of_ble_eq_true rfl) c5
    have hj30 := hC.2
    have hcl := nI_cl (j := j) (by omega)
    refine x_iload_n dX5_ofClaim_10 rfl ?_
    refine x_iconst (v := 0) dX5_ofClaim_11 rfl ?_
    refine x_bipush (v := 6) dX5_ofClaim_12 rfl ?_
    refine c_SR dX5_ofClaim_14 kX5_in q732 q731 (t_in _ _ _ _) rfl rfl (Nat.le_of_ble_eq_true rfl) ⟨Nat.le_refl _, Nat.le_refl _⟩ ?_
    refine x_if_eq (tgt := 29) dX5_ofClaim_17 (by decide) (fun c17 => ?_) (fun c17 => ?_)
    · have c17 := bI_eq c17
      refine x_bipush (v := (-2)) dX5_ofClaim_29 rfl ?_
      refine x_iret dX5_ofClaim_31 (Or.inl rfl) rfl (Nat.le_refl _) ?_
      exact RO.mk (oOfClaim_o c5 c17).symm
    · have c17 := bI_ne c17
      obtain ⟨w1, -, hw1, rfl⟩ := mIn_of (a := 0) (b := 6) (by decide) c17 (by decide)
      refine x_aload_n dX5_ofClaim_20 rfl ?_
      refine x_iload_n dX5_ofClaim_21 rfl ?_
      refine x_iload_n dX5_ofClaim_22 rfl ?_
      refine c_VR dX5_ofClaim_23 kX5_claimOf iX5_claimOf q811 (t_claimOf _ H (a := nI j) (j := j) (b := nI w1) (w := w1) (5 + w1) rfl (by omega) rfl (by omega) rfl) H.ob rfl rfl rfl (Nat.le_of_ble_eq_true rfl) ⟨Nat.le_refl _, Nat.le_refl _⟩ ?_
      refine x_goto (tgt := 31) dX5_ofClaim_26 (by decide) ?_
      refine x_iret dX5_ofClaim_31 (Or.inl rfl) rfl (Nat.le_refl _) ?_
      exact RO.mk (oOfClaim_n (by omega) (by omega) c5).symm
  · have c5 := bI_eq c5
    refine x_iconst (v := (-1)) dX5_ofClaim_8 rfl ?_
    refine x_iret dX5_ofClaim_9 (Or.inl rfl) rfl (Nat.le_refl _) ?_
    exact RO.mk (by unfold oOfClaim; rw [if_neg (by rw [c5]; decide)])

set_option maxRecDepth 100000 in
set_option maxHeartbeats 4000000 in
theorem m_heir {st : Nat → Nat} (d : Nat) {z : Nat} {h : Nat → Option va_E} {m : Nat} {fs : List Value} {ζ : Sg} (H : ZAt h m fs ζ) (hC : COk ζ) (hB : WB ζ) (h14 : W14 ζ) (x w : Int32) : CT st (d + 4) yX5_heir cX5_heir 3 (some .int) [.ref m, .int x, .int w] (z, h) 0 0 (RO (some (.int (oHeir ζ x w))) (z, h)) := by
  refine CT.of (lv := [.ref m, .int x, .int w]) (by decide) (Nat.le_of_ble_eq_true rfl) rfl rfl ?_
  refine x_iload_n dX5_heir_0 rfl ?_
  refine c_SR dX5_heir_1 kX5_isHeir q801 q800 (t_misHeir _ _) rfl rfl (Nat.le_of_ble_eq_true rfl) ⟨Nat.le_refl _, Nat.le_refl _⟩ ?_
  refine x_if_ne (tgt := 9) dX5_heir_4 (by decide) (fun c4 => ?_) (fun c4 => ?_)
  · have c4 := bI_ne c4
    obtain ⟨g, hg, rfl⟩ := sHeir_of c4
    have hcl := nI_cl (j := g) (by omega)
    have h14g := h14 g hg
    refine x_iload_n dX5_heir_9 rfl ?_
    by_cases k10_0 : w = 0
    · subst k10_0
      refine x_tableIn (off := 30) (tgt := 40) dX5_heir_10 (by decide) (by decide) rfl (by decide) ?_
      refine x_aload_n dX5_heir_40 rfl ?_
      refine x_get dX5_heir_41 fX5_7 H.ob rfl ?_
      refine x_sipush (v := 268) dX5_heir_44 rfl ?_
      refine x_iload_n dX5_heir_47 rfl ?_
      refine x_iadd dX5_heir_48 ?_
      refine z_ald (14) (g) dX5_heir_49 H (zAt_pu hg) (ix_eq (b := 268 + g) (by rw [show (268 : Int32) = nI 268 from rfl, nI_add]) (by omega)) ?_
      refine x_iret dX5_heir_50 (Or.inl rfl) rfl (Nat.le_refl _) ?_
      exact RO.mk (by simp [oHeir, mCof_f, mCof_t hC, mGot_eq hC hB, *])
    by_cases k10_1 : w = 1
    · subst k10_1
      refine x_tableIn (off := 41) (tgt := 51) dX5_heir_10 (by decide) (by decide) rfl (by decide) ?_
      refine x_aload_n dX5_heir_51 rfl ?_
      refine x_iload_n dX5_heir_52 rfl ?_
      refine x_iload_n dX5_heir_53 rfl ?_
      refine x_iconst (v := 2) dX5_heir_54 rfl ?_
      refine x_icmp_ne (tgt := 62) dX5_heir_55 (by decide) (fun _ => ?_) (fun c55 => absurd c55 (by decide))
      refine x_iconst (v := 0) dX5_heir_62 rfl ?_
      refine c_VR dX5_heir_63 kX5_claimsOf iX5_claimsOf q950 (t_claimsOf _ H hC _ false) H.ob rfl rfl rfl (Nat.le_of_ble_eq_true rfl) ⟨Nat.le_refl _, Nat.le_refl _⟩ ?_
      refine x_iret dX5_heir_66 (Or.inl rfl) rfl (Nat.le_refl _) ?_
      exact RO.mk (by simp [oHeir, mCof_f, mCof_t hC, mGot_eq hC hB, *])
    by_cases k10_2 : w = 2
    · subst k10_2
      refine x_tableIn (off := 41) (tgt := 51) dX5_heir_10 (by decide) (by decide) rfl (by decide) ?_
      refine x_aload_n dX5_heir_51 rfl ?_
      refine x_iload_n dX5_heir_52 rfl ?_
      refine x_iload_n dX5_heir_53 rfl ?_
      refine x_iconst (v := 2) dX5_heir_54 rfl ?_
      refine x_icmp_ne (tgt := 62) dX5_heir_55 (by decide) (fun c55 => absurd c55 (by decide)) (fun _ => ?_)
      refine x_iconst (v := 1) dX5_heir_58 rfl ?_
      refine x_goto (tgt := 63) dX5_heir_59 (by decide) ?_
      refine c_VR dX5_heir_63 kX5_claimsOf iX5_claimsOf q950 (t_claimsOf _ H hC _ true) H.ob rfl rfl rfl (Nat.le_of_ble_eq_true rfl) ⟨Nat.le_refl _, Nat.le_refl _⟩ ?_
      refine x_iret dX5_heir_66 (Or.inl rfl) rfl (Nat.le_refl _) ?_
      exact RO.mk (by simp [oHeir, mCof_f, mCof_t hC, mGot_eq hC hB, *])
    by_cases k10_3 : w = 3
    · subst k10_3
      refine x_tableIn (off := 57) (tgt := 67) dX5_heir_10 (by decide) (by decide) rfl (by decide) ?_
      refine x_aload_n dX5_heir_67 rfl ?_
      refine x_iload_n dX5_heir_68 rfl ?_
      refine c_VR dX5_heir_69 kX5_lotsGot iX5_lotsGot q954 (t_lotsGot _ H hC _) H.ob rfl rfl rfl (Nat.le_of_ble_eq_true rfl) ⟨Nat.le_refl _, Nat.le_refl _⟩ ?_
      refine x_iret dX5_heir_72 (Or.inl rfl) rfl (Nat.le_refl _) ?_
      exact RO.mk (by simp [oHeir, mCof_f, mCof_t hC, mGot_eq hC hB, *])
    refine x_tableOut (tgt := 73) dX5_heir_10 (sw_out fun n h1 h2 => by rcases (show n = 0 ∨ n = 1 ∨ n = 2 ∨ n = 3 by omega) with rfl | rfl | rfl | rfl; exact k10_0; exact k10_1; exact k10_2; exact k10_3) (by decide) ?_
    refine x_bipush (v := (-2)) dX5_heir_73 rfl ?_
    refine x_iret dX5_heir_75 (Or.inl rfl) rfl (Nat.le_refl _) ?_
    exact RO.mk (by simp [oHeir, mCof_f, mCof_t hC, mGot_eq hC hB, *])
  · have c4 := bI_eq c4
    refine x_iconst (v := (-1)) dX5_heir_7 rfl ?_
    refine x_iret dX5_heir_8 (Or.inl rfl) rfl (Nat.le_refl _) ?_
    exact RO.mk (by simp [oHeir, mCof_f, mCof_t hC, mGot_eq hC hB, *])

set_option maxRecDepth 100000 in
set_option maxHeartbeats 4000000 in
theorem m_paid {st : Nat → Nat} (d : Nat) {z : Nat} {h : Nat → Option va_E} {m : Nat} {fs : List Value} {ζ : Sg} (H : ZAt h m fs ζ) (hP : POk ζ) (x : Int32) : CT st (d + 2) yX5_paid cX5_paid 2 (some .int) [.ref m, .int x] (z, h) 0 0 (RO (some (.int (oPaid ζ x))) (z, h)) := by
  refine CT.of (lv := [.ref m, .int x]) (by decide) (Nat.le_of_ble_eq_true rfl) rfl rfl ?_
  refine x_iload_n dX5_paid_0 rfl ?_
  refine x_iconst (v := 0) dX5_paid_1 rfl ?_
  refine x_aload_n dX5_paid_2 rfl ?_
  refine x_get dX5_paid_3 fX5_7 H.ob rfl ?_
  refine x_bipush (v := 9) dX5_paid_6 rfl ?_
  refine z_ald (13) (2) dX5_paid_8 H (show zAt 13 2 9 from ⟨by decide, rfl⟩) (show ¬ (9 : Int32) < 0 ∧ Int32.toNatClampNeg 9 = 9 by decide) ?_
  refine x_iconst (v := 1) dX5_paid_9 rfl ?_
  refine x_isub dX5_paid_10 ?_
  refine c_SR dX5_paid_11 kX5_in q732 q731 (t_in _ _ _ _) rfl rfl (Nat.le_of_ble_eq_true rfl) ⟨Nat.le_refl _, Nat.le_refl _⟩ ?_
  refine x_if_eq (tgt := 30) dX5_paid_14 (by decide) (fun c14 => ?_) (fun c14 => ?_)
  · have c14 := bI_eq c14
    have c14 := (mIn_n hP.1 (Nat.le_trans hP.2 (by decide))).symm.trans c14
    refine x_iconst (v := (-1)) dX5_paid_30 rfl ?_
    refine x_iret dX5_paid_31 (Or.inl rfl) rfl (Nat.le_refl _) ?_
    exact RO.mk (by simp [oPaid_ex, *])
  · have c14 := bI_ne c14
    obtain ⟨j, -, hj, rfl⟩ := ax_ix_of hP.1 hP.2 (by decide) ((mIn_n hP.1 (Nat.le_trans hP.2 (by decide))).symm.trans c14)
    have c14 := (mIn_n hP.1 (Nat.le_trans hP.2 (by decide))).symm.trans c14
    have hP16 := hP.2
    have hcl := nI_cl (j := j) (by omega)
    refine x_aload_n dX5_paid_17 rfl ?_
    refine x_get dX5_paid_18 fX5_7 H.ob rfl ?_
    refine x_sipush (v := 284) dX5_paid_21 rfl ?_
    refine x_iload_n dX5_paid_24 rfl ?_
    refine x_iadd dX5_paid_25 ?_
    refine z_ald (12) (j) dX5_paid_26 H (zAt_pd (by omega)) (ix_eq (b := 284 + j) (by rw [show (284 : Int32) = nI 284 from rfl, nI_add]) (by omega)) ?_
    refine x_goto (tgt := 31) dX5_paid_27 (by decide) ?_
    refine x_iret dX5_paid_31 (Or.inl rfl) rfl (Nat.le_refl _) ?_
    exact RO.mk (by simp [oPaid_ex, *])

set_option maxRecDepth 100000 in
set_option maxHeartbeats 4000000 in
theorem m_why {st : Nat → Nat} (d : Nat) {z : Nat} {h : Nat → Option va_E} {m : Nat} {fs : List Value} {ζ : Sg} (H : ZAt h m fs ζ) (hL : LOk ζ) (hC : COk ζ) (x : Int32) : CT st (d + 4) yX5_why cX5_why 2 (some .int) [.ref m, .int x] (z, h) 0 0 (RO (some (.int (oWhy ζ x))) (z, h)) := by
  refine CT.of (lv := [.ref m, .int x]) (by decide) (Nat.le_of_ble_eq_true rfl) rfl rfl ?_
  refine x_aload_n dX5_why_0 rfl ?_
  refine x_iload_n dX5_why_1 rfl ?_
  refine c_VR dX5_why_2 kX5_isLot iX5_isLot q773 (t_misLot _ H hL _) H.ob rfl rfl rfl (Nat.le_of_ble_eq_true rfl) ⟨Nat.le_refl _, Nat.le_refl _⟩ ?_
  refine x_if_ne (tgt := 10) dX5_why_5 (by decide) (fun c5 => ?_) (fun c5 => ?_)
  · have c5 := bI_ne c5
    obtain ⟨j, -, hj, rfl⟩ := ax_ix_of hL.1 hL.2 (Nat.le_of_ble_eq_true rfl) c5
    have hj12 := hL.2
    have hcl := nI_cl (j := j) (by omega)
    refine x_aload_n dX5_why_10 rfl ?_
    refine x_iload_n dX5_why_11 rfl ?_
    refine x_iconst (v := 1) dX5_why_12 rfl ?_
    refine c_VR dX5_why_13 kX5_lotOf iX5_lotOf q777 (t_lotOf _ H (a := (nI j)) (j := j) (b := 1) (w := 1) (2) rfl (by omega) rfl (by decide) rfl) H.ob rfl rfl rfl (Nat.le_of_ble_eq_true rfl) ⟨Nat.le_refl _, Nat.le_refl _⟩ ?_
    refine x_iconst (v := 1) dX5_why_16 rfl ?_
    refine x_icmp_eq (tgt := 24) dX5_why_17 (by decide) (fun c17 => ?_) (fun c17 => ?_)
    · refine x_aload_n dX5_why_24 rfl ?_
      refine x_iload_n dX5_why_25 rfl ?_
      refine x_iconst (v := 0) dX5_why_26 rfl ?_
      refine c_VR dX5_why_27 kX5_claimsTo iX5_claimsTo q875 (t_claimsTo _ H hC _ _) H.ob rfl rfl rfl (Nat.le_of_ble_eq_true rfl) ⟨Nat.le_refl _, Nat.le_refl _⟩ ?_
      refine x_if_eq (tgt := 37) dX5_why_30 (by decide) (fun c30 => ?_) (fun c30 => ?_)
      · refine x_aload_n dX5_why_37 rfl ?_
        refine x_iload_n dX5_why_38 rfl ?_
        refine x_iconst (v := 1) dX5_why_39 rfl ?_
        refine c_VR dX5_why_40 kX5_claimsTo iX5_claimsTo q875 (t_claimsTo _ H hC _ _) H.ob rfl rfl rfl (Nat.le_of_ble_eq_true rfl) ⟨Nat.le_refl _, Nat.le_refl _⟩ ?_
        refine x_if_eq (tgt := 50) dX5_why_43 (by decide) (fun c43 => ?_) (fun c43 => ?_)
        · refine x_iconst (v := 0) dX5_why_50 rfl ?_
          refine x_iret dX5_why_51 (Or.inl rfl) rfl (Nat.le_refl _) ?_
          exact RO.mk (by simp [oWhy, cOpenTo, cUpTo, *])
        · refine x_iconst (v := 3) dX5_why_46 rfl ?_
          refine x_goto (tgt := 51) dX5_why_47 (by decide) ?_
          refine x_iret dX5_why_51 (Or.inl rfl) rfl (Nat.le_refl _) ?_
          exact RO.mk (by simp [oWhy, cOpenTo, cUpTo, *])
      · refine x_iconst (v := 2) dX5_why_33 rfl ?_
        refine x_goto (tgt := 51) dX5_why_34 (by decide) ?_
        refine x_iret dX5_why_51 (Or.inl rfl) rfl (Nat.le_refl _) ?_
        exact RO.mk (by simp [oWhy, cOpenTo, cUpTo, *])
    · refine x_iconst (v := 1) dX5_why_20 rfl ?_
      refine x_goto (tgt := 51) dX5_why_21 (by decide) ?_
      refine x_iret dX5_why_51 (Or.inl rfl) rfl (Nat.le_refl _) ?_
      exact RO.mk (by simp [oWhy, cOpenTo, cUpTo, *])
  · have c5 := bI_eq c5
    refine x_iconst (v := (-1)) dX5_why_8 rfl ?_
    refine x_iret dX5_why_9 (Or.inl rfl) rfl (Nat.le_refl _) ?_
    exact RO.mk (by simp [oWhy, cOpenTo, cUpTo, *])

set_option maxRecDepth 100000 in
set_option maxHeartbeats 4000000 in
theorem m_share0 {st : Nat → Nat} (d : Nat) {z : Nat} {h : Nat → Option va_E} {m : Nat} {fs : List Value} {ζ : Sg} (H : ZAt h m fs ζ) (hL : LOk ζ) (hC : COk ζ) (x y w : Int32) : CT st (d + 5) yX5_share cX5_share 4 (some .int) [.ref m, .int x, .int y, .int w] (z, h) 0 0 (RO (some (.int (mShr ζ x y w))) (z, h)) := by
  refine CT.of (lv := [.ref m, .int x, .int y, .int w]) (by decide) (Nat.le_of_ble_eq_true rfl) rfl rfl ?_
  refine x_aload_n dX5_share_0 rfl ?_
  refine x_iload_n dX5_share_1 rfl ?_
  refine c_VR dX5_share_2 kX5_isLot iX5_isLot q773 (t_misLot _ H hL _) H.ob rfl rfl rfl (Nat.le_of_ble_eq_true rfl) ⟨Nat.le_refl _, Nat.le_refl _⟩ ?_
  refine x_if_eq (tgt := 15) dX5_share_5 (by decide) (fun c5 => ?_) (fun c5 => ?_)
  · have c5 := bI_eq c5
    refine x_iconst (v := (-1)) dX5_share_15 rfl ?_
    refine x_iret dX5_share_16 (Or.inl rfl) rfl (Nat.le_refl _) ?_
    exact RO.mk (by simp [mShr, cUpTo, mIn001, *])
  · have c5 := bI_ne c5
    obtain ⟨j, -, hj, rfl⟩ := ax_ix_of hL.1 hL.2 (Nat.le_of_ble_eq_true rfl) c5
    have hj12 := hL.2
    have hcl := nI_cl (j := j) (by omega)
    refine x_iload_n dX5_share_8 rfl ?_
    refine c_SR dX5_share_9 kX5_isHeir q801 q800 (t_misHeir _ _) rfl rfl (Nat.le_of_ble_eq_true rfl) ⟨Nat.le_refl _, Nat.le_refl _⟩ ?_
    refine x_if_ne (tgt := 17) dX5_share_12 (by decide) (fun c12 => ?_) (fun c12 => ?_)
    · have c12 := bI_ne c12
      refine x_iload_n dX5_share_17 rfl ?_
      refine x_iconst (v := 0) dX5_share_18 rfl ?_
      refine x_iconst (v := 1) dX5_share_19 rfl ?_
      refine c_SR dX5_share_20 kX5_in q732 q731 (t_in _ _ _ _) rfl rfl (Nat.le_of_ble_eq_true rfl) ⟨Nat.le_refl _, Nat.le_refl _⟩ ?_
      refine x_if_ne (tgt := 29) dX5_share_23 (by decide) (fun c23 => ?_) (fun c23 => ?_)
      · have c23 := bI_ne c23
        refine x_aload_n dX5_share_29 rfl ?_
        refine x_iload_n dX5_share_30 rfl ?_
        refine c_VR dX5_share_31 kX5_isEnded iX5_isEnded q803 (t_misEnded _ H (j := j) (by omega)) H.ob rfl rfl rfl (Nat.le_of_ble_eq_true rfl) ⟨Nat.le_refl _, Nat.le_refl _⟩ ?_
        refine x_if_eq (tgt := 42) dX5_share_34 (by decide) (fun c34 => ?_) (fun c34 => ?_)
        · have c34 := bI_eq c34
          refine x_aload_n dX5_share_42 rfl ?_
          refine x_iload_n dX5_share_43 rfl ?_
          refine x_iload_n dX5_share_44 rfl ?_
          refine x_iload_n dX5_share_45 rfl ?_
          refine x_if_ne (tgt := 58) dX5_share_46 (by decide) (fun c46 => ?_) (fun c46 => ?_)
          · refine x_aload_n dX5_share_58 rfl ?_
            refine x_iload_n dX5_share_59 rfl ?_
            refine c_VR dX5_share_60 kX5_standing iX5_standing q871 (t_mstanding _ H hC _) H.ob rfl rfl rfl (Nat.le_of_ble_eq_true rfl) ⟨Nat.le_refl _, Nat.le_refl _⟩ ?_
            refine c_VR dX5_share_63 kX5_shareOf iX5_shareOf q998 (t_shareOf _ H hL hC (j := j) (by omega) _ _) H.ob rfl rfl rfl (Nat.le_of_ble_eq_true rfl) ⟨Nat.le_refl _, Nat.le_refl _⟩ ?_
            refine x_iret dX5_share_66 (Or.inl rfl) rfl (Nat.le_refl _) ?_
            exact RO.mk (by simp [mShr, cUpTo, mIn001, *])
          · refine x_aload_n dX5_share_49 rfl ?_
            refine x_iload_n dX5_share_50 rfl ?_
            refine x_iconst (v := 1) dX5_share_51 rfl ?_
            refine c_VR dX5_share_52 kX5_claimsTo iX5_claimsTo q875 (t_claimsTo _ H hC _ _) H.ob rfl rfl rfl (Nat.le_of_ble_eq_true rfl) ⟨Nat.le_refl _, Nat.le_refl _⟩ ?_
            refine x_goto (tgt := 63) dX5_share_55 (by decide) ?_
            refine c_VR dX5_share_63 kX5_shareOf iX5_shareOf q998 (t_shareOf _ H hL hC (j := j) (by omega) _ _) H.ob rfl rfl rfl (Nat.le_of_ble_eq_true rfl) ⟨Nat.le_refl _, Nat.le_refl _⟩ ?_
            refine x_iret dX5_share_66 (Or.inl rfl) rfl (Nat.le_refl _) ?_
            exact RO.mk (by simp [mShr, cUpTo, mIn001, *])
        · have c34 := bI_ne c34
          refine x_bipush (v := (-5)) dX5_share_37 rfl ?_
          refine x_goto (tgt := 66) dX5_share_39 (by decide) ?_
          refine x_iret dX5_share_66 (Or.inl rfl) rfl (Nat.le_refl _) ?_
          exact RO.mk (by simp [mShr, cUpTo, mIn001, *])
      · have c23 := bI_eq c23
        refine x_bipush (v := (-2)) dX5_share_26 rfl ?_
        refine x_iret dX5_share_28 (Or.inl rfl) rfl (Nat.le_refl _) ?_
        exact RO.mk (by simp [mShr, cUpTo, mIn001, *])
    · have c12 := bI_eq c12
      refine x_iconst (v := (-1)) dX5_share_15 rfl ?_
      refine x_iret dX5_share_16 (Or.inl rfl) rfl (Nat.le_refl _) ?_
      exact RO.mk (by simp [mShr, cUpTo, mIn001, *])

set_option maxRecDepth 100000 in
set_option maxHeartbeats 4000000 in
theorem L_nextLapse {st : Nat → Nat} (d : Nat) {z : Nat} {h : Nat → Option va_E} {m : Nat} {fs : List Value} {ζ : Sg} (H : ZAt h m fs ζ) (hL : LOk ζ) (hC : COk ζ) (hT : WT ζ) (hW : WL ζ) (w : Int32) (hw : ¬ (w ≠ 0 ∧ w ≠ 1)) : ∀ (k : Nat) (i : Nat) (r : Int32) (w0 : Value), i + k = nCl ζ → (r = -6 ∨ ∃ b, b < nCl ζ ∧ r = nI b) → lp (flF ζ) i k r = lp (flF ζ) 0 (nCl ζ) (-6) → Ev st (d + 3) yX5_nextLapse cX5_nextLapse 5 (some .int) (z, h) 0 0 (RO (some (.int (oNextLapse ζ w))) (z, h)) 17 [.ref m, .int w, .int r, .int (nI i), w0] [] (z, h) 0 0 := by
  intro k
  induction k with
  | zero =>
    intro i r w0 hik hr hR
    refine x_iload_n dX5_nextLapse_17 rfl ?_
    refine x_aload_n dX5_nextLapse_18 rfl ?_
    refine x_get dX5_nextLapse_19 fX5_7 H.ob rfl ?_
    refine x_bipush (v := 8) dX5_nextLapse_22 rfl ?_
    refine z_ald (13) (1) dX5_nextLapse_24 H (show zAt 13 1 8 from ⟨by decide, rfl⟩) (show ¬ (8 : Int32) < 0 ∧ Int32.toNatClampNeg 8 = 8 by decide) ?_
    rw [hC.1]
    have hC30 := hC.2
    refine x_icmp_ge (tgt := 102) dX5_nextLapse_25 (by decide) (fun c25 => ?_) (fun c25 => absurd (nI_le (a := nCl ζ) (b := i) (by omega) (by omega)) c25)
    refine x_iload_n dX5_nextLapse_102 rfl ?_
    refine x_bipush (v := (-6)) dX5_nextLapse_103 rfl ?_
    refine x_icmp_eq (tgt := 113) dX5_nextLapse_105 (by decide) (fun c105 => ?_) (fun c105 => ?_)
    · refine x_iload_n dX5_nextLapse_113 rfl ?_
      refine x_goto (tgt := 122) dX5_nextLapse_114 (by decide) ?_
      refine x_iret dX5_nextLapse_122 (Or.inl rfl) rfl (Nat.le_refl _) ?_
      rw [lp_0] at hR
      exact RO.mk (by unfold oNextLapse; rw [if_neg hw]; dsimp only; rw [← hR]; clear hR; simp [*])
    · refine x_iload_n dX5_nextLapse_108 rfl ?_
      refine x_iconst (v := 1) dX5_nextLapse_109 rfl ?_
      refine x_icmp_ne (tgt := 117) dX5_nextLapse_110 (by decide) (fun c110 => ?_) (fun c110 => ?_)
      · obtain ⟨b, hb, rfl⟩ := hr.resolve_left c105
        have hcl := nI_cl (j := b) (by omega)
        refine x_aload_n dX5_nextLapse_117 rfl ?_
        refine x_iload_n dX5_nextLapse_118 rfl ?_
        refine c_VR dX5_nextLapse_119 kX5_lapsesIn iX5_lapsesIn q1010 (t_lapsesIn _ H (j := b) (by omega)) H.ob rfl rfl rfl (Nat.le_of_ble_eq_true rfl) ⟨Nat.le_refl _, Nat.le_refl _⟩ ?_
        refine x_iret dX5_nextLapse_122 (Or.inl rfl) rfl (Nat.le_refl _) ?_
        rw [lp_0] at hR
        exact RO.mk (by unfold oNextLapse; rw [if_neg hw]; dsimp only; rw [← hR]; clear hR; simp [*])
      · refine x_iload_n dX5_nextLapse_113 rfl ?_
        refine x_goto (tgt := 122) dX5_nextLapse_114 (by decide) ?_
        refine x_iret dX5_nextLapse_122 (Or.inl rfl) rfl (Nat.le_refl _) ?_
        rw [lp_0] at hR
        exact RO.mk (by unfold oNextLapse; rw [if_neg hw]; dsimp only; rw [← hR]; clear hR; simp [*])
  | succ k ih =>
    intro i r w0 hik hr hR
    refine x_iload_n dX5_nextLapse_17 rfl ?_
    refine x_aload_n dX5_nextLapse_18 rfl ?_
    refine x_get dX5_nextLapse_19 fX5_7 H.ob rfl ?_
    refine x_bipush (v := 8) dX5_nextLapse_22 rfl ?_
    refine z_ald (13) (1) dX5_nextLapse_24 H (show zAt 13 1 8 from ⟨by decide, rfl⟩) (show ¬ (8 : Int32) < 0 ∧ Int32.toNatClampNeg 8 = 8 by decide) ?_
    rw [hC.1]
    have hC30 := hC.2
    refine x_icmp_ge (tgt := 102) dX5_nextLapse_25 (by decide) (fun c25 => absurd c25 (nI_ge (a := i) (b := nCl ζ) (by omega) (by omega))) (fun c25 => ?_)
    refine x_aload_n dX5_nextLapse_28 rfl ?_
    refine x_iload_n dX5_nextLapse_29 rfl ?_
    refine x_iconst (v := 4) dX5_nextLapse_30 rfl ?_
    refine c_VR dX5_nextLapse_31 kX5_claimOf iX5_claimOf q811 (t_claimOf _ H (a := (nI i)) (j := i) (b := 4) (w := 4) (9) rfl (by omega) rfl (by decide) rfl) H.ob rfl rfl rfl (Nat.le_of_ble_eq_true rfl) ⟨Nat.le_refl _, Nat.le_refl _⟩ ?_
    refine x_if_ne (tgt := 96) dX5_nextLapse_34 (by decide) (fun c34 => ?_) (fun c34 => ?_)
    · refine e_inc (lv' := fun w9 => [.ref m, .int w, .int r, .int w9, w0]) dX5_nextLapse_96 rfl rfl (fun _ => rfl) (fun v1 ev1 => ?_)
      refine x_goto (tgt := 17) dX5_nextLapse_99 (by decide) ?_
      obtain rfl := inc1 ev1
      exact ih (i + 1) r (w0) (by omega) hr (by rw [← hR, lp_s]; congr 1; all_goals (subst_vars; simp [flF, sOpen, nI_cl (show i < 2 ^ 31 by omega), *]))
    · refine x_iload_n dX5_nextLapse_37 rfl ?_
      refine x_bipush (v := (-6)) dX5_nextLapse_38 rfl ?_
      refine x_icmp_ne (tgt := 47) dX5_nextLapse_40 (by decide) (fun c40 => ?_) (fun c40 => ?_)
      · obtain ⟨b, hb, rfl⟩ := hr.resolve_left c40
        have ha := ahead_eq hL hT hW (c := i) (b := b) (by omega) hb
        have hclb := nI_cl (j := b) (by omega)
        refine x_aload_n dX5_nextLapse_47 rfl ?_
        refine x_iload_n dX5_nextLapse_48 rfl ?_
        refine c_VR dX5_nextLapse_49 kX5_lapsesIn iX5_lapsesIn q1010 (t_lapsesIn _ H (j := i) (by omega)) H.ob rfl rfl rfl (Nat.le_of_ble_eq_true rfl) ⟨Nat.le_refl _, Nat.le_refl _⟩ ?_
        refine x_aload_n dX5_nextLapse_52 rfl ?_
        refine x_iload_n dX5_nextLapse_53 rfl ?_
        refine c_VR dX5_nextLapse_54 kX5_lapsesIn iX5_lapsesIn q1010 (t_lapsesIn _ H (j := b) (by omega)) H.ob rfl rfl rfl (Nat.le_of_ble_eq_true rfl) ⟨Nat.le_refl _, Nat.le_refl _⟩ ?_
        refine x_isub dX5_nextLapse_57 ?_
        refine e_ist (lv' := fun w9 => [.ref m, .int w, .int (nI b), .int (nI i), .int w9]) dX5_nextLapse_58 (Nat.le_of_ble_eq_true rfl) rfl (fun _ => rfl) (fun v2 ev2 => ?_)
        refine x_iload dX5_nextLapse_60 rfl ?_
        refine x_if_ne (tgt := 81) dX5_nextLapse_62 (by decide) (fun c62 => ?_) (fun c62 => ?_)
        · refine x_iload dX5_nextLapse_81 rfl ?_
          refine e_ist (lv' := fun w9 => [.ref m, .int w, .int (nI b), .int (nI i), .int w9]) dX5_nextLapse_83 (Nat.le_of_ble_eq_true rfl) rfl (fun _ => rfl) (fun v3 ev3 => ?_)
          refine x_iload dX5_nextLapse_85 rfl ?_
          refine x_if_ge (tgt := 94) dX5_nextLapse_87 (by decide) (fun c87 => ?_) (fun c87 => ?_)
          · have c87 := Int32.not_lt.mpr c87
            refine x_iload_n dX5_nextLapse_94 rfl ?_
            refine e_ist_n (lv' := fun w9 => [.ref m, .int w, .int w9, .int (nI i), .int v3]) dX5_nextLapse_95 (Nat.le_of_ble_eq_true rfl) rfl (fun _ => rfl) (fun v4 ev4 => ?_)
            have ev4 : v4 = (nI b) := ev4.trans rfl
            subst ev4
            refine e_inc (lv' := fun w9 => [.ref m, .int w, .int ((nI b)), .int w9, .int v3]) dX5_nextLapse_96 rfl rfl (fun _ => rfl) (fun v5 ev5 => ?_)
            refine x_goto (tgt := 17) dX5_nextLapse_99 (by decide) ?_
            obtain rfl := inc1 ev5
            exact ih (i + 1) (nI b) (.int v3) (by omega) hr (by rw [← hR, lp_s]; congr 1; all_goals (subst_vars; simp [flF, sOpen, nI_cl (show i < 2 ^ 31 by omega), *]))
          · have c87 := Int32.not_le.mp c87
            refine x_iload_n dX5_nextLapse_90 rfl ?_
            refine x_goto (tgt := 95) dX5_nextLapse_91 (by decide) ?_
            refine e_ist_n (lv' := fun w9 => [.ref m, .int w, .int w9, .int (nI i), .int v3]) dX5_nextLapse_95 (Nat.le_of_ble_eq_true rfl) rfl (fun _ => rfl) (fun v6 ev6 => ?_)
            have ev6 : v6 = (nI i) := ev6.trans rfl
            subst ev6
            refine e_inc (lv' := fun w9 => [.ref m, .int w, .int ((nI i)), .int w9, .int v3]) dX5_nextLapse_96 rfl rfl (fun _ => rfl) (fun v7 ev7 => ?_)
            refine x_goto (tgt := 17) dX5_nextLapse_99 (by decide) ?_
            obtain rfl := inc1 ev7
            exact ih (i + 1) (nI i) (.int v3) (by omega) (Or.inr ⟨i, by omega, rfl⟩) (by rw [← hR, lp_s]; congr 1; all_goals (subst_vars; simp [flF, sOpen, nI_cl (show i < 2 ^ 31 by omega), *]))
        · refine x_aload_n dX5_nextLapse_65 rfl ?_
          refine x_iload_n dX5_nextLapse_66 rfl ?_
          refine x_iconst (v := 1) dX5_nextLapse_67 rfl ?_
          refine c_VR dX5_nextLapse_68 kX5_claimOf iX5_claimOf q811 (t_claimOf _ H (a := (nI i)) (j := i) (b := 1) (w := 1) (6) rfl (by omega) rfl (by decide) rfl) H.ob rfl rfl rfl (Nat.le_of_ble_eq_true rfl) ⟨Nat.le_refl _, Nat.le_refl _⟩ ?_
          refine x_aload_n dX5_nextLapse_71 rfl ?_
          refine x_iload_n dX5_nextLapse_72 rfl ?_
          refine x_iconst (v := 1) dX5_nextLapse_73 rfl ?_
          refine c_VR dX5_nextLapse_74 kX5_claimOf iX5_claimOf q811 (t_claimOf _ H (a := (nI b)) (j := b) (b := 1) (w := 1) (6) rfl (by omega) rfl (by decide) rfl) H.ob rfl rfl rfl (Nat.le_of_ble_eq_true rfl) ⟨Nat.le_refl _, Nat.le_refl _⟩ ?_
          refine x_isub dX5_nextLapse_77 ?_
          refine x_goto (tgt := 83) dX5_nextLapse_78 (by decide) ?_
          refine e_ist (lv' := fun w9 => [.ref m, .int w, .int (nI b), .int (nI i), .int w9]) dX5_nextLapse_83 (Nat.le_of_ble_eq_true rfl) rfl (fun _ => rfl) (fun v8 ev8 => ?_)
          refine x_iload dX5_nextLapse_85 rfl ?_
          refine x_if_ge (tgt := 94) dX5_nextLapse_87 (by decide) (fun c87 => ?_) (fun c87 => ?_)
          · have c87 := Int32.not_lt.mpr c87
            refine x_iload_n dX5_nextLapse_94 rfl ?_
            refine e_ist_n (lv' := fun w9 => [.ref m, .int w, .int w9, .int (nI i), .int v8]) dX5_nextLapse_95 (Nat.le_of_ble_eq_true rfl) rfl (fun _ => rfl) (fun v9 ev9 => ?_)
            have ev9 : v9 = (nI b) := ev9.trans rfl
            subst ev9
            refine e_inc (lv' := fun w9 => [.ref m, .int w, .int ((nI b)), .int w9, .int v8]) dX5_nextLapse_96 rfl rfl (fun _ => rfl) (fun v10 ev10 => ?_)
            refine x_goto (tgt := 17) dX5_nextLapse_99 (by decide) ?_
            obtain rfl := inc1 ev10
            exact ih (i + 1) (nI b) (.int v8) (by omega) hr (by rw [← hR, lp_s]; congr 1; all_goals (subst_vars; simp [flF, sOpen, nI_cl (show i < 2 ^ 31 by omega), *]))
          · have c87 := Int32.not_le.mp c87
            refine x_iload_n dX5_nextLapse_90 rfl ?_
            refine x_goto (tgt := 95) dX5_nextLapse_91 (by decide) ?_
            refine e_ist_n (lv' := fun w9 => [.ref m, .int w, .int w9, .int (nI i), .int v8]) dX5_nextLapse_95 (Nat.le_of_ble_eq_true rfl) rfl (fun _ => rfl) (fun v11 ev11 => ?_)
            have ev11 : v11 = (nI i) := ev11.trans rfl
            subst ev11
            refine e_inc (lv' := fun w9 => [.ref m, .int w, .int ((nI i)), .int w9, .int v8]) dX5_nextLapse_96 rfl rfl (fun _ => rfl) (fun v12 ev12 => ?_)
            refine x_goto (tgt := 17) dX5_nextLapse_99 (by decide) ?_
            obtain rfl := inc1 ev12
            exact ih (i + 1) (nI i) (.int v8) (by omega) (Or.inr ⟨i, by omega, rfl⟩) (by rw [← hR, lp_s]; congr 1; all_goals (subst_vars; simp [flF, sOpen, nI_cl (show i < 2 ^ 31 by omega), *]))
      · refine x_iconst (v := (-1)) dX5_nextLapse_43 rfl ?_
        refine x_goto (tgt := 58) dX5_nextLapse_44 (by decide) ?_
        refine e_ist (lv' := fun w9 => [.ref m, .int w, .int r, .int (nI i), .int w9]) dX5_nextLapse_58 (Nat.le_of_ble_eq_true rfl) rfl (fun _ => rfl) (fun v13 ev13 => ?_)
        subst ev13
        refine x_iload dX5_nextLapse_60 rfl ?_
        refine x_if_ne (tgt := 81) dX5_nextLapse_62 (by decide) (fun _ => ?_) (fun c62 => absurd c62 (by decide))
        refine x_iload dX5_nextLapse_81 rfl ?_
        refine e_ist (lv' := fun w9 => [.ref m, .int w, .int r, .int (nI i), .int w9]) dX5_nextLapse_83 (Nat.le_of_ble_eq_true rfl) rfl (fun _ => rfl) (fun v14 ev14 => ?_)
        subst ev14
        refine x_iload dX5_nextLapse_85 rfl ?_
        refine x_if_ge (tgt := 94) dX5_nextLapse_87 (by decide) (fun c87 => absurd c87 (by decide)) (fun _ => ?_)
        refine x_iload_n dX5_nextLapse_90 rfl ?_
        refine x_goto (tgt := 95) dX5_nextLapse_91 (by decide) ?_
        refine e_ist_n (lv' := fun w9 => [.ref m, .int w, .int w9, .int (nI i), .int (-1)]) dX5_nextLapse_95 (Nat.le_of_ble_eq_true rfl) rfl (fun _ => rfl) (fun v15 ev15 => ?_)
        have ev15 : v15 = (nI i) := ev15.trans rfl
        subst ev15
        refine e_inc (lv' := fun w9 => [.ref m, .int w, .int ((nI i)), .int w9, .int (-1)]) dX5_nextLapse_96 rfl rfl (fun _ => rfl) (fun v16 ev16 => ?_)
        refine x_goto (tgt := 17) dX5_nextLapse_99 (by decide) ?_
        obtain rfl := inc1 ev16
        exact ih (i + 1) (nI i) (.int (-1)) (by omega) (Or.inr ⟨i, by omega, rfl⟩) (by rw [← hR, lp_s]; congr 1; all_goals (subst_vars; simp [flF, sOpen, nI_cl (show i < 2 ^ 31 by omega), *]))

set_option maxRecDepth 100000 in
set_option maxHeartbeats 4000000 in
theorem m_nextLapse {st : Nat → Nat} (d : Nat) {z : Nat} {h : Nat → Option va_E} {m : Nat} {fs : List Value} {ζ : Sg} (H : ZAt h m fs ζ) (hL : LOk ζ) (hC : COk ζ) (hT : WT ζ) (hW : WL ζ) (w : Int32) : CT st (d + 3) yX5_nextLapse cX5_nextLapse 5 (some .int) [.ref m, .int w] (z, h) 0 0 (RO (some (.int (oNextLapse ζ w))) (z, h)) := by
  refine CT.of (lv := [.ref m, .int w, .null, .null, .null]) (by decide) (Nat.le_of_ble_eq_true rfl) rfl rfl ?_
  refine x_iload_n dX5_nextLapse_0 rfl ?_
  refine x_iconst (v := 0) dX5_nextLapse_1 rfl ?_
  refine x_iconst (v := 1) dX5_nextLapse_2 rfl ?_
  refine c_SR dX5_nextLapse_3 kX5_in q732 q731 (t_in _ _ _ _) rfl rfl (Nat.le_of_ble_eq_true rfl) ⟨Nat.le_refl _, Nat.le_refl _⟩ ?_
  refine x_if_ne (tgt := 12) dX5_nextLapse_6 (by decide) (fun c6 => ?_) (fun c6 => ?_)
  · have c6 := bI_ne c6
    refine x_bipush (v := (-6)) dX5_nextLapse_12 rfl ?_
    refine e_ist_n (lv' := fun w9 => [.ref m, .int w, .int w9, .null, .null]) dX5_nextLapse_14 (Nat.le_of_ble_eq_true rfl) rfl (fun _ => rfl) (fun v1 ev1 => ?_)
    refine x_iconst (v := 0) dX5_nextLapse_15 rfl ?_
    refine e_ist_n (lv' := fun w9 => [.ref m, .int w, .int v1, .int w9, .null]) dX5_nextLapse_16 (Nat.le_of_ble_eq_true rfl) rfl (fun _ => rfl) (fun v2 ev2 => ?_)
    subst ev1 ev2
    exact L_nextLapse d H hL hC hT hW w (fun q => absurd c6 (by rw [(mIn01 w).mpr q]; decide)) (nCl ζ) 0 (-6) _ (by omega) (Or.inl rfl) rfl
  · have c6 := bI_eq c6
    refine x_bipush (v := (-2)) dX5_nextLapse_9 rfl ?_
    refine x_iret dX5_nextLapse_11 (Or.inl rfl) rfl (Nat.le_refl _) ?_
    exact RO.mk (by unfold oNextLapse; rw [if_pos ((mIn01 w).mp c6)])
