theorem sSettleC_keep (σ : Sg) (c : Nat) (x : Int32) (hP : POk σ) : sSettleC σ c x 13 0 = σ 13 0 ∧ sSettleC σ c x 13 1 = σ 13 1 ∧ POk (sSettleC σ c x) := by
  have e2 : sSettleC σ c x 13 2 = sPayO σ c x 13 2 := by simp [sSettleC, up2]
  refine ⟨?_, ?_, ?_⟩
  · simp only [sSettleC, sPayO]; split <;> try split <;> try split
    all_goals simp [up2]
  · simp only [sSettleC, sPayO]; split <;> try split <;> try split
    all_goals simp [up2]
  · have key : POk (sPayO σ c x) := by
      unfold sPayO
      split
      · exact hP
      split
      · split
        · exact hP
        next h =>
          have hlt := cnt_lt (M := 16) hP.1 hP.2 (by decide) (Int32.not_le.mp h)
          have e : up2 (up2 σ 12 (nPd σ) (σ 5 c)) 13 2 (σ 13 2 + 1) 13 2 = nI (nPd σ + 1) := by
            rw [up2_s, hP.1]
            exact nI_1 _
          have e2 : nPd (up2 (up2 σ 12 (nPd σ) (σ 5 c)) 13 2 (σ 13 2 + 1)) = nPd σ + 1 := by
            unfold nPd at *
            rw [e]
            exact nI_clamp (by omega)
          exact ⟨by rw [e2]; exact e, by rw [e2]; omega⟩
      · exact hP
    exact (key.to e2).1
set_option maxRecDepth 100000 in
set_option maxHeartbeats 4000000 in
theorem t_changeSetting {st : Nat → Nat} (d : Nat) {z : Nat} {h : Nat → Option va_E} {o : Nat} {σ : Sg} (H : OffAt h o σ) (hL : LOk σ) (hC : COk σ) (s v : Int32) : CT st (d + 1) yX2_changeSetting cX2_changeSetting 4 (some .int) [.ref o, .int s, .int v] (z, h) 0 0 (MO (some (.int (oSet σ s v).1)) z o h (oSet σ s v).2) := by
  refine CT.of (lv := [.ref o, .int s, .int v, .null]) (by decide) (Nat.le_of_ble_eq_true rfl) rfl rfl ?_
  refine x_iload_n dX2_changeSetting_0 rfl ?_
  refine x_if_lt (tgt := 9) dX2_changeSetting_1 (by decide) (fun c1 => ?_) (fun c1 => ?_)
  · refine x_bipush (v := (-2)) dX2_changeSetting_9 rfl ?_
    refine x_iret dX2_changeSetting_11 (Or.inl rfl) rfl (Nat.le_refl _) ?_
    exact MO.mk (by subst_vars; simp [oSet, *]) H Fr.rf
  · refine x_iload_n dX2_changeSetting_4 rfl ?_
    refine x_iconst (v := 5) dX2_changeSetting_5 rfl ?_
    refine x_icmp_lt (tgt := 12) dX2_changeSetting_6 (by decide) (fun c6 => ?_) (fun c6 => ?_)
    · obtain ⟨j, hj, rfl⟩ : ∃ j : Nat, j < 5 ∧ s = nI j := by
        obtain ⟨j, hj, rfl⟩ := nI_of c1
        exact ⟨j, (nI_ltI (a := j) (b := 5) hj (by decide)).mp c6, rfl⟩
      have hcl := nI_cl (j := j) (by omega)
      refine x_iload_n dX2_changeSetting_12 rfl ?_
      refine x_getsN (t := 0) dX2_changeSetting_13 (by decide) q453 ?_
      refine x_iload_n dX2_changeSetting_16 rfl ?_
      refine x_sald (t := 0) dX2_changeSetting_17 (by decide) rfl (ax_ixN (j := j) (by omega) (Nat.le_of_ble_eq_true rfl)) ?_
      refine x_icmp_lt (tgt := 30) dX2_changeSetting_18 (by decide) (fun c18 => ?_) (fun c18 => ?_)
      · refine x_bipush (v := (-2)) dX2_changeSetting_30 rfl ?_
        refine x_iret dX2_changeSetting_32 (Or.inl rfl) rfl (Nat.le_refl _) ?_
        exact MO.mk (by subst_vars; simp [oSet, *]) H Fr.rf
      · refine x_iload_n dX2_changeSetting_21 rfl ?_
        refine x_getsN (t := 1) dX2_changeSetting_22 (by decide) q455 ?_
        refine x_iload_n dX2_changeSetting_25 rfl ?_
        refine x_sald (t := 1) dX2_changeSetting_26 (by decide) rfl (ax_ixN (j := j) (by omega) (Nat.le_of_ble_eq_true rfl)) ?_
        refine x_icmp_le (tgt := 33) dX2_changeSetting_27 (by decide) (fun c27 => ?_) (fun c27 => ?_)
        · refine x_aload_n dX2_changeSetting_33 rfl ?_
          refine x_get dX2_changeSetting_34 fX2_9 H.ob rfl ?_
          refine x_iload_n dX2_changeSetting_37 rfl ?_
          refine e_ald dX2_changeSetting_38 H.r0 (ax_ixN (j := j) (by first | exact hj | (show j < 5; exact hj)) (Nat.le_of_ble_eq_true rfl)) ?_
          refine e_ist_n (lv' := fun w9 => [.ref o, .int (nI j), .int v, .int w9]) dX2_changeSetting_39 (Nat.le_of_ble_eq_true rfl) rfl (fun _ => rfl) (fun v1 ev1 => ?_)
          refine x_aload_n dX2_changeSetting_40 rfl ?_
          refine x_get dX2_changeSetting_41 fX2_9 H.ob rfl ?_
          refine x_iload_n dX2_changeSetting_44 rfl ?_
          refine x_iload_n dX2_changeSetting_45 rfl ?_
          refine e_oast (K := 0) dX2_changeSetting_46 H (Nat.le_of_ble_eq_true rfl) (show ax_ix _ 5 _ from (ax_ixN (j := j) (by first | exact hj | (show j < 5; exact hj)) (Nat.le_of_ble_eq_true rfl))) (fun h2 hO2 hF2 => ?_)
          refine x_iload_n dX2_changeSetting_47 rfl ?_
          refine x_iret dX2_changeSetting_48 (Or.inl rfl) rfl (Nat.le_refl _) ?_
          exact MO.mk (by subst_vars; simp [oSet, *]) hO2 hF2
        · refine x_bipush (v := (-2)) dX2_changeSetting_30 rfl ?_
          refine x_iret dX2_changeSetting_32 (Or.inl rfl) rfl (Nat.le_refl _) ?_
          exact MO.mk (by subst_vars; simp [oSet, *]) H Fr.rf
    · refine x_bipush (v := (-2)) dX2_changeSetting_9 rfl ?_
      refine x_iret dX2_changeSetting_11 (Or.inl rfl) rfl (Nat.le_refl _) ?_
      exact MO.mk (by subst_vars; simp [oSet, *]) H Fr.rf

set_option maxRecDepth 100000 in
set_option maxHeartbeats 4000000 in
theorem t_addLot {st : Nat → Nat} (d : Nat) {z : Nat} {h : Nat → Option va_E} {o : Nat} {σ : Sg} (H : OffAt h o σ) (hL : LOk σ) (hC : COk σ) (x : Int32) : CT st (d + 1) yX2_addLot cX2_addLot 3 (some .int) [.ref o, .int x] (z, h) 0 0 (MO (some (.int (oLot σ x).1)) z o h (oLot σ x).2) := by
  refine CT.of (lv := [.ref o, .int x, .null]) (by decide) (Nat.le_of_ble_eq_true rfl) rfl rfl ?_
  refine x_iload_n dX2_addLot_0 rfl ?_
  refine x_iconst (v := 1) dX2_addLot_1 rfl ?_
  refine x_icmp_lt (tgt := 12) dX2_addLot_2 (by decide) (fun c2 => ?_) (fun c2 => ?_)
  · refine x_bipush (v := (-2)) dX2_addLot_12 rfl ?_
    refine x_iret dX2_addLot_14 (Or.inl rfl) rfl (Nat.le_refl _) ?_
    exact MO.mk (by subst_vars; simp [oLot, up2, *]) H Fr.rf
  · refine x_iload_n dX2_addLot_5 rfl ?_
    refine x_sipush (v := 9999) dX2_addLot_6 rfl ?_
    refine x_icmp_le (tgt := 15) dX2_addLot_9 (by decide) (fun c9 => ?_) (fun c9 => ?_)
    · refine x_aload_n dX2_addLot_15 rfl ?_
      refine x_get dX2_addLot_16 fX2_18 H.ob rfl ?_
      refine x_get dX2_addLot_19 fX2_62 H.lo.ob rfl ?_
      refine x_bipush (v := 12) dX2_addLot_22 rfl ?_
      refine x_icmp_lt (tgt := 30) dX2_addLot_24 (by decide) (fun c24 => ?_) (fun c24 => ?_)
      · refine x_aload_n dX2_addLot_30 rfl ?_
        refine x_get dX2_addLot_31 fX2_18 H.ob rfl ?_
        refine x_get dX2_addLot_34 fX2_62 H.lo.ob rfl ?_
        refine e_ist_n (lv' := fun w9 => [.ref o, .int x, .int w9]) dX2_addLot_37 (Nat.le_of_ble_eq_true rfl) rfl (fun _ => rfl) (fun v1 ev1 => ?_)
        refine x_aload_n dX2_addLot_38 rfl ?_
        refine x_get dX2_addLot_39 fX2_18 H.ob rfl ?_
        refine x_get dX2_addLot_42 fX2_65 H.lo.ob rfl ?_
        refine x_iload_n dX2_addLot_45 rfl ?_
        refine x_iload_n dX2_addLot_46 rfl ?_
        refine e_oast (K := 1) dX2_addLot_47 H (Nat.le_of_ble_eq_true rfl) (show ax_ix _ 12 _ from (by rw [ev1, hL.1]; exact ax_ixN (j := nLo σ) (cnt_lt (M := 12) hL.1 hL.2 (by decide) c24) (Nat.le_of_ble_eq_true rfl))) (fun h2 hO2 hF2 => ?_)
        refine x_aload_n dX2_addLot_48 rfl ?_
        refine x_get dX2_addLot_49 fX2_18 hO2.ob rfl ?_
        refine x_dup dX2_addLot_52 rfl ?_
        refine x_get dX2_addLot_53 fX2_62 hO2.lo.ob rfl ?_
        refine x_iconst (v := 1) dX2_addLot_56 rfl ?_
        refine x_iadd dX2_addLot_57 ?_
        refine e_lput dX2_addLot_58 fX2_62 hO2 (fun h3 hO3 hF3 => ?_)
        refine x_iload_n dX2_addLot_61 rfl ?_
        refine x_iret dX2_addLot_62 (Or.inl rfl) rfl (Nat.le_refl _) ?_
        exact MO.mk (by subst_vars; simp [oLot, up2, *]) hO3 (hF2.tr hF3)
      · refine x_bipush (v := (-4)) dX2_addLot_27 rfl ?_
        refine x_iret dX2_addLot_29 (Or.inl rfl) rfl (Nat.le_refl _) ?_
        exact MO.mk (by subst_vars; simp [oLot, up2, *]) H Fr.rf
    · refine x_bipush (v := (-2)) dX2_addLot_12 rfl ?_
      refine x_iret dX2_addLot_14 (Or.inl rfl) rfl (Nat.le_refl _) ?_
      exact MO.mk (by subst_vars; simp [oLot, up2, *]) H Fr.rf

set_option maxRecDepth 100000 in
set_option maxHeartbeats 4000000 in
theorem t_giveNotice {st : Nat → Nat} (d : Nat) {z : Nat} {h : Nat → Option va_E} {o : Nat} {σ : Sg} (H : OffAt h o σ) (hL : LOk σ) (hC : COk σ) (x : Int32) : CT st (d + 4) yX2_giveNotice cX2_giveNotice 2 (some .int) [.ref o, .int x] (z, h) 0 0 (MO (some (.int (oNotice σ x).1)) z o h (oNotice σ x).2) := by
  refine CT.of (lv := [.ref o, .int x]) (by decide) (Nat.le_of_ble_eq_true rfl) rfl rfl ?_
  refine x_aload_n dX2_giveNotice_0 rfl ?_
  refine x_get dX2_giveNotice_1 fX2_18 H.ob rfl ?_
  refine x_iload_n dX2_giveNotice_4 rfl ?_
  refine c_VR dX2_giveNotice_5 kX1_exists iX1_exists q317 (t_Lexists _ H.lo _) H.lo.ob rfl rfl rfl (Nat.le_of_ble_eq_true rfl) ⟨Nat.le_refl _, Nat.le_refl _⟩ ?_
  refine x_if_ne (tgt := 13) dX2_giveNotice_8 (by decide) (fun c8 => ?_) (fun c8 => ?_)
  · have c8 := bI_ne c8
    obtain ⟨j, -, hj, rfl⟩ := ax_ix_of hL.1 hL.2 (Nat.le_of_ble_eq_true rfl) c8
    have hj12 := hL.2
    have hcl := nI_cl (j := j) (by omega)
    refine x_aload_n dX2_giveNotice_13 rfl ?_
    refine x_get dX2_giveNotice_14 fX2_18 H.ob rfl ?_
    refine x_get dX2_giveNotice_17 fX2_72 H.lo.ob rfl ?_
    refine x_iload_n dX2_giveNotice_20 rfl ?_
    refine e_ald dX2_giveNotice_21 H.lo.r2 (ax_ixN (j := j) (by omega) (Nat.le_of_ble_eq_true rfl)) ?_
    refine x_if_eq (tgt := 28) dX2_giveNotice_22 (by decide) (fun c22 => ?_) (fun c22 => ?_)
    · refine x_aload_n dX2_giveNotice_28 rfl ?_
      refine x_get dX2_giveNotice_29 fX2_18 H.ob rfl ?_
      refine x_get dX2_giveNotice_32 fX2_72 H.lo.ob rfl ?_
      refine x_iload_n dX2_giveNotice_35 rfl ?_
      refine x_iconst (v := 1) dX2_giveNotice_36 rfl ?_
      refine e_oast (K := 2) dX2_giveNotice_37 H (Nat.le_of_ble_eq_true rfl) (show ax_ix _ 12 _ from (ax_ixN (j := j) (by omega) (Nat.le_of_ble_eq_true rfl))) (fun h1 hO1 hF1 => ?_)
      refine x_aload_n dX2_giveNotice_38 rfl ?_
      refine x_get dX2_giveNotice_39 fX2_18 hO1.ob rfl ?_
      refine x_iconst (v := 1) dX2_giveNotice_42 rfl ?_
      refine c_VR dX2_giveNotice_43 kX1_inState iX1_inState q209 (t_LinState _ hO1.lo (hL.to (by simp [up2])).1 _) hO1.lo.ob rfl rfl rfl (Nat.le_of_ble_eq_true rfl) ⟨Nat.le_refl _, Nat.le_refl _⟩ ?_
      refine c_SR dX2_giveNotice_46 kJ6_bitCount_0f7a4 q247 q246 (t_bitCount _ _) rfl rfl (Nat.le_of_ble_eq_true rfl) ⟨Nat.le_refl _, Nat.le_refl _⟩ ?_
      refine x_iret dX2_giveNotice_49 (Or.inl rfl) rfl (Nat.le_refl _) ?_
      exact MO.mk (by subst_vars; simp [oNotice, *]) hO1 hF1
    · refine x_bipush (v := (-5)) dX2_giveNotice_25 rfl ?_
      refine x_iret dX2_giveNotice_27 (Or.inl rfl) rfl (Nat.le_refl _) ?_
      exact MO.mk (by subst_vars; simp [oNotice, *]) H Fr.rf
  · have c8 := bI_eq c8
    refine x_iconst (v := (-1)) dX2_giveNotice_11 rfl ?_
    refine x_iret dX2_giveNotice_12 (Or.inl rfl) rfl (Nat.le_refl _) ?_
    exact MO.mk (by subst_vars; simp [oNotice, *]) H Fr.rf

set_option maxRecDepth 100000 in
set_option maxHeartbeats 4000000 in
theorem t_addClaim {st : Nat → Nat} (d : Nat) {z : Nat} {h : Nat → Option va_E} {o : Nat} {σ : Sg} (H : OffAt h o σ) (hL : LOk σ) (hC : COk σ) (y x l : Int32) : CT st (d + 5) yX2_addClaim cX2_addClaim 5 (some .int) [.ref o, .int y, .int x, .int l] (z, h) 0 0 (MO (some (.int (oClaim σ y x l).1)) z o h (oClaim σ y x l).2) := by
  refine CT.of (lv := [.ref o, .int y, .int x, .int l, .null]) (by decide) (Nat.le_of_ble_eq_true rfl) rfl rfl ?_
  refine x_iload_n dX2_addClaim_0 rfl ?_
  refine c_SR dX2_addClaim_1 kX2_isHeir q349 q348 (t_isHeir _ _) rfl rfl (Nat.le_of_ble_eq_true rfl) ⟨Nat.le_refl _, Nat.le_refl _⟩ ?_
  refine x_if_eq (tgt := 18) dX2_addClaim_4 (by decide) (fun c4 => ?_) (fun c4 => ?_)
  · have c4 := bI_eq c4
    refine x_iconst (v := (-1)) dX2_addClaim_18 rfl ?_
    refine x_iret dX2_addClaim_19 (Or.inl rfl) rfl (Nat.le_refl _) ?_
    exact MO.mk (by subst_vars; simp [oClaim, up2, *]) H Fr.rf
  · have c4 := bI_ne c4
    refine x_aload_n dX2_addClaim_7 rfl ?_
    refine x_get dX2_addClaim_8 fX2_18 H.ob rfl ?_
    refine x_iload_n dX2_addClaim_11 rfl ?_
    refine c_VR dX2_addClaim_12 kX1_exists iX1_exists q317 (t_Lexists _ H.lo _) H.lo.ob rfl rfl rfl (Nat.le_of_ble_eq_true rfl) ⟨Nat.le_refl _, Nat.le_refl _⟩ ?_
    refine x_if_ne (tgt := 20) dX2_addClaim_15 (by decide) (fun c15 => ?_) (fun c15 => ?_)
    · have c15 := bI_ne c15
      obtain ⟨j, -, hj, rfl⟩ := ax_ix_of hL.1 hL.2 (Nat.le_of_ble_eq_true rfl) c15
      have hj12 := hL.2
      have hcl := nI_cl (j := j) (by omega)
      refine x_iload_n dX2_addClaim_20 rfl ?_
      refine x_iconst (v := 1) dX2_addClaim_21 rfl ?_
      refine x_icmp_lt (tgt := 30) dX2_addClaim_22 (by decide) (fun c22 => ?_) (fun c22 => ?_)
      · refine x_bipush (v := (-2)) dX2_addClaim_30 rfl ?_
        refine x_iret dX2_addClaim_32 (Or.inl rfl) rfl (Nat.le_refl _) ?_
        exact MO.mk (by subst_vars; simp [oClaim, up2, *]) H Fr.rf
      · refine x_iload_n dX2_addClaim_25 rfl ?_
        refine x_iconst (v := 5) dX2_addClaim_26 rfl ?_
        refine x_icmp_le (tgt := 33) dX2_addClaim_27 (by decide) (fun c27 => ?_) (fun c27 => ?_)
        · refine x_aload_n dX2_addClaim_33 rfl ?_
          refine x_iload_n dX2_addClaim_34 rfl ?_
          refine c_VR dX2_addClaim_35 kX2_canBeClaimed iX2_canBeClaimed q481 (t_canBeClaimed _ H hL hC (by omega)) H.ob rfl rfl rfl (Nat.le_of_ble_eq_true rfl) ⟨Nat.le_refl _, Nat.le_refl _⟩ ?_
          refine x_if_eq (tgt := 61) dX2_addClaim_38 (by decide) (fun c38 => ?_) (fun c38 => ?_)
          · have c38 := bI_eq c38
            refine x_bipush (v := (-5)) dX2_addClaim_61 rfl ?_
            refine x_iret dX2_addClaim_63 (Or.inl rfl) rfl (Nat.le_refl _) ?_
            exact MO.mk (by subst_vars; simp [oClaim, up2, *]) H Fr.rf
          · have c38 := bI_ne c38
            refine x_aload_n dX2_addClaim_41 rfl ?_
            refine x_get dX2_addClaim_42 fX2_25 H.ob rfl ?_
            refine x_iload_n dX2_addClaim_45 rfl ?_
            refine c_VR dX2_addClaim_46 kX0_ofHeir iX0_ofHeir q355 (t_ofHeir _ H.cl hC _) H.cl.ob rfl rfl rfl (Nat.le_of_ble_eq_true rfl) ⟨Nat.le_refl _, Nat.le_refl _⟩ ?_
            refine x_aload_n dX2_addClaim_49 rfl ?_
            refine x_get dX2_addClaim_50 fX2_25 H.ob rfl ?_
            refine x_iload_n dX2_addClaim_53 rfl ?_
            refine c_VR dX2_addClaim_54 kX0_standingTo iX0_standingTo q321 (t_standingTo _ H.cl hC _) H.cl.ob rfl rfl rfl (Nat.le_of_ble_eq_true rfl) ⟨Nat.le_refl _, Nat.le_refl _⟩ ?_
            refine x_iand dX2_addClaim_57 ?_
            refine x_if_eq (tgt := 64) dX2_addClaim_58 (by decide) (fun c58 => ?_) (fun c58 => ?_)
            · refine x_aload_n dX2_addClaim_64 rfl ?_
              refine x_get dX2_addClaim_65 fX2_25 H.ob rfl ?_
              refine x_get dX2_addClaim_68 fX2_96 H.cl.ob rfl ?_
              refine x_bipush (v := 30) dX2_addClaim_71 rfl ?_
              refine x_icmp_lt (tgt := 79) dX2_addClaim_73 (by decide) (fun c73 => ?_) (fun c73 => ?_)
              · refine x_aload_n dX2_addClaim_79 rfl ?_
                refine x_get dX2_addClaim_80 fX2_25 H.ob rfl ?_
                refine x_get dX2_addClaim_83 fX2_96 H.cl.ob rfl ?_
                refine e_ist (lv' := fun w9 => [.ref o, .int y, .int (nI j), .int l, .int w9]) dX2_addClaim_86 (Nat.le_of_ble_eq_true rfl) rfl (fun _ => rfl) (fun v1 ev1 => ?_)
                refine x_aload_n dX2_addClaim_88 rfl ?_
                refine x_get dX2_addClaim_89 fX2_25 H.ob rfl ?_
                refine x_get dX2_addClaim_92 fX2_97 H.cl.ob rfl ?_
                refine x_iload dX2_addClaim_95 rfl ?_
                refine x_iload_n dX2_addClaim_97 rfl ?_
                refine e_oast (K := 5) dX2_addClaim_98 H (Nat.le_of_ble_eq_true rfl) (show ax_ix _ 30 _ from (by rw [ev1, hC.1]; exact ax_ixN (j := nCl σ) (cnt_lt (M := 30) hC.1 hC.2 (by decide) c73) (Nat.le_of_ble_eq_true rfl))) (fun h2 hO2 hF2 => ?_)
                refine x_aload_n dX2_addClaim_99 rfl ?_
                refine x_get dX2_addClaim_100 fX2_25 hO2.ob rfl ?_
                refine x_get dX2_addClaim_103 fX2_100 hO2.cl.ob rfl ?_
                refine x_iload dX2_addClaim_106 rfl ?_
                refine x_iload_n dX2_addClaim_108 rfl ?_
                refine e_oast (K := 6) dX2_addClaim_109 hO2 (Nat.le_of_ble_eq_true rfl) (show ax_ix _ 30 _ from (by rw [ev1, hC.1]; exact ax_ixN (j := nCl σ) (cnt_lt (M := 30) hC.1 hC.2 (by decide) c73) (Nat.le_of_ble_eq_true rfl))) (fun h3 hO3 hF3 => ?_)
                refine x_aload_n dX2_addClaim_110 rfl ?_
                refine x_get dX2_addClaim_111 fX2_25 hO3.ob rfl ?_
                refine x_get dX2_addClaim_114 fX2_103 hO3.cl.ob rfl ?_
                refine x_iload dX2_addClaim_117 rfl ?_
                refine x_iload_n dX2_addClaim_119 rfl ?_
                refine e_oast (K := 7) dX2_addClaim_120 hO3 (Nat.le_of_ble_eq_true rfl) (show ax_ix _ 30 _ from (by rw [ev1, hC.1]; exact ax_ixN (j := nCl σ) (cnt_lt (M := 30) hC.1 hC.2 (by decide) c73) (Nat.le_of_ble_eq_true rfl))) (fun h4 hO4 hF4 => ?_)
                refine x_aload_n dX2_addClaim_121 rfl ?_
                refine x_get dX2_addClaim_122 fX2_25 hO4.ob rfl ?_
                refine x_dup dX2_addClaim_125 rfl ?_
                refine x_get dX2_addClaim_126 fX2_96 hO4.cl.ob rfl ?_
                refine x_iconst (v := 1) dX2_addClaim_129 rfl ?_
                refine x_iadd dX2_addClaim_130 ?_
                refine e_cput dX2_addClaim_131 fX2_96 hO4 (fun h5 hO5 hF5 => ?_)
                refine x_iload dX2_addClaim_134 rfl ?_
                refine x_iret dX2_addClaim_136 (Or.inl rfl) rfl (Nat.le_refl _) ?_
                exact MO.mk (by subst_vars; simp [oClaim, up2, *]) hO5 (((hF2.tr hF3).tr hF4).tr hF5)
              · refine x_bipush (v := (-4)) dX2_addClaim_76 rfl ?_
                refine x_iret dX2_addClaim_78 (Or.inl rfl) rfl (Nat.le_refl _) ?_
                exact MO.mk (by subst_vars; simp [oClaim, up2, *]) H Fr.rf
            · refine x_bipush (v := (-5)) dX2_addClaim_61 rfl ?_
              refine x_iret dX2_addClaim_63 (Or.inl rfl) rfl (Nat.le_refl _) ?_
              exact MO.mk (by subst_vars; simp [oClaim, up2, *]) H Fr.rf
        · refine x_bipush (v := (-2)) dX2_addClaim_30 rfl ?_
          refine x_iret dX2_addClaim_32 (Or.inl rfl) rfl (Nat.le_refl _) ?_
          exact MO.mk (by subst_vars; simp [oClaim, up2, *]) H Fr.rf
    · have c15 := bI_eq c15
      refine x_iconst (v := (-1)) dX2_addClaim_18 rfl ?_
      refine x_iret dX2_addClaim_19 (Or.inl rfl) rfl (Nat.le_refl _) ?_
      exact MO.mk (by subst_vars; simp [oClaim, up2, *]) H Fr.rf

set_option maxRecDepth 100000 in
set_option maxHeartbeats 4000000 in
theorem t_addProof {st : Nat → Nat} (d : Nat) {z : Nat} {h : Nat → Option va_E} {o : Nat} {σ : Sg} (H : OffAt h o σ) (hL : LOk σ) (hC : COk σ) (x p : Int32) : CT st (d + 2) yX2_addProof cX2_addProof 3 (some .int) [.ref o, .int x, .int p] (z, h) 0 0 (MO (some (.int (oProve σ x p).1)) z o h (oProve σ x p).2) := by
  refine CT.of (lv := [.ref o, .int x, .int p]) (by decide) (Nat.le_of_ble_eq_true rfl) rfl rfl ?_
  refine x_aload_n dX2_addProof_0 rfl ?_
  refine x_get dX2_addProof_1 fX2_25 H.ob rfl ?_
  refine x_iload_n dX2_addProof_4 rfl ?_
  refine c_VR dX2_addProof_5 kX0_exists iX0_exists q372 (t_Cexists _ H.cl _) H.cl.ob rfl rfl rfl (Nat.le_of_ble_eq_true rfl) ⟨Nat.le_refl _, Nat.le_refl _⟩ ?_
  refine x_if_ne (tgt := 13) dX2_addProof_8 (by decide) (fun c8 => ?_) (fun c8 => ?_)
  · have c8 := bI_ne c8
    refine x_iload_n dX2_addProof_13 rfl ?_
    refine x_iconst (v := 1) dX2_addProof_14 rfl ?_
    refine x_icmp_lt (tgt := 24) dX2_addProof_15 (by decide) (fun c15 => ?_) (fun c15 => ?_)
    · refine x_bipush (v := (-2)) dX2_addProof_24 rfl ?_
      refine x_iret dX2_addProof_26 (Or.inl rfl) rfl (Nat.le_refl _) ?_
      exact MO.mk (by subst_vars; simp [oProve, min32, up2, *]) H Fr.rf
    · refine x_iload_n dX2_addProof_18 rfl ?_
      refine x_bipush (v := 100) dX2_addProof_19 rfl ?_
      refine x_icmp_le (tgt := 27) dX2_addProof_21 (by decide) (fun c21 => ?_) (fun c21 => ?_)
      · obtain ⟨j, -, hj, rfl⟩ := ax_ix_of hC.1 hC.2 (Nat.le_of_ble_eq_true rfl) c8
        have hj30 := hC.2
        have hcl := nI_cl (j := j) (by omega)
        refine x_aload_n dX2_addProof_27 rfl ?_
        refine x_get dX2_addProof_28 fX2_25 H.ob rfl ?_
        refine x_iload_n dX2_addProof_31 rfl ?_
        refine c_VR dX2_addProof_32 kX0_isOpen iX0_isOpen q431 (t_isOpen _ H.cl (by omega)) H.cl.ob rfl rfl rfl (Nat.le_of_ble_eq_true rfl) ⟨Nat.le_refl _, Nat.le_refl _⟩ ?_
        refine x_if_ne (tgt := 41) dX2_addProof_35 (by decide) (fun c35 => ?_) (fun c35 => ?_)
        · have c35 := bI_ne c35
          refine x_aload_n dX2_addProof_41 rfl ?_
          refine x_get dX2_addProof_42 fX2_25 H.ob rfl ?_
          refine x_get dX2_addProof_45 fX2_116 H.cl.ob rfl ?_
          refine x_iload_n dX2_addProof_48 rfl ?_
          refine x_bipush (v := 100) dX2_addProof_49 rfl ?_
          refine x_aload_n dX2_addProof_51 rfl ?_
          refine x_get dX2_addProof_52 fX2_25 H.ob rfl ?_
          refine x_get dX2_addProof_55 fX2_116 H.cl.ob rfl ?_
          refine x_iload_n dX2_addProof_58 rfl ?_
          refine e_ald dX2_addProof_59 H.cl.r8 (ax_ixN (j := j) (by omega) (Nat.le_of_ble_eq_true rfl)) ?_
          refine x_iload_n dX2_addProof_60 rfl ?_
          refine x_iadd dX2_addProof_61 ?_
          refine x_min dX2_addProof_62 q497 wMin (Nat.le_of_ble_eq_true rfl) ⟨Nat.le_refl _, Nat.le_refl _⟩ ?_
          refine e_oast (K := 8) dX2_addProof_65 H (Nat.le_of_ble_eq_true rfl) (show ax_ix _ 30 _ from (ax_ixN (j := j) (by omega) (Nat.le_of_ble_eq_true rfl))) (fun h1 hO1 hF1 => ?_)
          refine x_aload_n dX2_addProof_66 rfl ?_
          refine x_get dX2_addProof_67 fX2_25 hO1.ob rfl ?_
          refine x_get dX2_addProof_70 fX2_125 hO1.cl.ob rfl ?_
          refine x_iload_n dX2_addProof_73 rfl ?_
          refine x_iconst (v := 0) dX2_addProof_74 rfl ?_
          refine e_oast (K := 10) dX2_addProof_75 hO1 (Nat.le_of_ble_eq_true rfl) (show ax_ix _ 30 _ from (ax_ixN (j := j) (by omega) (Nat.le_of_ble_eq_true rfl))) (fun h2 hO2 hF2 => ?_)
          refine x_aload_n dX2_addProof_76 rfl ?_
          refine x_get dX2_addProof_77 fX2_25 hO2.ob rfl ?_
          refine x_get dX2_addProof_80 fX2_116 hO2.cl.ob rfl ?_
          refine x_iload_n dX2_addProof_83 rfl ?_
          refine e_ald dX2_addProof_84 hO2.cl.r8 (ax_ixN (j := j) (by omega) (Nat.le_of_ble_eq_true rfl)) ?_
          refine x_iret dX2_addProof_85 (Or.inl rfl) rfl (Nat.le_refl _) ?_
          exact MO.mk (by subst_vars; simp [oProve, min32, up2, *]) hO2 (hF1.tr hF2)
        · have c35 := bI_eq c35
          refine x_bipush (v := (-5)) dX2_addProof_38 rfl ?_
          refine x_iret dX2_addProof_40 (Or.inl rfl) rfl (Nat.le_refl _) ?_
          exact MO.mk (by subst_vars; simp [oProve, min32, up2, *]) H Fr.rf
      · refine x_bipush (v := (-2)) dX2_addProof_24 rfl ?_
        refine x_iret dX2_addProof_26 (Or.inl rfl) rfl (Nat.le_refl _) ?_
        exact MO.mk (by subst_vars; simp [oProve, min32, up2, *]) H Fr.rf
  · have c8 := bI_eq c8
    refine x_iconst (v := (-1)) dX2_addProof_11 rfl ?_
    refine x_iret dX2_addProof_12 (Or.inl rfl) rfl (Nat.le_refl _) ?_
    exact MO.mk (by subst_vars; simp [oProve, min32, up2, *]) H Fr.rf

set_option maxRecDepth 100000 in
set_option maxHeartbeats 4000000 in
theorem t_judge {st : Nat → Nat} (d : Nat) {z : Nat} {h : Nat → Option va_E} {o : Nat} {σ : Sg} (H : OffAt h o σ) (hL : LOk σ) (hC : COk σ) (x : Int32) : CT st (d + 2) yX2_judge cX2_judge 2 (some .int) [.ref o, .int x] (z, h) 0 0 (MO (some (.int (oDecide σ x).1)) z o h (oDecide σ x).2) := by
  refine CT.of (lv := [.ref o, .int x]) (by decide) (Nat.le_of_ble_eq_true rfl) rfl rfl ?_
  refine x_aload_n dX2_judge_0 rfl ?_
  refine x_get dX2_judge_1 fX2_25 H.ob rfl ?_
  refine x_iload_n dX2_judge_4 rfl ?_
  refine c_VR dX2_judge_5 kX0_exists iX0_exists q372 (t_Cexists _ H.cl _) H.cl.ob rfl rfl rfl (Nat.le_of_ble_eq_true rfl) ⟨Nat.le_refl _, Nat.le_refl _⟩ ?_
  refine x_if_ne (tgt := 13) dX2_judge_8 (by decide) (fun c8 => ?_) (fun c8 => ?_)
  · have c8 := bI_ne c8
    obtain ⟨j, -, hj, rfl⟩ := ax_ix_of hC.1 hC.2 (Nat.le_of_ble_eq_true rfl) c8
    have hj30 := hC.2
    have hcl := nI_cl (j := j) (by omega)
    refine x_aload_n dX2_judge_13 rfl ?_
    refine x_get dX2_judge_14 fX2_25 H.ob rfl ?_
    refine x_iload_n dX2_judge_17 rfl ?_
    refine c_VR dX2_judge_18 kX0_isOpen iX0_isOpen q431 (t_isOpen _ H.cl (by omega)) H.cl.ob rfl rfl rfl (Nat.le_of_ble_eq_true rfl) ⟨Nat.le_refl _, Nat.le_refl _⟩ ?_
    refine x_if_ne (tgt := 27) dX2_judge_21 (by decide) (fun c21 => ?_) (fun c21 => ?_)
    · have c21 := bI_ne c21
      refine x_aload_n dX2_judge_27 rfl ?_
      refine x_get dX2_judge_28 fX2_25 H.ob rfl ?_
      refine x_get dX2_judge_31 fX2_128 H.cl.ob rfl ?_
      refine x_iload_n dX2_judge_34 rfl ?_
      refine x_aload_n dX2_judge_35 rfl ?_
      refine x_get dX2_judge_36 fX2_25 H.ob rfl ?_
      refine x_get dX2_judge_39 fX2_116 H.cl.ob rfl ?_
      refine x_iload_n dX2_judge_42 rfl ?_
      refine e_ald dX2_judge_43 H.cl.r8 (ax_ixN (j := j) (by omega) (Nat.le_of_ble_eq_true rfl)) ?_
      refine x_aload_n dX2_judge_44 rfl ?_
      refine x_get dX2_judge_45 fX2_9 H.ob rfl ?_
      refine x_iconst (v := 1) dX2_judge_48 rfl ?_
      refine e_ald dX2_judge_49 H.r0 (ax_ixN (j := 1) (Nat.le_of_ble_eq_true rfl) (Nat.le_of_ble_eq_true rfl)) ?_
      refine x_icmp_lt (tgt := 57) dX2_judge_50 (by decide) (fun c50 => ?_) (fun c50 => ?_)
      · refine x_iconst (v := 2) dX2_judge_57 rfl ?_
        refine e_oast (K := 9) dX2_judge_58 H (Nat.le_of_ble_eq_true rfl) (show ax_ix _ 30 _ from (ax_ixN (j := j) (by omega) (Nat.le_of_ble_eq_true rfl))) (fun h1 hO1 hF1 => ?_)
        refine x_aload_n dX2_judge_59 rfl ?_
        refine x_get dX2_judge_60 fX2_25 hO1.ob rfl ?_
        refine x_get dX2_judge_63 fX2_128 hO1.cl.ob rfl ?_
        refine x_iload_n dX2_judge_66 rfl ?_
        refine e_ald dX2_judge_67 hO1.cl.r9 (ax_ixN (j := j) (by omega) (Nat.le_of_ble_eq_true rfl)) ?_
        refine x_iret dX2_judge_68 (Or.inl rfl) rfl (Nat.le_refl _) ?_
        exact MO.mk (by subst_vars; simp [oDecide, up2, *]) hO1 hF1
      · refine x_iconst (v := 1) dX2_judge_53 rfl ?_
        refine x_goto (tgt := 58) dX2_judge_54 (by decide) ?_
        refine e_oast (K := 9) dX2_judge_58 H (Nat.le_of_ble_eq_true rfl) (show ax_ix _ 30 _ from (ax_ixN (j := j) (by omega) (Nat.le_of_ble_eq_true rfl))) (fun h2 hO2 hF2 => ?_)
        refine x_aload_n dX2_judge_59 rfl ?_
        refine x_get dX2_judge_60 fX2_25 hO2.ob rfl ?_
        refine x_get dX2_judge_63 fX2_128 hO2.cl.ob rfl ?_
        refine x_iload_n dX2_judge_66 rfl ?_
        refine e_ald dX2_judge_67 hO2.cl.r9 (ax_ixN (j := j) (by omega) (Nat.le_of_ble_eq_true rfl)) ?_
        refine x_iret dX2_judge_68 (Or.inl rfl) rfl (Nat.le_refl _) ?_
        exact MO.mk (by subst_vars; simp [oDecide, up2, *]) hO2 hF2
    · have c21 := bI_eq c21
      refine x_bipush (v := (-5)) dX2_judge_24 rfl ?_
      refine x_iret dX2_judge_26 (Or.inl rfl) rfl (Nat.le_refl _) ?_
      exact MO.mk (by subst_vars; simp [oDecide, up2, *]) H Fr.rf
  · have c8 := bI_eq c8
    refine x_iconst (v := (-1)) dX2_judge_11 rfl ?_
    refine x_iret dX2_judge_12 (Or.inl rfl) rfl (Nat.le_refl _) ?_
    exact MO.mk (by subst_vars; simp [oDecide, up2, *]) H Fr.rf

set_option maxRecDepth 100000 in
set_option maxHeartbeats 4000000 in
theorem t_takeBack {st : Nat → Nat} (d : Nat) {z : Nat} {h : Nat → Option va_E} {o : Nat} {σ : Sg} (H : OffAt h o σ) (hL : LOk σ) (hC : COk σ) (x : Int32) : CT st (d + 5) yX2_takeBack cX2_takeBack 2 (some .int) [.ref o, .int x] (z, h) 0 0 (MO (some (.int (oWithdraw σ x).1)) z o h (oWithdraw σ x).2) := by
  refine CT.of (lv := [.ref o, .int x]) (by decide) (Nat.le_of_ble_eq_true rfl) rfl rfl ?_
  refine x_aload_n dX2_takeBack_0 rfl ?_
  refine x_get dX2_takeBack_1 fX2_25 H.ob rfl ?_
  refine x_iload_n dX2_takeBack_4 rfl ?_
  refine c_VR dX2_takeBack_5 kX0_exists iX0_exists q372 (t_Cexists _ H.cl _) H.cl.ob rfl rfl rfl (Nat.le_of_ble_eq_true rfl) ⟨Nat.le_refl _, Nat.le_refl _⟩ ?_
  refine x_if_ne (tgt := 13) dX2_takeBack_8 (by decide) (fun c8 => ?_) (fun c8 => ?_)
  · have c8 := bI_ne c8
    obtain ⟨j, -, hj, rfl⟩ := ax_ix_of hC.1 hC.2 (Nat.le_of_ble_eq_true rfl) c8
    have hj30 := hC.2
    have hcl := nI_cl (j := j) (by omega)
    refine x_aload_n dX2_takeBack_13 rfl ?_
    refine x_get dX2_takeBack_14 fX2_25 H.ob rfl ?_
    refine x_iload_n dX2_takeBack_17 rfl ?_
    refine c_VR dX2_takeBack_18 kX0_stands iX0_stands q514 (t_stands _ H.cl (by omega)) H.cl.ob rfl rfl rfl (Nat.le_of_ble_eq_true rfl) ⟨Nat.le_refl _, Nat.le_refl _⟩ ?_
    refine x_if_ne (tgt := 27) dX2_takeBack_21 (by decide) (fun c21 => ?_) (fun c21 => ?_)
    · have c21 := bI_ne c21
      refine x_aload_n dX2_takeBack_27 rfl ?_
      refine x_get dX2_takeBack_28 fX2_25 H.ob rfl ?_
      refine x_get dX2_takeBack_31 fX2_128 H.cl.ob rfl ?_
      refine x_iload_n dX2_takeBack_34 rfl ?_
      refine x_iconst (v := 3) dX2_takeBack_35 rfl ?_
      refine e_oast (K := 9) dX2_takeBack_36 H (Nat.le_of_ble_eq_true rfl) (show ax_ix _ 30 _ from (ax_ixN (j := j) (by omega) (Nat.le_of_ble_eq_true rfl))) (fun h1 hO1 hF1 => ?_)
      refine x_aload_n dX2_takeBack_37 rfl ?_
      refine x_get dX2_takeBack_38 fX2_25 hO1.ob rfl ?_
      refine x_aload_n dX2_takeBack_41 rfl ?_
      refine x_get dX2_takeBack_42 fX2_25 hO1.ob rfl ?_
      refine x_get dX2_takeBack_45 fX2_100 hO1.cl.ob rfl ?_
      refine x_iload_n dX2_takeBack_48 rfl ?_
      refine e_ald dX2_takeBack_49 hO1.cl.r6 (ax_ixN (j := j) (by omega) (Nat.le_of_ble_eq_true rfl)) ?_
      refine c_VR dX2_takeBack_50 kX0_standingTo iX0_standingTo q321 (t_standingTo _ hO1.cl (hC.to (by simp [up2])).1 _) hO1.cl.ob rfl rfl rfl (Nat.le_of_ble_eq_true rfl) ⟨Nat.le_refl _, Nat.le_refl _⟩ ?_
      refine c_SR dX2_takeBack_53 kJ6_bitCount_0f7a4 q247 q246 (t_bitCount _ _) rfl rfl (Nat.le_of_ble_eq_true rfl) ⟨Nat.le_refl _, Nat.le_refl _⟩ ?_
      refine x_iret dX2_takeBack_56 (Or.inl rfl) rfl (Nat.le_refl _) ?_
      exact MO.mk (by subst_vars; simp [oWithdraw, up2, *]) hO1 hF1
    · have c21 := bI_eq c21
      refine x_bipush (v := (-5)) dX2_takeBack_24 rfl ?_
      refine x_iret dX2_takeBack_26 (Or.inl rfl) rfl (Nat.le_refl _) ?_
      exact MO.mk (by subst_vars; simp [oWithdraw, up2, *]) H Fr.rf
  · have c8 := bI_eq c8
    refine x_iconst (v := (-1)) dX2_takeBack_11 rfl ?_
    refine x_iret dX2_takeBack_12 (Or.inl rfl) rfl (Nat.le_refl _) ?_
    exact MO.mk (by subst_vars; simp [oWithdraw, up2, *]) H Fr.rf

set_option maxRecDepth 100000 in
set_option maxHeartbeats 4000000 in
theorem t_settleClaim {st : Nat → Nat} (d : Nat) {z : Nat} {h : Nat → Option va_E} {o : Nat} {σ : Sg} (H : OffAt h o σ) (hL : LOk σ) (hC : COk σ) (hP : POk σ) {j : Nat} (hj : j < 30) (x : Int32) : CT st (d + 4) yX2_settleClaim cX2_settleClaim 4 none [.ref o, .int (nI j), .int x] (z, h) 0 0 (MO none z o h (sSettleC σ j x)) := by
  refine CT.of (lv := [.ref o, .int (nI j), .int x, .null]) (by decide) (Nat.le_of_ble_eq_true rfl) rfl rfl ?_
  refine x_aload_n dX2_settleClaim_0 rfl ?_
  refine x_get dX2_settleClaim_1 fX2_25 H.ob rfl ?_
  refine x_get dX2_settleClaim_4 fX2_97 H.cl.ob rfl ?_
  refine x_iload_n dX2_settleClaim_7 rfl ?_
  refine e_ald dX2_settleClaim_8 H.cl.r5 (ax_ixN (j := j) (by omega) (Nat.le_of_ble_eq_true rfl)) ?_
  refine e_ist_n (lv' := fun w9 => [.ref o, .int (nI j), .int x, .int w9]) dX2_settleClaim_9 (Nat.le_of_ble_eq_true rfl) rfl (fun _ => rfl) (fun v1 ev1 => ?_)
  refine x_iload_n dX2_settleClaim_10 rfl ?_
  refine x_if_le (tgt := 51) dX2_settleClaim_11 (by decide) (fun c11 => ?_) (fun c11 => ?_)
  · refine x_aload_n dX2_settleClaim_51 rfl ?_
    refine x_get dX2_settleClaim_52 fX2_25 H.ob rfl ?_
    refine x_get dX2_settleClaim_55 fX2_162 H.cl.ob rfl ?_
    refine x_iload_n dX2_settleClaim_58 rfl ?_
    refine x_iload_n dX2_settleClaim_59 rfl ?_
    refine e_oast (K := 11) dX2_settleClaim_60 H (Nat.le_of_ble_eq_true rfl) (show ax_ix _ 30 _ from (ax_ixN (j := j) (by omega) (Nat.le_of_ble_eq_true rfl))) (fun h2 hO2 hF2 => ?_)
    refine x_aload_n dX2_settleClaim_61 rfl ?_
    refine x_get dX2_settleClaim_62 fX2_25 hO2.ob rfl ?_
    refine x_get dX2_settleClaim_65 fX2_128 hO2.cl.ob rfl ?_
    refine x_iload_n dX2_settleClaim_68 rfl ?_
    refine x_iconst (v := 5) dX2_settleClaim_69 rfl ?_
    refine e_oast (K := 9) dX2_settleClaim_70 hO2 (Nat.le_of_ble_eq_true rfl) (show ax_ix _ 30 _ from (ax_ixN (j := j) (by omega) (Nat.le_of_ble_eq_true rfl))) (fun h3 hO3 hF3 => ?_)
    refine x_vret dX2_settleClaim_71 rfl rfl (Nat.le_refl _) ?_
    exact MO.mkn (by subst_vars; have u1 : ∀ v, up2 σ 12 (nPd σ) v 13 2 = σ 13 2 := fun v => up2_k v (by decide); simp [sSettleC, sPayO, *]) hO3 (hF2.tr hF3)
  · refine x_aload_n dX2_settleClaim_14 rfl ?_
    refine x_iload_n dX2_settleClaim_15 rfl ?_
    refine c_VR dX2_settleClaim_16 kX2_purse iX2_purse q351 (t_purse _ H hL hC _) H.ob rfl rfl rfl (Nat.le_of_ble_eq_true rfl) ⟨Nat.le_refl _, Nat.le_refl _⟩ ?_
    refine x_if_ne (tgt := 51) dX2_settleClaim_19 (by decide) (fun c19 => ?_) (fun c19 => ?_)
    · refine x_aload_n dX2_settleClaim_51 rfl ?_
      refine x_get dX2_settleClaim_52 fX2_25 H.ob rfl ?_
      refine x_get dX2_settleClaim_55 fX2_162 H.cl.ob rfl ?_
      refine x_iload_n dX2_settleClaim_58 rfl ?_
      refine x_iload_n dX2_settleClaim_59 rfl ?_
      refine e_oast (K := 11) dX2_settleClaim_60 H (Nat.le_of_ble_eq_true rfl) (show ax_ix _ 30 _ from (ax_ixN (j := j) (by omega) (Nat.le_of_ble_eq_true rfl))) (fun h4 hO4 hF4 => ?_)
      refine x_aload_n dX2_settleClaim_61 rfl ?_
      refine x_get dX2_settleClaim_62 fX2_25 hO4.ob rfl ?_
      refine x_get dX2_settleClaim_65 fX2_128 hO4.cl.ob rfl ?_
      refine x_iload_n dX2_settleClaim_68 rfl ?_
      refine x_iconst (v := 5) dX2_settleClaim_69 rfl ?_
      refine e_oast (K := 9) dX2_settleClaim_70 hO4 (Nat.le_of_ble_eq_true rfl) (show ax_ix _ 30 _ from (ax_ixN (j := j) (by omega) (Nat.le_of_ble_eq_true rfl))) (fun h5 hO5 hF5 => ?_)
      refine x_vret dX2_settleClaim_71 rfl rfl (Nat.le_refl _) ?_
      exact MO.mkn (by subst_vars; have u1 : ∀ v, up2 σ 12 (nPd σ) v 13 2 = σ 13 2 := fun v => up2_k v (by decide); simp [sSettleC, sPayO, *]) hO5 (hF4.tr hF5)
    · refine x_aload_n dX2_settleClaim_22 rfl ?_
      refine x_get dX2_settleClaim_23 fX2_32 H.ob rfl ?_
      refine x_bipush (v := 16) dX2_settleClaim_26 rfl ?_
      refine x_icmp_ge (tgt := 51) dX2_settleClaim_28 (by decide) (fun c28 => ?_) (fun c28 => ?_)
      · refine x_aload_n dX2_settleClaim_51 rfl ?_
        refine x_get dX2_settleClaim_52 fX2_25 H.ob rfl ?_
        refine x_get dX2_settleClaim_55 fX2_162 H.cl.ob rfl ?_
        refine x_iload_n dX2_settleClaim_58 rfl ?_
        refine x_iload_n dX2_settleClaim_59 rfl ?_
        refine e_oast (K := 11) dX2_settleClaim_60 H (Nat.le_of_ble_eq_true rfl) (show ax_ix _ 30 _ from (ax_ixN (j := j) (by omega) (Nat.le_of_ble_eq_true rfl))) (fun h6 hO6 hF6 => ?_)
        refine x_aload_n dX2_settleClaim_61 rfl ?_
        refine x_get dX2_settleClaim_62 fX2_25 hO6.ob rfl ?_
        refine x_get dX2_settleClaim_65 fX2_128 hO6.cl.ob rfl ?_
        refine x_iload_n dX2_settleClaim_68 rfl ?_
        refine x_iconst (v := 5) dX2_settleClaim_69 rfl ?_
        refine e_oast (K := 9) dX2_settleClaim_70 hO6 (Nat.le_of_ble_eq_true rfl) (show ax_ix _ 30 _ from (ax_ixN (j := j) (by omega) (Nat.le_of_ble_eq_true rfl))) (fun h7 hO7 hF7 => ?_)
        refine x_vret dX2_settleClaim_71 rfl rfl (Nat.le_refl _) ?_
        exact MO.mkn (by subst_vars; have u1 : ∀ v, up2 σ 12 (nPd σ) v 13 2 = σ 13 2 := fun v => up2_k v (by decide); simp [sSettleC, sPayO, *]) hO7 (hF6.tr hF7)
      · refine x_aload_n dX2_settleClaim_31 rfl ?_
        refine x_get dX2_settleClaim_32 fX2_29 H.ob rfl ?_
        refine x_aload_n dX2_settleClaim_35 rfl ?_
        refine x_get dX2_settleClaim_36 fX2_32 H.ob rfl ?_
        refine x_iload_n dX2_settleClaim_39 rfl ?_
        refine e_oast (K := 12) dX2_settleClaim_40 H (Nat.le_of_ble_eq_true rfl) (show ax_ix _ 16 _ from (by rw [hP.1]; exact ax_ixN (j := nPd σ) (cnt_lt (M := 16) hP.1 hP.2 (by decide) (Int32.not_le.mp c28)) (Nat.le_of_ble_eq_true rfl))) (fun h8 hO8 hF8 => ?_)
        refine x_aload_n dX2_settleClaim_41 rfl ?_
        refine x_dup dX2_settleClaim_42 rfl ?_
        refine x_get dX2_settleClaim_43 fX2_32 hO8.ob rfl ?_
        refine x_iconst (v := 1) dX2_settleClaim_46 rfl ?_
        refine x_iadd dX2_settleClaim_47 ?_
        refine e_oput (j := 4) dX2_settleClaim_48 (Or.inl rfl) fX2_32 hO8 (fun h9 hO9 hF9 => ?_)
        refine x_aload_n dX2_settleClaim_51 rfl ?_
        refine x_get dX2_settleClaim_52 fX2_25 hO9.ob rfl ?_
        refine x_get dX2_settleClaim_55 fX2_162 hO9.cl.ob rfl ?_
        refine x_iload_n dX2_settleClaim_58 rfl ?_
        refine x_iload_n dX2_settleClaim_59 rfl ?_
        refine e_oast (K := 11) dX2_settleClaim_60 hO9 (Nat.le_of_ble_eq_true rfl) (show ax_ix _ 30 _ from (ax_ixN (j := j) (by omega) (Nat.le_of_ble_eq_true rfl))) (fun h10 hO10 hF10 => ?_)
        refine x_aload_n dX2_settleClaim_61 rfl ?_
        refine x_get dX2_settleClaim_62 fX2_25 hO10.ob rfl ?_
        refine x_get dX2_settleClaim_65 fX2_128 hO10.cl.ob rfl ?_
        refine x_iload_n dX2_settleClaim_68 rfl ?_
        refine x_iconst (v := 5) dX2_settleClaim_69 rfl ?_
        refine e_oast (K := 9) dX2_settleClaim_70 hO10 (Nat.le_of_ble_eq_true rfl) (show ax_ix _ 30 _ from (ax_ixN (j := j) (by omega) (Nat.le_of_ble_eq_true rfl))) (fun h11 hO11 hF11 => ?_)
        refine x_vret dX2_settleClaim_71 rfl rfl (Nat.le_refl _) ?_
        exact MO.mkn (by subst_vars; have u1 : ∀ v, up2 σ 12 (nPd σ) v 13 2 = σ 13 2 := fun v => up2_k v (by decide); simp [sSettleC, sPayO, *]) hO11 (((hF8.tr hF9).tr hF10).tr hF11)

set_option maxRecDepth 100000 in
set_option maxHeartbeats 4000000 in
theorem t_leaveOffice {st : Nat → Nat} (d : Nat) {z : Nat} {h : Nat → Option va_E} {o : Nat} {σ : Sg} (H : OffAt h o σ) (hL : LOk σ) (hC : COk σ) {j : Nat} (hj : j < 12) (x : Int32) : CT st (d + 1) yX2_leaveOffice cX2_leaveOffice 3 none [.ref o, .int (nI j), .int x] (z, h) 0 0 (MO none z o h (sLeave σ j x)) := by
  refine CT.of (lv := [.ref o, .int (nI j), .int x]) (by decide) (Nat.le_of_ble_eq_true rfl) rfl rfl ?_
  refine x_aload_n dX2_leaveOffice_0 rfl ?_
  refine x_get dX2_leaveOffice_1 fX2_18 H.ob rfl ?_
  refine x_get dX2_leaveOffice_4 fX2_72 H.lo.ob rfl ?_
  refine x_iload_n dX2_leaveOffice_7 rfl ?_
  refine e_ald dX2_leaveOffice_8 H.lo.r2 (ax_ixN (j := j) (by omega) (Nat.le_of_ble_eq_true rfl)) ?_
  refine x_iconst (v := 3) dX2_leaveOffice_9 rfl ?_
  refine x_icmp_ne (tgt := 36) dX2_leaveOffice_10 (by decide) (fun c10 => ?_) (fun c10 => ?_)
  · refine x_aload_n dX2_leaveOffice_36 rfl ?_
    refine x_get dX2_leaveOffice_37 fX2_18 H.ob rfl ?_
    refine x_get dX2_leaveOffice_40 fX2_72 H.lo.ob rfl ?_
    refine x_iload_n dX2_leaveOffice_43 rfl ?_
    refine x_iconst (v := 2) dX2_leaveOffice_44 rfl ?_
    refine e_oast (K := 2) dX2_leaveOffice_45 H (Nat.le_of_ble_eq_true rfl) (show ax_ix _ 12 _ from (ax_ixN (j := j) (by omega) (Nat.le_of_ble_eq_true rfl))) (fun h1 hO1 hF1 => ?_)
    refine x_vret dX2_leaveOffice_46 rfl rfl (Nat.le_refl _) ?_
    exact MO.mkn (by subst_vars; simp [sLeave, *]) hO1 hF1
  · refine x_aload_n dX2_leaveOffice_13 rfl ?_
    refine x_dup dX2_leaveOffice_14 rfl ?_
    refine x_get dX2_leaveOffice_15 fX2_36 H.ob rfl ?_
    refine x_iload_n dX2_leaveOffice_18 rfl ?_
    refine x_isub dX2_leaveOffice_19 ?_
    refine e_oput (j := 5) dX2_leaveOffice_20 (Or.inr (Or.inl rfl)) fX2_36 H (fun h2 hO2 hF2 => ?_)
    refine x_aload_n dX2_leaveOffice_23 rfl ?_
    refine x_get dX2_leaveOffice_24 fX2_18 hO2.ob rfl ?_
    refine x_get dX2_leaveOffice_27 fX2_72 hO2.lo.ob rfl ?_
    refine x_iload_n dX2_leaveOffice_30 rfl ?_
    refine x_iconst (v := 4) dX2_leaveOffice_31 rfl ?_
    refine e_oast (K := 2) dX2_leaveOffice_32 hO2 (Nat.le_of_ble_eq_true rfl) (show ax_ix _ 12 _ from (ax_ixN (j := j) (by omega) (Nat.le_of_ble_eq_true rfl))) (fun h3 hO3 hF3 => ?_)
    refine x_goto (tgt := 46) dX2_leaveOffice_33 (by decide) ?_
    refine x_vret dX2_leaveOffice_46 rfl rfl (Nat.le_refl _) ?_
    exact MO.mkn (by subst_vars; simp [sLeave, *]) hO3 (hF2.tr hF3)

set_option maxRecDepth 100000 in
set_option maxHeartbeats 4000000 in
theorem L_shareOut {st : Nat → Nat} (d : Nat) {z : Nat} {h : Nat → Option va_E} {o : Nat} {σ : Sg} {up cs sh : Int32} {j : Nat} {τ : Sg} (hj : j < 12) (hn : nCl σ ≤ 30) (hL : LOk σ) (hC : COk σ) : ∀ (k : Nat) (i : Nat) (σ1 : Sg) (hq1 : Nat → Option va_E), i + k = nCl σ → OffAt hq1 o σ1 → Fr o 16 h hq1 → σ1 13 0 = σ 13 0 → σ1 13 1 = σ 13 1 → POk σ1 → lp (shareF up cs sh) i k σ1 = τ → Ev st (d + 5) yX2_shareOut cX2_shareOut 6 (some .int) (z, h) 0 0 (MO (some (.int (sBit sh))) z o h (sLeave τ j cs)) 70 [.ref o, .int (nI j), .int up, .int cs, .int sh, .int (nI i)] [] (z, hq1) 0 0 := by
  intro k
  induction k with
  | zero =>
    intro i σ1 hq1 hik HQ1 hFQ k0 k1 hP1 hR
    refine x_iload dX2_shareOut_70 rfl ?_
    refine x_aload_n dX2_shareOut_72 rfl ?_
    refine x_get dX2_shareOut_73 fX2_25 HQ1.ob rfl ?_
    refine x_get dX2_shareOut_76 fX2_96 HQ1.cl.ob rfl ?_
    rw [k1, hC.1]
    refine x_icmp_ge (tgt := 113) dX2_shareOut_79 (by decide) (fun c79 => ?_) (fun c79 => absurd (nI_le (a := nCl σ) (b := i) (by omega) (by omega)) c79)
    refine x_aload_n dX2_shareOut_113 rfl ?_
    refine x_iload_n dX2_shareOut_114 rfl ?_
    refine x_iload_n dX2_shareOut_115 rfl ?_
    refine c_VMn dX2_shareOut_116 kX2_leaveOffice iX2_leaveOffice q542 (t_leaveOffice _ HQ1 (hL.to k0).1 (hC.to k1).1 hj _) HQ1.ob rfl rfl rfl (Nat.le_of_ble_eq_true rfl) ⟨Nat.le_refl _, Nat.le_refl _⟩ (fun h1 hO1 hF1 => ?_)
    refine x_iload dX2_shareOut_119 rfl ?_
    refine c_SR dX2_shareOut_121 kJ6_bitCount_0f7a4 q247 q246 (t_bitCount _ _) rfl rfl (Nat.le_of_ble_eq_true rfl) ⟨Nat.le_refl _, Nat.le_refl _⟩ ?_
    refine x_iret dX2_shareOut_124 (Or.inl rfl) rfl (Nat.le_refl _) ?_
    exact ⟨rfl, _, rfl, hR ▸ hO1, hFQ.tr hF1⟩
  | succ k ih =>
    intro i σ1 hq1 hik HQ1 hFQ k0 k1 hP1 hR
    refine x_iload dX2_shareOut_70 rfl ?_
    refine x_aload_n dX2_shareOut_72 rfl ?_
    refine x_get dX2_shareOut_73 fX2_25 HQ1.ob rfl ?_
    refine x_get dX2_shareOut_76 fX2_96 HQ1.cl.ob rfl ?_
    rw [k1, hC.1]
    refine x_icmp_ge (tgt := 113) dX2_shareOut_79 (by decide) (fun c79 => absurd c79 (nI_ge (a := i) (b := nCl σ) (by omega) (by omega))) (fun c79 => ?_)
    refine x_iload_n dX2_shareOut_82 rfl ?_
    refine x_iload dX2_shareOut_83 rfl ?_
    refine c_NR dX2_shareOut_85 kX4_holds q227 q403 (t_holds _ _ _) rfl rfl (Nat.le_of_ble_eq_true rfl) ⟨Nat.le_refl _, Nat.le_refl _⟩ ?_
    refine x_if_eq (tgt := 107) dX2_shareOut_88 (by decide) (fun c88 => ?_) (fun c88 => ?_)
    · have c88 := bI_eq c88
      refine e_inc (lv' := fun w9 => [.ref o, .int (nI j), .int up, .int cs, .int sh, .int w9]) dX2_shareOut_107 rfl rfl (fun _ => rfl) (fun v1 ev1 => ?_)
      refine x_goto (tgt := 70) dX2_shareOut_110 (by decide) ?_
      obtain rfl := inc1 ev1
      exact ih (i + 1) σ1 hq1 (by omega) HQ1 hFQ k0 k1 hP1 (by rw [← hR, lp_s, show shareF up cs sh i σ1 = σ1 from if_neg (by rw [c88]; decide)])
    · have c88 := bI_ne c88
      refine x_aload_n dX2_shareOut_91 rfl ?_
      refine x_iload dX2_shareOut_92 rfl ?_
      refine x_iload_n dX2_shareOut_94 rfl ?_
      refine x_iload dX2_shareOut_95 rfl ?_
      refine x_iconst (v := 1) dX2_shareOut_97 rfl ?_
      refine x_iload dX2_shareOut_98 rfl ?_
      refine x_ishl dX2_shareOut_100 ?_
      refine c_SR dX2_shareOut_101 kX2_part q536 q535 (t_part _ _ _ _) rfl rfl (Nat.le_of_ble_eq_true rfl) ⟨Nat.le_refl _, Nat.le_refl _⟩ ?_
      refine c_VMn dX2_shareOut_104 kX2_settleClaim iX2_settleClaim q538 (t_settleClaim _ HQ1 (hL.to k0).1 (hC.to k1).1 hP1 (by omega) _) HQ1.ob rfl rfl rfl (Nat.le_of_ble_eq_true rfl) ⟨Nat.le_refl _, Nat.le_refl _⟩ (fun h2 hO2 hF2 => ?_)
      refine e_inc (lv' := fun w9 => [.ref o, .int (nI j), .int up, .int cs, .int sh, .int w9]) dX2_shareOut_107 rfl rfl (fun _ => rfl) (fun v3 ev3 => ?_)
      refine x_goto (tgt := 70) dX2_shareOut_110 (by decide) ?_
      obtain rfl := inc1 ev3
      have kk := sSettleC_keep σ1 i (sPart cs sh (bit i)) hP1
      exact ih (i + 1) _ _ (by omega) hO2 (hFQ.tr hF2) (kk.1.trans k0) (kk.2.1.trans k1) kk.2.2 (by rw [← hR, lp_s, show shareF up cs sh i σ1 = _ from if_pos c88]; rfl)

set_option maxRecDepth 100000 in
set_option maxHeartbeats 4000000 in
theorem t_shareOut {st : Nat → Nat} (d : Nat) {z : Nat} {h : Nat → Option va_E} {o : Nat} {σ : Sg} (H : OffAt h o σ) (hL : LOk σ) (hC : COk σ) (hP : POk σ) (x : Int32) : CT st (d + 5) yX2_shareOut cX2_shareOut 6 (some .int) [.ref o, .int x] (z, h) 0 0 (MO (some (.int (oSettle σ x).1)) z o h (oSettle σ x).2) := by
  refine CT.of (lv := [.ref o, .int x, .null, .null, .null, .null]) (by decide) (Nat.le_of_ble_eq_true rfl) rfl rfl ?_
  refine x_aload_n dX2_shareOut_0 rfl ?_
  refine x_get dX2_shareOut_1 fX2_18 H.ob rfl ?_
  refine x_iload_n dX2_shareOut_4 rfl ?_
  refine c_VR dX2_shareOut_5 kX1_exists iX1_exists q317 (t_Lexists _ H.lo _) H.lo.ob rfl rfl rfl (Nat.le_of_ble_eq_true rfl) ⟨Nat.le_refl _, Nat.le_refl _⟩ ?_
  refine x_if_ne (tgt := 13) dX2_shareOut_8 (by decide) (fun c8 => ?_) (fun c8 => ?_)
  · have c8 := bI_ne c8
    obtain ⟨j, -, hj, rfl⟩ := ax_ix_of hL.1 hL.2 (Nat.le_of_ble_eq_true rfl) c8
    have hj12 := hL.2
    have hcl := nI_cl (j := j) (by omega)
    refine x_aload_n dX2_shareOut_13 rfl ?_
    refine x_get dX2_shareOut_14 fX2_25 H.ob rfl ?_
    refine x_iload_n dX2_shareOut_17 rfl ?_
    refine c_VR dX2_shareOut_18 kX0_upheldTo iX0_upheldTo q331 (t_upheldTo _ H.cl hC _) H.cl.ob rfl rfl rfl (Nat.le_of_ble_eq_true rfl) ⟨Nat.le_refl _, Nat.le_refl _⟩ ?_
    refine e_ist_n (lv' := fun w9 => [.ref o, .int (nI j), .int w9, .null, .null, .null]) dX2_shareOut_21 (Nat.le_of_ble_eq_true rfl) rfl (fun _ => rfl) (fun v1 ev1 => ?_)
    refine x_aload_n dX2_shareOut_22 rfl ?_
    refine x_get dX2_shareOut_23 fX2_18 H.ob rfl ?_
    refine x_iload_n dX2_shareOut_26 rfl ?_
    refine c_VR dX2_shareOut_27 kX1_isOver iX1_isOver q485 (t_isOver _ H.lo (by omega)) H.lo.ob rfl rfl rfl (Nat.le_of_ble_eq_true rfl) ⟨Nat.le_refl _, Nat.le_refl _⟩ ?_
    refine x_if_ne (tgt := 48) dX2_shareOut_30 (by decide) (fun c30 => ?_) (fun c30 => ?_)
    · have c30 := bI_ne c30
      refine x_bipush (v := (-5)) dX2_shareOut_48 rfl ?_
      refine x_iret dX2_shareOut_50 (Or.inl rfl) rfl (Nat.le_refl _) ?_
      exact MO.mk (by subst_vars; simp [oSettle, *]) H Fr.rf
    · have c30 := bI_eq c30
      refine x_aload_n dX2_shareOut_33 rfl ?_
      refine x_get dX2_shareOut_34 fX2_25 H.ob rfl ?_
      refine x_iload_n dX2_shareOut_37 rfl ?_
      refine c_VR dX2_shareOut_38 kX0_openTo iX0_openTo q387 (t_openTo _ H.cl hC _) H.cl.ob rfl rfl rfl (Nat.le_of_ble_eq_true rfl) ⟨Nat.le_refl _, Nat.le_refl _⟩ ?_
      refine x_if_ne (tgt := 48) dX2_shareOut_41 (by decide) (fun c41 => ?_) (fun c41 => ?_)
      · refine x_bipush (v := (-5)) dX2_shareOut_48 rfl ?_
        refine x_iret dX2_shareOut_50 (Or.inl rfl) rfl (Nat.le_refl _) ?_
        exact MO.mk (by subst_vars; simp [oSettle, *]) H Fr.rf
      · refine x_iload_n dX2_shareOut_44 rfl ?_
        refine x_if_ne (tgt := 51) dX2_shareOut_45 (by decide) (fun c45 => ?_) (fun c45 => ?_)
        · refine x_aload_n dX2_shareOut_51 rfl ?_
          refine x_iload_n dX2_shareOut_52 rfl ?_
          refine c_VR dX2_shareOut_53 kX2_coinsToShare iX2_coinsToShare q526 (t_coinsToShare _ H hL hC (by omega)) H.ob rfl rfl rfl (Nat.le_of_ble_eq_true rfl) ⟨Nat.le_refl _, Nat.le_refl _⟩ ?_
          refine e_ist_n (lv' := fun w9 => [.ref o, .int (nI j), .int v1, .int w9, .null, .null]) dX2_shareOut_56 (Nat.le_of_ble_eq_true rfl) rfl (fun _ => rfl) (fun v2 ev2 => ?_)
          refine x_aload_n dX2_shareOut_57 rfl ?_
          refine x_get dX2_shareOut_58 fX2_25 H.ob rfl ?_
          refine x_iload_n dX2_shareOut_61 rfl ?_
          refine c_VR dX2_shareOut_62 kX0_nearest iX0_nearest q530 (t_nearest _ H.cl hC _) H.cl.ob rfl rfl rfl (Nat.le_of_ble_eq_true rfl) ⟨Nat.le_refl _, Nat.le_refl _⟩ ?_
          refine e_ist (lv' := fun w9 => [.ref o, .int (nI j), .int v1, .int v2, .int w9, .null]) dX2_shareOut_65 (Nat.le_of_ble_eq_true rfl) rfl (fun _ => rfl) (fun v3 ev3 => ?_)
          refine x_iconst (v := 0) dX2_shareOut_67 rfl ?_
          refine e_ist (lv' := fun w9 => [.ref o, .int (nI j), .int v1, .int v2, .int v3, .int w9]) dX2_shareOut_68 (Nat.le_of_ble_eq_true rfl) rfl (fun _ => rfl) (fun v4 ev4 => ?_)
          subst ev4 ev3 ev2 ev1
          have hcC := hC.2
          have e : oSettle σ (nI j) = (sBit (cNearest σ (cUpTo σ (nI j))), sLeave (lp (shareF (cUpTo σ (nI j)) (sCoins σ j) (cNearest σ (cUpTo σ (nI j)))) 0 (nCl σ) σ) j (sCoins σ j)) := by simp [oSettle, *]
          rw [e]
          exact L_shareOut d (by omega) hC.2 hL hC (nCl σ) 0 σ h (by omega) H Fr.rf rfl rfl hP rfl
        · refine x_bipush (v := (-5)) dX2_shareOut_48 rfl ?_
          refine x_iret dX2_shareOut_50 (Or.inl rfl) rfl (Nat.le_refl _) ?_
          exact MO.mk (by subst_vars; simp [oSettle, *]) H Fr.rf
  · have c8 := bI_eq c8
    refine x_iconst (v := (-1)) dX2_shareOut_11 rfl ?_
    refine x_iret dX2_shareOut_12 (Or.inl rfl) rfl (Nat.le_refl _) ?_
    exact MO.mk (by subst_vars; simp [oSettle, *]) H Fr.rf
