theorem oFalls_n {σ : Sg} {i : Nat} (hi : i < 2 ^ 31) (hx : sExists (σ 13 0) (nI i) = true) (h : ¬ σ 2 i = 1) : oFalls σ (nI i) = -5 := by
  unfold oFalls
  rw [if_pos hx]
  dsimp only
  rw [nI_cl hi, if_neg h]
theorem sEx_of {n : Int32} {N i : Nat} (hn : n = nI N) (hi : i < N) (hN : N < 2 ^ 31) : sExists n (nI i) = true := by
  unfold sExists
  subst hn
  rw [decide_eq_false (nI_pos (by omega)), decide_eq_false (nI_ge hi hN)]
  rfl
set_option maxRecDepth 100000 in
set_option maxHeartbeats 4000000 in
theorem D44 {st : Nat → Nat} (d : Nat) {z : Nat} {h : Nat → Option va_E} {m : Nat} {ζ : Sg} {n nv : Nat} {G S : Nat → Sg} {sv tx : Nat → Int32} {ty sp : Int32} {tl : Nat → Int32} {tm : Int32} {τ : Sg} {h1 : Nat → Option va_E} (hM : MAt h1 m τ n nv G S sv tx ty sp tl tm) (hsp : RwAt h1 0 (m + 2) 300 (encZ ζ)) (hF : Fr m 8 h h1) {j : Nat} (hj : j < 12) (i : Nat) (w3 : Value) : Ev st (d + 6) yX5_daysToFall cX5_daysToFall 4 (some .int) (z, h) 0 0 (MMO (some (.int (if τ 2 j = 3 then nI i else -6))) z m h ζ n nv G S sv tx ty sp tl tm) 44 [.ref m, .int (nI j), .int (nI i), w3] [] (z, h1) 0 0 := by
  refine x_aload_n dX5_daysToFall_44 rfl ?_
  refine x_iload_n dX5_daysToFall_45 rfl ?_
  refine x_iconst (v := 1) dX5_daysToFall_46 rfl ?_
  refine c_VR dX5_daysToFall_47 kX5_lotOf iX5_lotOf q777 (t_lotOf _ hM.z (a := (nI j)) (j := j) (b := 1) (w := 1) (2) rfl (by omega) rfl (by decide) rfl) hM.z.ob rfl rfl rfl (Nat.le_of_ble_eq_true rfl) ⟨Nat.le_refl _, Nat.le_refl _⟩ ?_
  refine x_iconst (v := 3) dX5_daysToFall_50 rfl ?_
  refine x_icmp_ne (tgt := 58) dX5_daysToFall_51 (by decide) (fun c51 => ?_) (fun c51 => ?_)
  · refine x_iconst (v := 0) dX5_daysToFall_58 rfl ?_
    refine e_ist_n (lv' := fun w9 => [.ref m, .int (nI j), .int (nI i), .int w9]) dX5_daysToFall_59 (Nat.le_of_ble_eq_true rfl) rfl (fun _ => rfl) (fun v1 ev1 => ?_)
    subst ev1
    refine x_aload_n dX5_daysToFall_60 rfl ?_
    refine x_get dX5_daysToFall_61 fX5_13 hM.ob rfl ?_
    refine x_iconst (v := 0) dX5_daysToFall_64 rfl ?_
    refine x_aload_n dX5_daysToFall_65 rfl ?_
    refine x_get dX5_daysToFall_66 fX5_7 hM.ob rfl ?_
    refine x_iconst (v := 0) dX5_daysToFall_69 rfl ?_
    refine c_SCO dX5_daysToFall_70 kX5_copyState q725 q724 (t_copyState _ (fa := 0) (ta := 0) hsp hM.zr rfl rfl (by omega) (by omega) (by decide) (by decide) (by omega)) rfl rfl (Nat.le_of_ble_eq_true rfl) ⟨Nat.le_refl _, Nat.le_refl _⟩ (fun h2 hR2 he2 => ?_)
    have hM2 := hM.setZr (ζ' := ζ) (hR2.to fun i hi => by rw [show i = 0 + i by omega, cpy_in _ _ _ _ hi, Nat.zero_add]) he2
    have hG2 : Fr m 8 _ h2 := fun q hq => he2 q (by omega)
    refine x_iload_n dX5_daysToFall_73 rfl ?_
    refine x_if_eq (tgt := 81) dX5_daysToFall_74 (by decide) (fun _ => ?_) (fun c74 => absurd c74 (by decide))
    refine x_bipush (v := (-6)) dX5_daysToFall_81 rfl ?_
    refine x_iret dX5_daysToFall_83 (Or.inl rfl) rfl (Nat.le_refl _) ?_
    exact ⟨by simp [c51], _, rfl, hM2, (hF.tr hG2)⟩
  · refine x_iconst (v := 1) dX5_daysToFall_54 rfl ?_
    refine x_goto (tgt := 59) dX5_daysToFall_55 (by decide) ?_
    refine e_ist_n (lv' := fun w9 => [.ref m, .int (nI j), .int (nI i), .int w9]) dX5_daysToFall_59 (Nat.le_of_ble_eq_true rfl) rfl (fun _ => rfl) (fun v3 ev3 => ?_)
    subst ev3
    refine x_aload_n dX5_daysToFall_60 rfl ?_
    refine x_get dX5_daysToFall_61 fX5_13 hM.ob rfl ?_
    refine x_iconst (v := 0) dX5_daysToFall_64 rfl ?_
    refine x_aload_n dX5_daysToFall_65 rfl ?_
    refine x_get dX5_daysToFall_66 fX5_7 hM.ob rfl ?_
    refine x_iconst (v := 0) dX5_daysToFall_69 rfl ?_
    refine c_SCO dX5_daysToFall_70 kX5_copyState q725 q724 (t_copyState _ (fa := 0) (ta := 0) hsp hM.zr rfl rfl (by omega) (by omega) (by decide) (by decide) (by omega)) rfl rfl (Nat.le_of_ble_eq_true rfl) ⟨Nat.le_refl _, Nat.le_refl _⟩ (fun h4 hR4 he4 => ?_)
    have hM4 := hM.setZr (ζ' := ζ) (hR4.to fun i hi => by rw [show i = 0 + i by omega, cpy_in _ _ _ _ hi, Nat.zero_add]) he4
    have hG4 : Fr m 8 _ h4 := fun q hq => he4 q (by omega)
    refine x_iload_n dX5_daysToFall_73 rfl ?_
    refine x_if_eq (tgt := 81) dX5_daysToFall_74 (by decide) (fun c74 => absurd c74 (by decide)) (fun _ => ?_)
    refine x_iload_n dX5_daysToFall_77 rfl ?_
    refine x_goto (tgt := 83) dX5_daysToFall_78 (by decide) ?_
    refine x_iret dX5_daysToFall_83 (Or.inl rfl) rfl (Nat.le_refl _) ?_
    exact ⟨by simp [c51], _, rfl, hM4, (hF.tr hG4)⟩

set_option maxRecDepth 100000 in
set_option maxHeartbeats 4000000 in
theorem L_daysToFall {st : Nat → Nat} (d : Nat) {z : Nat} {h : Nat → Option va_E} {m : Nat} {ζ : Sg} {n nv : Nat} {G S : Nat → Sg} {sv tx : Nat → Int32} {ty sp : Int32} {tl : Nat → Int32} {tm : Int32} (hC : COk ζ) {j : Nat} (hj : j < 12) (w3 : Value) : ∀ (k : Nat) (i : Nat) (τ : Sg) (hq1 : Nat → Option va_E), i + k = 700 → MAt hq1 m τ n nv G S sv tx ty sp tl tm → RwAt hq1 0 (m + 2) 300 (encZ ζ) → Fr m 8 h hq1 → τ 13 1 = ζ 13 1 → Ev st (d + 6) yX5_daysToFall cX5_daysToFall 4 (some .int) (z, h) 0 0 (MMO (some (.int (if (mRun j k i τ).2 2 j = 3 then nI (mRun j k i τ).1 else -6))) z m h ζ n nv G S sv tx ty sp tl tm) 15 [.ref m, .int (nI j), .int (nI i), w3] [] (z, hq1) 0 0 := by
  intro k
  induction k with
  | zero =>
    intro i τ hq1 hik HQ1 hsp hFQ k1
    refine x_iload_n dX5_daysToFall_15 rfl ?_
    refine x_sipush (v := 700) dX5_daysToFall_16 rfl ?_
    refine x_icmp_ge (tgt := 44) dX5_daysToFall_19 (by decide) (fun c19 => ?_) (fun c19 => absurd (nI_le (a := 700) (b := i) (by omega) (by omega)) c19)
    rw [mRun]
    exact D44 d HQ1 hsp hFQ hj i w3
  | succ k ih =>
    intro i τ hq1 hik HQ1 hsp hFQ k1
    refine x_iload_n dX5_daysToFall_15 rfl ?_
    refine x_sipush (v := 700) dX5_daysToFall_16 rfl ?_
    refine x_icmp_ge (tgt := 44) dX5_daysToFall_19 (by decide) (fun c19 => absurd c19 (nI_ge (a := i) (b := 700) (by omega) (by omega))) (fun c19 => ?_)
    refine x_aload_n dX5_daysToFall_22 rfl ?_
    refine x_iload_n dX5_daysToFall_23 rfl ?_
    refine x_iconst (v := 1) dX5_daysToFall_24 rfl ?_
    refine c_VR dX5_daysToFall_25 kX5_lotOf iX5_lotOf q777 (t_lotOf _ HQ1.z (a := (nI j)) (j := j) (b := 1) (w := 1) (2) rfl (by omega) rfl (by decide) rfl) HQ1.z.ob rfl rfl rfl (Nat.le_of_ble_eq_true rfl) ⟨Nat.le_refl _, Nat.le_refl _⟩ ?_
    refine x_iconst (v := 1) dX5_daysToFall_28 rfl ?_
    refine x_icmp_ne (tgt := 44) dX5_daysToFall_29 (by decide) (fun c29 => ?_) (fun c29 => ?_)
    · rw [show mRun j (k + 1) i τ = (i, τ) from by rw [mRun, if_neg c29]]
      exact D44 d HQ1 hsp hFQ hj i w3
    · refine x_aload_n dX5_daysToFall_32 rfl ?_
      refine x_iload_n dX5_daysToFall_33 rfl ?_
      refine c_VZ dX5_daysToFall_34 kX5_dayOf iX5_dayOf q930 (t_dayOf _ HQ1.z (hC.to k1).1 (j := j) hj) HQ1.z.ob rfl rfl rfl (Nat.le_of_ble_eq_true rfl) ⟨Nat.le_refl _, Nat.le_refl _⟩ (fun h1 hO1 hF1 => ?_)
      have hM1 := HQ1.setZ hO1 hF1
      have hG1 : Fr m 8 _ h1 := hF1.wide (by omega) (by omega)
      refine x_pop dX5_daysToFall_37 rfl ?_
      refine e_inc (lv' := fun w9 => [.ref m, .int (nI j), .int w9, w3]) dX5_daysToFall_38 rfl rfl (fun _ => rfl) (fun v2 ev2 => ?_)
      refine x_goto (tgt := 15) dX5_daysToFall_41 (by decide) ?_
      obtain rfl := inc1 ev2
      rw [show mRun j (k + 1) i τ = mRun j k (i + 1) (mDay j τ).1 from by rw [mRun, if_pos c29]]
      exact ih (i + 1) (mDay j τ).1 h1 (by omega) hM1 (hsp.kept (hF1 _ (by omega))) (hFQ.tr hG1) ((mDay13 _ _ 1 (by decide)).trans k1)

set_option maxRecDepth 100000 in
set_option maxHeartbeats 4000000 in
theorem m_daysToFall {st : Nat → Nat} (d : Nat) {z : Nat} {h : Nat → Option va_E} {m : Nat} {ζ : Sg} {n nv : Nat} {G S : Nat → Sg} {sv tx : Nat → Int32} {ty sp : Int32} {tl : Nat → Int32} {tm : Int32} (hM : MAt h m ζ n nv G S sv tx ty sp tl tm) (hC : COk ζ) {j : Nat} (hj : j < 12) : CT st (d + 6) yX5_daysToFall cX5_daysToFall 4 (some .int) [.ref m, .int (nI j)] (z, h) 0 0 (MMO (some (.int (mFall ζ j))) z m h ζ n nv G S sv tx ty sp tl tm) := by
  refine CT.of (lv := [.ref m, .int (nI j), .null, .null]) (by decide) (Nat.le_of_ble_eq_true rfl) rfl rfl ?_
  refine x_aload_n dX5_daysToFall_0 rfl ?_
  refine x_get dX5_daysToFall_1 fX5_7 hM.ob rfl ?_
  refine x_iconst (v := 0) dX5_daysToFall_4 rfl ?_
  refine x_aload_n dX5_daysToFall_5 rfl ?_
  refine x_get dX5_daysToFall_6 fX5_13 hM.ob rfl ?_
  refine x_iconst (v := 0) dX5_daysToFall_9 rfl ?_
  obtain ⟨g0, hR0⟩ := hM.2.2.1
  refine c_SCO dX5_daysToFall_10 kX5_copyState q725 q724 (t_copyState _ (fa := 0) (ta := 0) hM.zr hR0 rfl rfl (by omega) (by omega) (by decide) (by decide) (by omega)) rfl rfl (Nat.le_of_ble_eq_true rfl) ⟨Nat.le_refl _, Nat.le_refl _⟩ (fun h1 hR1 he1 => ?_)
  have hM1 := hM.setSpare hR1 he1
  have hG1 : Fr m 8 _ h1 := fun q hq => he1 q (by omega)
  refine x_iconst (v := 0) dX5_daysToFall_13 rfl ?_
  refine e_ist_n (lv' := fun w9 => [.ref m, .int (nI j), .int w9, .null]) dX5_daysToFall_14 (Nat.le_of_ble_eq_true rfl) rfl (fun _ => rfl) (fun v2 ev2 => ?_)
  subst ev2
  exact L_daysToFall d hC hj _ 700 0 ζ h1 (by omega) hM1 (hR1.to fun i hi => by rw [show i = 0 + i by omega, cpy_in _ _ _ _ hi, Nat.zero_add]) hG1 rfl

set_option maxRecDepth 100000 in
set_option maxHeartbeats 4000000 in
theorem m_fallsIn {st : Nat → Nat} (d : Nat) {z : Nat} {h : Nat → Option va_E} {m : Nat} {ζ : Sg} {n nv : Nat} {G S : Nat → Sg} {sv tx : Nat → Int32} {ty sp : Int32} {tl : Nat → Int32} {tm : Int32} (hM : MAt h m ζ n nv G S sv tx ty sp tl tm) (hL : LOk ζ) (hC : COk ζ) (hWF : WFall ζ) (x : Int32) : CT st (d + 7) yX5_fallsIn cX5_fallsIn 2 (some .int) [.ref m, .int x] (z, h) 0 0 (MMO (some (.int (oFalls ζ x))) z m h ζ n nv G S sv tx ty sp tl tm) := by
  refine CT.of (lv := [.ref m, .int x]) (by decide) (Nat.le_of_ble_eq_true rfl) rfl rfl ?_
  refine x_aload_n dX5_fallsIn_0 rfl ?_
  refine x_iload_n dX5_fallsIn_1 rfl ?_
  refine c_VR dX5_fallsIn_2 kX5_isLot iX5_isLot q773 (t_misLot _ hM.z hL _) hM.z.ob rfl rfl rfl (Nat.le_of_ble_eq_true rfl) ⟨Nat.le_refl _, Nat.le_refl _⟩ ?_
  refine x_if_ne (tgt := 12) dX5_fallsIn_5 (by decide) (fun c5 => ?_) (fun c5 => ?_)
  · have c5 := bI_ne c5
    obtain ⟨j, -, hj, rfl⟩ := ax_ix_of hL.1 hL.2 (Nat.le_of_ble_eq_true rfl) c5
    have hj12 := hL.2
    have hcl := nI_cl (j := j) (by omega)
    refine x_aload_n dX5_fallsIn_12 rfl ?_
    refine x_iload_n dX5_fallsIn_13 rfl ?_
    refine x_iconst (v := 1) dX5_fallsIn_14 rfl ?_
    refine c_VR dX5_fallsIn_15 kX5_lotOf iX5_lotOf q777 (t_lotOf _ hM.z (a := (nI j)) (j := j) (b := 1) (w := 1) (2) rfl (by omega) rfl (by decide) rfl) hM.z.ob rfl rfl rfl (Nat.le_of_ble_eq_true rfl) ⟨Nat.le_refl _, Nat.le_refl _⟩ ?_
    refine x_iconst (v := 1) dX5_fallsIn_18 rfl ?_
    refine x_icmp_ne (tgt := 30) dX5_fallsIn_19 (by decide) (fun c19 => ?_) (fun c19 => ?_)
    · refine x_bipush (v := (-5)) dX5_fallsIn_30 rfl ?_
      refine x_iret dX5_fallsIn_32 (Or.inl rfl) rfl (Nat.le_refl _) ?_
      exact ⟨by rw [oFalls_n (by omega) c5 c19], _, rfl, hM, Fr.rf⟩
    · refine x_aload_n dX5_fallsIn_22 rfl ?_
      refine x_iload_n dX5_fallsIn_23 rfl ?_
      refine c_VMM dX5_fallsIn_24 kX5_daysToFall iX5_daysToFall q990 (m_daysToFall _ hM hC (j := j) (by omega)) hM.ob rfl rfl rfl (Nat.le_of_ble_eq_true rfl) ⟨Nat.le_refl _, Nat.le_refl _⟩ (fun h1 hM1 hG1 => ?_)
      refine x_goto (tgt := 32) dX5_fallsIn_27 (by decide) ?_
      refine x_iret dX5_fallsIn_32 (Or.inl rfl) rfl (Nat.le_refl _) ?_
      exact ⟨by rw [(hWF j hj c19).1], _, rfl, hM1, hG1⟩
  · have c5 := bI_eq c5
    refine x_iconst (v := (-1)) dX5_fallsIn_8 rfl ?_
    refine x_goto (tgt := 32) dX5_fallsIn_9 (by decide) ?_
    refine x_iret dX5_fallsIn_32 (Or.inl rfl) rfl (Nat.le_refl _) ?_
    exact ⟨by rw [oFalls, if_neg (by rw [c5]; decide)], _, rfl, hM, Fr.rf⟩

set_option maxRecDepth 100000 in
set_option maxHeartbeats 4000000 in
theorem L_nextFall {st : Nat → Nat} (d : Nat) {z : Nat} {h : Nat → Option va_E} {m : Nat} {ζ : Sg} {n nv : Nat} {G S : Nat → Sg} {sv tx : Nat → Int32} {ty sp : Int32} {tl : Nat → Int32} {tm : Int32} (hL : LOk ζ) (hC : COk ζ) (hWF : WFall ζ) (w : Int32) (hw : ¬ (w ≠ 0 ∧ w ≠ 1)) : ∀ (k : Nat) (i : Nat) (r q : Int32) (w5 w6 : Value) (hq1 : Nat → Option va_E), i + k = nLo ζ → MAt hq1 m ζ n nv G S sv tx ty sp tl tm → Fr m 8 h hq1 → lp (ffF ζ) i k (r, q) = lp (ffF ζ) 0 (nLo ζ) (-6, -6) → Ev st (d + 7) yX5_nextFall cX5_nextFall 7 (some .int) (z, h) 0 0 (MMO (some (.int (oNextFall ζ w))) z m h ζ n nv G S sv tx ty sp tl tm) 21 [.ref m, .int w, .int r, .int q, .int (nI i), w5, w6] [] (z, hq1) 0 0 := by
  intro k
  induction k with
  | zero =>
    intro i r q w5 w6 hq1 hik HQ1 hFQ hR
    refine x_iload dX5_nextFall_21 rfl ?_
    refine x_aload_n dX5_nextFall_23 rfl ?_
    refine x_get dX5_nextFall_24 fX5_7 HQ1.ob rfl ?_
    refine x_bipush (v := 7) dX5_nextFall_27 rfl ?_
    refine z_ald (13) (0) dX5_nextFall_29 HQ1.z (show zAt 13 0 7 from ⟨by decide, rfl⟩) (show ¬ (7 : Int32) < 0 ∧ Int32.toNatClampNeg 7 = 7 by decide) ?_
    rw [hL.1]
    have hL12 := hL.2
    refine x_icmp_ge (tgt := 113) dX5_nextFall_30 (by decide) (fun c30 => ?_) (fun c30 => absurd (nI_le (a := nLo ζ) (b := i) (by omega) (by omega)) c30)
    refine x_iload_n dX5_nextFall_113 rfl ?_
    refine x_if_ne (tgt := 121) dX5_nextFall_114 (by decide) (fun c114 => ?_) (fun c114 => ?_)
    · refine x_iload_n dX5_nextFall_121 rfl ?_
      refine x_iret dX5_nextFall_122 (Or.inl rfl) rfl (Nat.le_refl _) ?_
      rw [lp_0] at hR
      exact ⟨by unfold oNextFall; rw [if_neg hw]; dsimp only; rw [← hR]; simp [c114], _, rfl, HQ1, hFQ⟩
    · refine x_iload_n dX5_nextFall_117 rfl ?_
      refine x_goto (tgt := 122) dX5_nextFall_118 (by decide) ?_
      refine x_iret dX5_nextFall_122 (Or.inl rfl) rfl (Nat.le_refl _) ?_
      rw [lp_0] at hR
      exact ⟨by unfold oNextFall; rw [if_neg hw]; dsimp only; rw [← hR]; simp [c114], _, rfl, HQ1, hFQ⟩
  | succ k ih =>
    intro i r q w5 w6 hq1 hik HQ1 hFQ hR
    refine x_iload dX5_nextFall_21 rfl ?_
    refine x_aload_n dX5_nextFall_23 rfl ?_
    refine x_get dX5_nextFall_24 fX5_7 HQ1.ob rfl ?_
    refine x_bipush (v := 7) dX5_nextFall_27 rfl ?_
    refine z_ald (13) (0) dX5_nextFall_29 HQ1.z (show zAt 13 0 7 from ⟨by decide, rfl⟩) (show ¬ (7 : Int32) < 0 ∧ Int32.toNatClampNeg 7 = 7 by decide) ?_
    rw [hL.1]
    have hL12 := hL.2
    refine x_icmp_ge (tgt := 113) dX5_nextFall_30 (by decide) (fun c30 => absurd c30 (nI_ge (a := i) (b := nLo ζ) (by omega) (by omega))) (fun c30 => ?_)
    refine x_aload_n dX5_nextFall_33 rfl ?_
    refine x_iload dX5_nextFall_34 rfl ?_
    refine x_iconst (v := 1) dX5_nextFall_36 rfl ?_
    refine c_VR dX5_nextFall_37 kX5_lotOf iX5_lotOf q777 (t_lotOf _ HQ1.z (a := (nI i)) (j := i) (b := 1) (w := 1) (2) rfl (by omega) rfl (by decide) rfl) HQ1.z.ob rfl rfl rfl (Nat.le_of_ble_eq_true rfl) ⟨Nat.le_refl _, Nat.le_refl _⟩ ?_
    refine x_iconst (v := 1) dX5_nextFall_40 rfl ?_
    refine x_icmp_ne (tgt := 53) dX5_nextFall_41 (by decide) (fun c41 => ?_) (fun c41 => ?_)
    · have hf := oFalls_n (i := i) (by omega) (sEx_of hL.1 (by omega) (by omega)) c41
      refine x_bipush (v := (-6)) dX5_nextFall_53 rfl ?_
      refine e_ist (lv' := fun w9 => [.ref m, .int w, .int r, .int q, .int (nI i), .int w9, w6]) dX5_nextFall_55 (Nat.le_of_ble_eq_true rfl) rfl (fun _ => rfl) (fun v1 ev1 => ?_)
      subst ev1
      refine x_iload dX5_nextFall_57 rfl ?_
      refine x_bipush (v := (-6)) dX5_nextFall_59 rfl ?_
      refine x_icmp_eq (tgt := 80) dX5_nextFall_61 (by decide) (fun _ => ?_) (fun c61 => absurd c61 (by decide))
      refine x_iconst (v := 0) dX5_nextFall_80 rfl ?_
      refine e_ist (lv' := fun w9 => [.ref m, .int w, .int r, .int q, .int (nI i), .int (-6), .int w9]) dX5_nextFall_81 (Nat.le_of_ble_eq_true rfl) rfl (fun _ => rfl) (fun v2 ev2 => ?_)
      subst ev2
      refine x_iload dX5_nextFall_83 rfl ?_
      refine x_if_eq (tgt := 93) dX5_nextFall_85 (by decide) (fun _ => ?_) (fun c85 => absurd c85 (by decide))
      refine x_iload_n dX5_nextFall_93 rfl ?_
      refine e_ist_n (lv' := fun w9 => [.ref m, .int w, .int w9, .int q, .int (nI i), .int (-6), .int 0]) dX5_nextFall_94 (Nat.le_of_ble_eq_true rfl) rfl (fun _ => rfl) (fun v3 ev3 => ?_)
      have ev3 : r = v3 := (ev3.trans rfl).symm
      subst ev3
      refine x_iload dX5_nextFall_95 rfl ?_
      refine x_if_eq (tgt := 105) dX5_nextFall_97 (by decide) (fun _ => ?_) (fun c97 => absurd c97 (by decide))
      refine x_iload_n dX5_nextFall_105 rfl ?_
      refine e_ist_n (lv' := fun w9 => [.ref m, .int w, .int (r), .int w9, .int (nI i), .int (-6), .int 0]) dX5_nextFall_106 (Nat.le_of_ble_eq_true rfl) rfl (fun _ => rfl) (fun v4 ev4 => ?_)
      have ev4 : q = v4 := (ev4.trans rfl).symm
      subst ev4
      refine e_inc (lv' := fun w9 => [.ref m, .int w, .int (r), .int (q), .int w9, .int (-6), .int 0]) dX5_nextFall_107 rfl rfl (fun _ => rfl) (fun v5 ev5 => ?_)
      refine x_goto (tgt := 21) dX5_nextFall_110 (by decide) ?_
      obtain rfl := inc1 ev5
      exact ih (i + 1) (r) (q) (.int (-6)) (.int 0) hq1 (by omega) HQ1 hFQ (by rw [← hR, lp_s]; congr 1; first | (simp [ffF, hf]; done) | (simp [ffF, hf, c61]; done) | (simp [ffF, hf, hp, c67]; done) | (simp [ffF, hf, hp, c67, c73]; done))
    · obtain ⟨hf, hs⟩ := hWF i (by omega) c41
      have hf := hf.symm
      refine x_aload_n dX5_nextFall_44 rfl ?_
      refine x_iload dX5_nextFall_45 rfl ?_
      refine c_VMM dX5_nextFall_47 kX5_daysToFall iX5_daysToFall q990 (m_daysToFall _ HQ1 hC (j := i) (by omega)) HQ1.ob rfl rfl rfl (Nat.le_of_ble_eq_true rfl) ⟨Nat.le_refl _, Nat.le_refl _⟩ (fun h6 hM6 hG6 => ?_)
      refine x_goto (tgt := 55) dX5_nextFall_50 (by decide) ?_
      refine e_ist (lv' := fun w9 => [.ref m, .int w, .int r, .int q, .int (nI i), .int w9, w6]) dX5_nextFall_55 (Nat.le_of_ble_eq_true rfl) rfl (fun _ => rfl) (fun v7 ev7 => ?_)
      have ev7 : mFall ζ i = v7 := (ev7.trans rfl).symm
      subst ev7
      refine x_iload dX5_nextFall_57 rfl ?_
      refine x_bipush (v := (-6)) dX5_nextFall_59 rfl ?_
      refine x_icmp_eq (tgt := 80) dX5_nextFall_61 (by decide) (fun c61 => ?_) (fun c61 => ?_)
      · refine x_iconst (v := 0) dX5_nextFall_80 rfl ?_
        refine e_ist (lv' := fun w9 => [.ref m, .int w, .int r, .int q, .int (nI i), .int (mFall ζ i), .int w9]) dX5_nextFall_81 (Nat.le_of_ble_eq_true rfl) rfl (fun _ => rfl) (fun v8 ev8 => ?_)
        subst ev8
        refine x_iload dX5_nextFall_83 rfl ?_
        refine x_if_eq (tgt := 93) dX5_nextFall_85 (by decide) (fun _ => ?_) (fun c85 => absurd c85 (by decide))
        refine x_iload_n dX5_nextFall_93 rfl ?_
        refine e_ist_n (lv' := fun w9 => [.ref m, .int w, .int w9, .int q, .int (nI i), .int (mFall ζ i), .int 0]) dX5_nextFall_94 (Nat.le_of_ble_eq_true rfl) rfl (fun _ => rfl) (fun v9 ev9 => ?_)
        have ev9 : r = v9 := (ev9.trans rfl).symm
        subst ev9
        refine x_iload dX5_nextFall_95 rfl ?_
        refine x_if_eq (tgt := 105) dX5_nextFall_97 (by decide) (fun _ => ?_) (fun c97 => absurd c97 (by decide))
        refine x_iload_n dX5_nextFall_105 rfl ?_
        refine e_ist_n (lv' := fun w9 => [.ref m, .int w, .int (r), .int w9, .int (nI i), .int (mFall ζ i), .int 0]) dX5_nextFall_106 (Nat.le_of_ble_eq_true rfl) rfl (fun _ => rfl) (fun v10 ev10 => ?_)
        have ev10 : q = v10 := (ev10.trans rfl).symm
        subst ev10
        refine e_inc (lv' := fun w9 => [.ref m, .int w, .int (r), .int (q), .int w9, .int (mFall ζ i), .int 0]) dX5_nextFall_107 rfl rfl (fun _ => rfl) (fun v11 ev11 => ?_)
        refine x_goto (tgt := 21) dX5_nextFall_110 (by decide) ?_
        obtain rfl := inc1 ev11
        exact ih (i + 1) (r) (q) (.int (mFall ζ i)) (.int 0) h6 (by omega) hM6 (hFQ.tr hG6) (by rw [← hR, lp_s]; congr 1; first | (simp [ffF, hf]; done) | (simp [ffF, hf, c61]; done) | (simp [ffF, hf, hp, c67]; done) | (simp [ffF, hf, hp, c67, c73]; done))
      · have hp : ¬ mFall ζ i ≤ 0 := Int32.not_le.mpr (hs.resolve_left c61)
        refine x_iload_n dX5_nextFall_64 rfl ?_
        refine x_bipush (v := (-6)) dX5_nextFall_65 rfl ?_
        refine x_icmp_eq (tgt := 76) dX5_nextFall_67 (by decide) (fun c67 => ?_) (fun c67 => ?_)
        · refine x_iconst (v := 1) dX5_nextFall_76 rfl ?_
          refine x_goto (tgt := 81) dX5_nextFall_77 (by decide) ?_
          refine e_ist (lv' := fun w9 => [.ref m, .int w, .int r, .int q, .int (nI i), .int (mFall ζ i), .int w9]) dX5_nextFall_81 (Nat.le_of_ble_eq_true rfl) rfl (fun _ => rfl) (fun v12 ev12 => ?_)
          subst ev12
          refine x_iload dX5_nextFall_83 rfl ?_
          refine x_if_eq (tgt := 93) dX5_nextFall_85 (by decide) (fun c85 => absurd c85 (by decide)) (fun _ => ?_)
          refine x_iload dX5_nextFall_88 rfl ?_
          refine x_goto (tgt := 94) dX5_nextFall_90 (by decide) ?_
          refine e_ist_n (lv' := fun w9 => [.ref m, .int w, .int w9, .int q, .int (nI i), .int (mFall ζ i), .int 1]) dX5_nextFall_94 (Nat.le_of_ble_eq_true rfl) rfl (fun _ => rfl) (fun v13 ev13 => ?_)
          have ev13 : (nI i) = v13 := (ev13.trans rfl).symm
          subst ev13
          refine x_iload dX5_nextFall_95 rfl ?_
          refine x_if_eq (tgt := 105) dX5_nextFall_97 (by decide) (fun c97 => absurd c97 (by decide)) (fun _ => ?_)
          refine x_iload dX5_nextFall_100 rfl ?_
          refine x_goto (tgt := 106) dX5_nextFall_102 (by decide) ?_
          refine e_ist_n (lv' := fun w9 => [.ref m, .int w, .int ((nI i)), .int w9, .int (nI i), .int (mFall ζ i), .int 1]) dX5_nextFall_106 (Nat.le_of_ble_eq_true rfl) rfl (fun _ => rfl) (fun v14 ev14 => ?_)
          have ev14 : (mFall ζ i) = v14 := (ev14.trans rfl).symm
          subst ev14
          refine e_inc (lv' := fun w9 => [.ref m, .int w, .int ((nI i)), .int ((mFall ζ i)), .int w9, .int (mFall ζ i), .int 1]) dX5_nextFall_107 rfl rfl (fun _ => rfl) (fun v15 ev15 => ?_)
          refine x_goto (tgt := 21) dX5_nextFall_110 (by decide) ?_
          obtain rfl := inc1 ev15
          exact ih (i + 1) (nI i) (mFall ζ i) (.int (mFall ζ i)) (.int 1) h6 (by omega) hM6 (hFQ.tr hG6) (by rw [← hR, lp_s]; congr 1; first | (simp [ffF, hf]; done) | (simp [ffF, hf, c61]; done) | (simp [ffF, hf, hp, c67]; done) | (simp [ffF, hf, hp, c67, c73]; done))
        · refine x_iload dX5_nextFall_70 rfl ?_
          refine x_iload_n dX5_nextFall_72 rfl ?_
          refine x_icmp_ge (tgt := 80) dX5_nextFall_73 (by decide) (fun c73 => ?_) (fun c73 => ?_)
          · refine x_iconst (v := 0) dX5_nextFall_80 rfl ?_
            refine e_ist (lv' := fun w9 => [.ref m, .int w, .int r, .int q, .int (nI i), .int (mFall ζ i), .int w9]) dX5_nextFall_81 (Nat.le_of_ble_eq_true rfl) rfl (fun _ => rfl) (fun v16 ev16 => ?_)
            subst ev16
            refine x_iload dX5_nextFall_83 rfl ?_
            refine x_if_eq (tgt := 93) dX5_nextFall_85 (by decide) (fun _ => ?_) (fun c85 => absurd c85 (by decide))
            refine x_iload_n dX5_nextFall_93 rfl ?_
            refine e_ist_n (lv' := fun w9 => [.ref m, .int w, .int w9, .int q, .int (nI i), .int (mFall ζ i), .int 0]) dX5_nextFall_94 (Nat.le_of_ble_eq_true rfl) rfl (fun _ => rfl) (fun v17 ev17 => ?_)
            have ev17 : r = v17 := (ev17.trans rfl).symm
            subst ev17
            refine x_iload dX5_nextFall_95 rfl ?_
            refine x_if_eq (tgt := 105) dX5_nextFall_97 (by decide) (fun _ => ?_) (fun c97 => absurd c97 (by decide))
            refine x_iload_n dX5_nextFall_105 rfl ?_
            refine e_ist_n (lv' := fun w9 => [.ref m, .int w, .int (r), .int w9, .int (nI i), .int (mFall ζ i), .int 0]) dX5_nextFall_106 (Nat.le_of_ble_eq_true rfl) rfl (fun _ => rfl) (fun v18 ev18 => ?_)
            have ev18 : q = v18 := (ev18.trans rfl).symm
            subst ev18
            refine e_inc (lv' := fun w9 => [.ref m, .int w, .int (r), .int (q), .int w9, .int (mFall ζ i), .int 0]) dX5_nextFall_107 rfl rfl (fun _ => rfl) (fun v19 ev19 => ?_)
            refine x_goto (tgt := 21) dX5_nextFall_110 (by decide) ?_
            obtain rfl := inc1 ev19
            exact ih (i + 1) (r) (q) (.int (mFall ζ i)) (.int 0) h6 (by omega) hM6 (hFQ.tr hG6) (by rw [← hR, lp_s]; congr 1; first | (simp [ffF, hf]; done) | (simp [ffF, hf, c61]; done) | (simp [ffF, hf, hp, c67]; done) | (simp [ffF, hf, hp, c67, c73]; done))
          · refine x_iconst (v := 1) dX5_nextFall_76 rfl ?_
            refine x_goto (tgt := 81) dX5_nextFall_77 (by decide) ?_
            refine e_ist (lv' := fun w9 => [.ref m, .int w, .int r, .int q, .int (nI i), .int (mFall ζ i), .int w9]) dX5_nextFall_81 (Nat.le_of_ble_eq_true rfl) rfl (fun _ => rfl) (fun v20 ev20 => ?_)
            subst ev20
            refine x_iload dX5_nextFall_83 rfl ?_
            refine x_if_eq (tgt := 93) dX5_nextFall_85 (by decide) (fun c85 => absurd c85 (by decide)) (fun _ => ?_)
            refine x_iload dX5_nextFall_88 rfl ?_
            refine x_goto (tgt := 94) dX5_nextFall_90 (by decide) ?_
            refine e_ist_n (lv' := fun w9 => [.ref m, .int w, .int w9, .int q, .int (nI i), .int (mFall ζ i), .int 1]) dX5_nextFall_94 (Nat.le_of_ble_eq_true rfl) rfl (fun _ => rfl) (fun v21 ev21 => ?_)
            have ev21 : (nI i) = v21 := (ev21.trans rfl).symm
            subst ev21
            refine x_iload dX5_nextFall_95 rfl ?_
            refine x_if_eq (tgt := 105) dX5_nextFall_97 (by decide) (fun c97 => absurd c97 (by decide)) (fun _ => ?_)
            refine x_iload dX5_nextFall_100 rfl ?_
            refine x_goto (tgt := 106) dX5_nextFall_102 (by decide) ?_
            refine e_ist_n (lv' := fun w9 => [.ref m, .int w, .int ((nI i)), .int w9, .int (nI i), .int (mFall ζ i), .int 1]) dX5_nextFall_106 (Nat.le_of_ble_eq_true rfl) rfl (fun _ => rfl) (fun v22 ev22 => ?_)
            have ev22 : (mFall ζ i) = v22 := (ev22.trans rfl).symm
            subst ev22
            refine e_inc (lv' := fun w9 => [.ref m, .int w, .int ((nI i)), .int ((mFall ζ i)), .int w9, .int (mFall ζ i), .int 1]) dX5_nextFall_107 rfl rfl (fun _ => rfl) (fun v23 ev23 => ?_)
            refine x_goto (tgt := 21) dX5_nextFall_110 (by decide) ?_
            obtain rfl := inc1 ev23
            exact ih (i + 1) (nI i) (mFall ζ i) (.int (mFall ζ i)) (.int 1) h6 (by omega) hM6 (hFQ.tr hG6) (by rw [← hR, lp_s]; congr 1; first | (simp [ffF, hf]; done) | (simp [ffF, hf, c61]; done) | (simp [ffF, hf, hp, c67]; done) | (simp [ffF, hf, hp, c67, c73]; done))

set_option maxRecDepth 100000 in
set_option maxHeartbeats 4000000 in
theorem m_nextFall {st : Nat → Nat} (d : Nat) {z : Nat} {h : Nat → Option va_E} {m : Nat} {ζ : Sg} {n nv : Nat} {G S : Nat → Sg} {sv tx : Nat → Int32} {ty sp : Int32} {tl : Nat → Int32} {tm : Int32} (hM : MAt h m ζ n nv G S sv tx ty sp tl tm) (hL : LOk ζ) (hC : COk ζ) (hWF : WFall ζ) (w : Int32) : CT st (d + 7) yX5_nextFall cX5_nextFall 7 (some .int) [.ref m, .int w] (z, h) 0 0 (MMO (some (.int (oNextFall ζ w))) z m h ζ n nv G S sv tx ty sp tl tm) := by
  refine CT.of (lv := [.ref m, .int w, .null, .null, .null, .null, .null]) (by decide) (Nat.le_of_ble_eq_true rfl) rfl rfl ?_
  refine x_iload_n dX5_nextFall_0 rfl ?_
  refine x_iconst (v := 0) dX5_nextFall_1 rfl ?_
  refine x_iconst (v := 1) dX5_nextFall_2 rfl ?_
  refine c_SR dX5_nextFall_3 kX5_in q732 q731 (t_in _ _ _ _) rfl rfl (Nat.le_of_ble_eq_true rfl) ⟨Nat.le_refl _, Nat.le_refl _⟩ ?_
  refine x_if_ne (tgt := 12) dX5_nextFall_6 (by decide) (fun c6 => ?_) (fun c6 => ?_)
  · have c6 := bI_ne c6
    refine x_bipush (v := (-6)) dX5_nextFall_12 rfl ?_
    refine e_ist_n (lv' := fun w9 => [.ref m, .int w, .int w9, .null, .null, .null, .null]) dX5_nextFall_14 (Nat.le_of_ble_eq_true rfl) rfl (fun _ => rfl) (fun v1 ev1 => ?_)
    refine x_bipush (v := (-6)) dX5_nextFall_15 rfl ?_
    refine e_ist_n (lv' := fun w9 => [.ref m, .int w, .int v1, .int w9, .null, .null, .null]) dX5_nextFall_17 (Nat.le_of_ble_eq_true rfl) rfl (fun _ => rfl) (fun v2 ev2 => ?_)
    refine x_iconst (v := 0) dX5_nextFall_18 rfl ?_
    refine e_ist (lv' := fun w9 => [.ref m, .int w, .int v1, .int v2, .int w9, .null, .null]) dX5_nextFall_19 (Nat.le_of_ble_eq_true rfl) rfl (fun _ => rfl) (fun v3 ev3 => ?_)
    subst ev1 ev2 ev3
    exact L_nextFall d hL hC hWF w (fun q => absurd c6 (by rw [(mIn01 w).mpr q]; decide)) (nLo ζ) 0 (-6) (-6) _ _ h (by omega) hM Fr.rf rfl
  · have c6 := bI_eq c6
    refine x_bipush (v := (-2)) dX5_nextFall_9 rfl ?_
    refine x_iret dX5_nextFall_11 (Or.inl rfl) rfl (Nat.le_refl _) ?_
    exact ⟨by unfold oNextFall; rw [if_pos ((mIn01 w).mp c6)], _, rfl, hM, Fr.rf⟩
