set_option maxRecDepth 100000 in
set_option maxHeartbeats 4000000 in
theorem L_settleNow {st : Nat → Nat} (d : Nat) {z : Nat} {h : Nat → Option va_E} {m N : Nat} {fs : List Value} {τ : Sg} {j : Nat} (hj : j < 12) (hN : N ≤ 30) (u q a : Int32) (b : Bool) : ∀ (k : Nat) (i : Nat) (ζ1 : Sg) (hq1 : Nat → Option va_E), i + k = N → ZAt hq1 m fs ζ1 → Fr (m + 1) 1 h hq1 → SInv N ζ1 → lp (mSetF u q a) i k ζ1 = τ → Ev st (d + 3) yX5_settleNow cX5_settleNow 7 (some .int) (z, h) 0 0 (ZO (some (.int (mSize q))) z m h fs (if b = true then up2 (up2 τ 13 3 (τ 13 3 - a)) 2 j 4 else up2 τ 2 j 2)) 40 [.ref m, .int (nI j), .int u, .int q, .int a, .int (bI b), .int (nI i)] [] (z, hq1) 0 0 := by
  intro k
  induction k with
  | zero =>
    intro i ζ1 hq1 hik HQ1 hFQ hI hR
    refine x_iload dX5_settleNow_40 rfl ?_
    refine x_aload_n dX5_settleNow_42 rfl ?_
    refine x_get dX5_settleNow_43 fX5_7 HQ1.ob rfl ?_
    refine x_bipush (v := 8) dX5_settleNow_46 rfl ?_
    refine z_ald (13) (1) dX5_settleNow_48 HQ1 (show zAt 13 1 8 from ⟨by decide, rfl⟩) (show ¬ (8 : Int32) < 0 ∧ Int32.toNatClampNeg 8 = 8 by decide) ?_
    rw [hI.1]
    refine x_icmp_ge (tgt := 110) dX5_settleNow_49 (by decide) (fun c49 => ?_) (fun c49 => absurd (nI_le (a := N) (b := i) (by omega) (by omega)) c49)
    refine x_aload_n dX5_settleNow_110 rfl ?_
    refine x_get dX5_settleNow_111 fX5_7 HQ1.ob rfl ?_
    refine x_bipush (v := 6) dX5_settleNow_114 rfl ?_
    refine x_dup2 dX5_settleNow_116 rfl rfl ?_
    refine z_ald (13) (3) dX5_settleNow_117 HQ1 (show zAt 13 3 6 from ⟨by decide, rfl⟩) (show ¬ (6 : Int32) < 0 ∧ Int32.toNatClampNeg 6 = 6 by decide) ?_
    refine x_iload dX5_settleNow_118 rfl ?_
    refine x_if_eq (tgt := 128) dX5_settleNow_120 (by decide) (fun c120 => ?_) (fun c120 => ?_)
    · have c120 := bI_eq c120
      refine x_iconst (v := 0) dX5_settleNow_128 rfl ?_
      refine x_isub dX5_settleNow_129 ?_
      refine z_ast (13) (3) dX5_settleNow_130 HQ1 (show zAt 13 3 6 from ⟨by decide, rfl⟩) (show ¬ (6 : Int32) < 0 ∧ Int32.toNatClampNeg 6 = 6 by decide) (fun h1 hO1 hF1 => ?_)
      refine x_aload_n dX5_settleNow_131 rfl ?_
      refine x_iload_n dX5_settleNow_132 rfl ?_
      refine x_iconst (v := 1) dX5_settleNow_133 rfl ?_
      refine x_iload dX5_settleNow_134 rfl ?_
      refine x_if_eq (tgt := 143) dX5_settleNow_136 (by decide) (fun c136 => ?_) (fun c136 => ?_)
      · have c136 := bI_eq c136
        refine x_iconst (v := 2) dX5_settleNow_143 rfl ?_
        refine c_VZn dX5_settleNow_144 kX5_layLot iX5_layLot q761 (t_layLot _ hO1 (a := (nI j)) (j := j) (b := 1) (w := 1) (2) rfl (by omega) rfl (by decide) rfl _) hO1.ob rfl rfl rfl (Nat.le_of_ble_eq_true rfl) ⟨Nat.le_refl _, Nat.le_refl _⟩ (fun h2 hO2 hF2 => ?_)
        refine x_iload_n dX5_settleNow_147 rfl ?_
        refine c_SR dX5_settleNow_148 kX5_size q790 q789 (t_size _ _) rfl rfl (Nat.le_of_ble_eq_true rfl) ⟨Nat.le_refl _, Nat.le_refl _⟩ ?_
        refine x_iret dX5_settleNow_151 (Or.inl rfl) rfl (Nat.le_refl _) ?_
        rw [lp_0] at hR
        subst hR
        exact ZO.mk rfl (by revert c120 c136; cases b <;> intro c120 c136 <;> first | exact absurd c120 (by decide) | exact absurd c136 (by decide) | simp [up2_id]) hO2 (hFQ.tr (hF1.tr hF2))
      · have c136 := bI_ne c136
        refine x_iconst (v := 4) dX5_settleNow_139 rfl ?_
        refine x_goto (tgt := 144) dX5_settleNow_140 (by decide) ?_
        refine c_VZn dX5_settleNow_144 kX5_layLot iX5_layLot q761 (t_layLot _ hO1 (a := (nI j)) (j := j) (b := 1) (w := 1) (2) rfl (by omega) rfl (by decide) rfl _) hO1.ob rfl rfl rfl (Nat.le_of_ble_eq_true rfl) ⟨Nat.le_refl _, Nat.le_refl _⟩ (fun h3 hO3 hF3 => ?_)
        refine x_iload_n dX5_settleNow_147 rfl ?_
        refine c_SR dX5_settleNow_148 kX5_size q790 q789 (t_size _ _) rfl rfl (Nat.le_of_ble_eq_true rfl) ⟨Nat.le_refl _, Nat.le_refl _⟩ ?_
        refine x_iret dX5_settleNow_151 (Or.inl rfl) rfl (Nat.le_refl _) ?_
        rw [lp_0] at hR
        subst hR
        exact ZO.mk rfl (by revert c120 c136; cases b <;> intro c120 c136 <;> first | exact absurd c120 (by decide) | exact absurd c136 (by decide) | simp [up2_id]) hO3 (hFQ.tr (hF1.tr hF3))
    · have c120 := bI_ne c120
      refine x_iload dX5_settleNow_123 rfl ?_
      refine x_goto (tgt := 129) dX5_settleNow_125 (by decide) ?_
      refine x_isub dX5_settleNow_129 ?_
      refine z_ast (13) (3) dX5_settleNow_130 HQ1 (show zAt 13 3 6 from ⟨by decide, rfl⟩) (show ¬ (6 : Int32) < 0 ∧ Int32.toNatClampNeg 6 = 6 by decide) (fun h4 hO4 hF4 => ?_)
      refine x_aload_n dX5_settleNow_131 rfl ?_
      refine x_iload_n dX5_settleNow_132 rfl ?_
      refine x_iconst (v := 1) dX5_settleNow_133 rfl ?_
      refine x_iload dX5_settleNow_134 rfl ?_
      refine x_if_eq (tgt := 143) dX5_settleNow_136 (by decide) (fun c136 => ?_) (fun c136 => ?_)
      · have c136 := bI_eq c136
        refine x_iconst (v := 2) dX5_settleNow_143 rfl ?_
        refine c_VZn dX5_settleNow_144 kX5_layLot iX5_layLot q761 (t_layLot _ hO4 (a := (nI j)) (j := j) (b := 1) (w := 1) (2) rfl (by omega) rfl (by decide) rfl _) hO4.ob rfl rfl rfl (Nat.le_of_ble_eq_true rfl) ⟨Nat.le_refl _, Nat.le_refl _⟩ (fun h5 hO5 hF5 => ?_)
        refine x_iload_n dX5_settleNow_147 rfl ?_
        refine c_SR dX5_settleNow_148 kX5_size q790 q789 (t_size _ _) rfl rfl (Nat.le_of_ble_eq_true rfl) ⟨Nat.le_refl _, Nat.le_refl _⟩ ?_
        refine x_iret dX5_settleNow_151 (Or.inl rfl) rfl (Nat.le_refl _) ?_
        rw [lp_0] at hR
        subst hR
        exact ZO.mk rfl (by revert c120 c136; cases b <;> intro c120 c136 <;> first | exact absurd c120 (by decide) | exact absurd c136 (by decide) | simp [up2_id]) hO5 (hFQ.tr (hF4.tr hF5))
      · have c136 := bI_ne c136
        refine x_iconst (v := 4) dX5_settleNow_139 rfl ?_
        refine x_goto (tgt := 144) dX5_settleNow_140 (by decide) ?_
        refine c_VZn dX5_settleNow_144 kX5_layLot iX5_layLot q761 (t_layLot _ hO4 (a := (nI j)) (j := j) (b := 1) (w := 1) (2) rfl (by omega) rfl (by decide) rfl _) hO4.ob rfl rfl rfl (Nat.le_of_ble_eq_true rfl) ⟨Nat.le_refl _, Nat.le_refl _⟩ (fun h6 hO6 hF6 => ?_)
        refine x_iload_n dX5_settleNow_147 rfl ?_
        refine c_SR dX5_settleNow_148 kX5_size q790 q789 (t_size _ _) rfl rfl (Nat.le_of_ble_eq_true rfl) ⟨Nat.le_refl _, Nat.le_refl _⟩ ?_
        refine x_iret dX5_settleNow_151 (Or.inl rfl) rfl (Nat.le_refl _) ?_
        rw [lp_0] at hR
        subst hR
        exact ZO.mk rfl (by revert c120 c136; cases b <;> intro c120 c136 <;> first | exact absurd c120 (by decide) | exact absurd c136 (by decide) | simp [up2_id]) hO6 (hFQ.tr (hF4.tr hF6))
  | succ k ih =>
    intro i ζ1 hq1 hik HQ1 hFQ hI hR
    refine x_iload dX5_settleNow_40 rfl ?_
    refine x_aload_n dX5_settleNow_42 rfl ?_
    refine x_get dX5_settleNow_43 fX5_7 HQ1.ob rfl ?_
    refine x_bipush (v := 8) dX5_settleNow_46 rfl ?_
    refine z_ald (13) (1) dX5_settleNow_48 HQ1 (show zAt 13 1 8 from ⟨by decide, rfl⟩) (show ¬ (8 : Int32) < 0 ∧ Int32.toNatClampNeg 8 = 8 by decide) ?_
    rw [hI.1]
    refine x_icmp_ge (tgt := 110) dX5_settleNow_49 (by decide) (fun c49 => absurd c49 (nI_ge (a := i) (b := N) (by omega) (by omega))) (fun c49 => ?_)
    refine x_iload_n dX5_settleNow_52 rfl ?_
    refine x_iload dX5_settleNow_53 rfl ?_
    refine x_ishr dX5_settleNow_55 ?_
    refine x_iconst (v := 1) dX5_settleNow_56 rfl ?_
    refine x_iand dX5_settleNow_57 ?_
    refine x_iconst (v := 1) dX5_settleNow_58 rfl ?_
    refine x_icmp_ne (tgt := 76) dX5_settleNow_59 (by decide) (fun c59 => ?_) (fun c59 => ?_)
    · refine x_aload_n dX5_settleNow_76 rfl ?_
      refine x_iload dX5_settleNow_77 rfl ?_
      refine x_iconst (v := 4) dX5_settleNow_79 rfl ?_
      refine x_iload_n dX5_settleNow_80 rfl ?_
      refine x_iload dX5_settleNow_81 rfl ?_
      refine x_ishr dX5_settleNow_83 ?_
      refine x_iconst (v := 1) dX5_settleNow_84 rfl ?_
      refine x_iand dX5_settleNow_85 ?_
      refine x_iconst (v := 1) dX5_settleNow_86 rfl ?_
      refine x_icmp_ne (tgt := 94) dX5_settleNow_87 (by decide) (fun c87 => ?_) (fun c87 => ?_)
      · refine x_aload_n dX5_settleNow_94 rfl ?_
        refine x_iload dX5_settleNow_95 rfl ?_
        refine x_iconst (v := 4) dX5_settleNow_97 rfl ?_
        refine c_VR dX5_settleNow_98 kX5_claimOf iX5_claimOf q811 (t_claimOf _ HQ1 (a := (nI i)) (j := i) (b := 4) (w := 4) (9) rfl (by omega) rfl (by decide) rfl) HQ1.ob rfl rfl rfl (Nat.le_of_ble_eq_true rfl) ⟨Nat.le_refl _, Nat.le_refl _⟩ ?_
        refine c_VZn dX5_settleNow_101 kX5_layClaim iX5_layClaim q823 (t_layClaim _ HQ1 (a := (nI i)) (j := i) (b := 4) (w := 4) (9) rfl (by omega) rfl (by decide) rfl _) HQ1.ob rfl rfl rfl (Nat.le_of_ble_eq_true rfl) ⟨Nat.le_refl _, Nat.le_refl _⟩ (fun h1 hO1 hF1 => ?_)
        refine e_inc (lv' := fun w9 => [.ref m, .int (nI j), .int u, .int q, .int a, .int (bI b), .int w9]) dX5_settleNow_104 rfl rfl (fun _ => rfl) (fun v2 ev2 => ?_)
        refine x_goto (tgt := 40) dX5_settleNow_107 (by decide) ?_
        obtain rfl := inc1 ev2
        exact ih (i + 1) _ h1 (by omega) hO1 (hFQ.tr hF1) (by simpa [mSetF, sHolds, c59, c87] using hI.step u q a (c := i) (by omega)) (by rw [← hR, lp_s]; congr 1; simp [mSetF, sHolds, c59, c87])
      · refine x_iconst (v := 5) dX5_settleNow_90 rfl ?_
        refine x_goto (tgt := 101) dX5_settleNow_91 (by decide) ?_
        refine c_VZn dX5_settleNow_101 kX5_layClaim iX5_layClaim q823 (t_layClaim _ HQ1 (a := (nI i)) (j := i) (b := 4) (w := 4) (9) rfl (by omega) rfl (by decide) rfl _) HQ1.ob rfl rfl rfl (Nat.le_of_ble_eq_true rfl) ⟨Nat.le_refl _, Nat.le_refl _⟩ (fun h3 hO3 hF3 => ?_)
        refine e_inc (lv' := fun w9 => [.ref m, .int (nI j), .int u, .int q, .int a, .int (bI b), .int w9]) dX5_settleNow_104 rfl rfl (fun _ => rfl) (fun v4 ev4 => ?_)
        refine x_goto (tgt := 40) dX5_settleNow_107 (by decide) ?_
        obtain rfl := inc1 ev4
        exact ih (i + 1) _ h3 (by omega) hO3 (hFQ.tr hF3) (by simpa [mSetF, sHolds, c59, c87] using hI.step u q a (c := i) (by omega)) (by rw [← hR, lp_s]; congr 1; simp [mSetF, sHolds, c59, c87])
    · obtain ⟨g, hg, e5⟩ := hI.2.1 i (by omega)
      refine x_aload_n dX5_settleNow_62 rfl ?_
      refine x_iload dX5_settleNow_63 rfl ?_
      refine x_iload dX5_settleNow_65 rfl ?_
      refine x_iload_n dX5_settleNow_67 rfl ?_
      refine x_iload dX5_settleNow_68 rfl ?_
      refine c_SR dX5_settleNow_70 kX5_part q904 q903 (t_mpart _ (j := i) _ _ (mSize_ne (c := i) (by omega) (by rw [← sHolds_gb _ (by omega)]; simp [sHolds, *]))) rfl rfl (Nat.le_of_ble_eq_true rfl) ⟨Nat.le_refl _, Nat.le_refl _⟩ ?_
      refine c_VZn dX5_settleNow_73 kX5_pay iX5_pay q906 (t_pay _ HQ1 hI.2.2.1 (g := g) (j := i) (by omega) hg e5 _ (hI.2.2.lt hg)) HQ1.ob rfl rfl rfl (Nat.le_of_ble_eq_true rfl) ⟨Nat.le_refl _, Nat.le_refl _⟩ (fun h5 hO5 hF5 => ?_)
      refine x_aload_n dX5_settleNow_76 rfl ?_
      refine x_iload dX5_settleNow_77 rfl ?_
      refine x_iconst (v := 4) dX5_settleNow_79 rfl ?_
      refine x_iload_n dX5_settleNow_80 rfl ?_
      refine x_iload dX5_settleNow_81 rfl ?_
      refine x_ishr dX5_settleNow_83 ?_
      refine x_iconst (v := 1) dX5_settleNow_84 rfl ?_
      refine x_iand dX5_settleNow_85 ?_
      refine x_iconst (v := 1) dX5_settleNow_86 rfl ?_
      refine x_icmp_ne (tgt := 94) dX5_settleNow_87 (by decide) (fun c87 => ?_) (fun c87 => ?_)
      · refine x_aload_n dX5_settleNow_94 rfl ?_
        refine x_iload dX5_settleNow_95 rfl ?_
        refine x_iconst (v := 4) dX5_settleNow_97 rfl ?_
        refine c_VR dX5_settleNow_98 kX5_claimOf iX5_claimOf q811 (t_claimOf _ hO5 (a := (nI i)) (j := i) (b := 4) (w := 4) (9) rfl (by omega) rfl (by decide) rfl) hO5.ob rfl rfl rfl (Nat.le_of_ble_eq_true rfl) ⟨Nat.le_refl _, Nat.le_refl _⟩ ?_
        refine c_VZn dX5_settleNow_101 kX5_layClaim iX5_layClaim q823 (t_layClaim _ hO5 (a := (nI i)) (j := i) (b := 4) (w := 4) (9) rfl (by omega) rfl (by decide) rfl _) hO5.ob rfl rfl rfl (Nat.le_of_ble_eq_true rfl) ⟨Nat.le_refl _, Nat.le_refl _⟩ (fun h6 hO6 hF6 => ?_)
        refine e_inc (lv' := fun w9 => [.ref m, .int (nI j), .int u, .int q, .int a, .int (bI b), .int w9]) dX5_settleNow_104 rfl rfl (fun _ => rfl) (fun v7 ev7 => ?_)
        refine x_goto (tgt := 40) dX5_settleNow_107 (by decide) ?_
        obtain rfl := inc1 ev7
        exact ih (i + 1) _ h6 (by omega) hO6 (hFQ.tr (hF5.tr hF6)) (by simpa [mSetF, sHolds, c59, c87] using hI.step u q a (c := i) (by omega)) (by rw [← hR, lp_s]; congr 1; simp [mSetF, sHolds, c59, c87])
      · refine x_iconst (v := 5) dX5_settleNow_90 rfl ?_
        refine x_goto (tgt := 101) dX5_settleNow_91 (by decide) ?_
        refine c_VZn dX5_settleNow_101 kX5_layClaim iX5_layClaim q823 (t_layClaim _ hO5 (a := (nI i)) (j := i) (b := 4) (w := 4) (9) rfl (by omega) rfl (by decide) rfl _) hO5.ob rfl rfl rfl (Nat.le_of_ble_eq_true rfl) ⟨Nat.le_refl _, Nat.le_refl _⟩ (fun h8 hO8 hF8 => ?_)
        refine e_inc (lv' := fun w9 => [.ref m, .int (nI j), .int u, .int q, .int a, .int (bI b), .int w9]) dX5_settleNow_104 rfl rfl (fun _ => rfl) (fun v9 ev9 => ?_)
        refine x_goto (tgt := 40) dX5_settleNow_107 (by decide) ?_
        obtain rfl := inc1 ev9
        exact ih (i + 1) _ h8 (by omega) hO8 (hFQ.tr (hF5.tr hF8)) (by simpa [mSetF, sHolds, c59, c87] using hI.step u q a (c := i) (by omega)) (by rw [← hR, lp_s]; congr 1; simp [mSetF, sHolds, c59, c87])

set_option maxRecDepth 100000 in
set_option maxHeartbeats 4000000 in
theorem t_settleNow {st : Nat → Nat} (d : Nat) {z : Nat} {h : Nat → Option va_E} {m : Nat} {fs : List Value} {ζ : Sg} (H : ZAt h m fs ζ) (hC : COk ζ) (hH : WH ζ) (hWP : WP ζ) {j : Nat} (hj : j < 12) : CT st (d + 4) yX5_settleNow cX5_settleNow 7 (some .int) [.ref m, .int (nI j)] (z, h) 0 0 (ZO (some (.int (mSize (mNear ζ (cUpTo ζ (nI j)))))) z m h fs (mSettle ζ j)) := by
  refine CT.of (lv := [.ref m, .int (nI j), .null, .null, .null, .null, .null]) (by decide) (Nat.le_of_ble_eq_true rfl) rfl rfl ?_
  refine x_aload_n dX5_settleNow_0 rfl ?_
  refine x_iload_n dX5_settleNow_1 rfl ?_
  refine x_iconst (v := 1) dX5_settleNow_2 rfl ?_
  refine c_VR dX5_settleNow_3 kX5_claimsTo iX5_claimsTo q875 (t_claimsTo _ H hC _ _) H.ob rfl rfl rfl (Nat.le_of_ble_eq_true rfl) ⟨Nat.le_refl _, Nat.le_refl _⟩ ?_
  refine e_ist_n (lv' := fun w9 => [.ref m, .int (nI j), .int w9, .null, .null, .null, .null]) dX5_settleNow_6 (Nat.le_of_ble_eq_true rfl) rfl (fun _ => rfl) (fun v1 ev1 => ?_)
  refine x_aload_n dX5_settleNow_7 rfl ?_
  refine x_iload_n dX5_settleNow_8 rfl ?_
  refine c_VR dX5_settleNow_9 kX5_nearestOnes iX5_nearestOnes q891 (t_nearestOnes _ H hC _) H.ob rfl rfl rfl (Nat.le_of_ble_eq_true rfl) ⟨Nat.le_refl _, Nat.le_refl _⟩ ?_
  refine e_ist_n (lv' := fun w9 => [.ref m, .int (nI j), .int v1, .int w9, .null, .null, .null]) dX5_settleNow_12 (Nat.le_of_ble_eq_true rfl) rfl (fun _ => rfl) (fun v2 ev2 => ?_)
  refine x_aload_n dX5_settleNow_13 rfl ?_
  refine x_iload_n dX5_settleNow_14 rfl ?_
  refine c_VR dX5_settleNow_15 kX5_shared iX5_shared q899 (t_shared _ H (j := j) (by omega)) H.ob rfl rfl rfl (Nat.le_of_ble_eq_true rfl) ⟨Nat.le_refl _, Nat.le_refl _⟩ ?_
  refine e_ist (lv' := fun w9 => [.ref m, .int (nI j), .int v1, .int v2, .int w9, .null, .null]) dX5_settleNow_18 (Nat.le_of_ble_eq_true rfl) rfl (fun _ => rfl) (fun v3 ev3 => ?_)
  refine x_aload_n dX5_settleNow_20 rfl ?_
  refine x_iload_n dX5_settleNow_21 rfl ?_
  refine x_iconst (v := 1) dX5_settleNow_22 rfl ?_
  refine c_VR dX5_settleNow_23 kX5_lotOf iX5_lotOf q777 (t_lotOf _ H (a := (nI j)) (j := j) (b := 1) (w := 1) (2) rfl (by omega) rfl (by decide) rfl) H.ob rfl rfl rfl (Nat.le_of_ble_eq_true rfl) ⟨Nat.le_refl _, Nat.le_refl _⟩ ?_
  refine x_iconst (v := 3) dX5_settleNow_26 rfl ?_
  refine x_icmp_ne (tgt := 34) dX5_settleNow_27 (by decide) (fun c27 => ?_) (fun c27 => ?_)
  · refine x_iconst (v := 0) dX5_settleNow_34 rfl ?_
    refine e_ist (lv' := fun w9 => [.ref m, .int (nI j), .int v1, .int v2, .int v3, .int w9, .null]) dX5_settleNow_35 (Nat.le_of_ble_eq_true rfl) rfl (fun _ => rfl) (fun v4 ev4 => ?_)
    subst ev4
    refine x_iconst (v := 0) dX5_settleNow_37 rfl ?_
    refine e_ist (lv' := fun w9 => [.ref m, .int (nI j), .int v1, .int v2, .int v3, .int 0, .int w9]) dX5_settleNow_38 (Nat.le_of_ble_eq_true rfl) rfl (fun _ => rfl) (fun v5 ev5 => ?_)
    subst ev1 ev2 ev3 ev5
    rw [show mSettle ζ j = _ from by unfold mSettle; rw [if_neg c27]]
    exact L_settleNow (d + 1) (h := h) hj hC.2 (cUpTo ζ (nI j)) (mNear ζ (cUpTo ζ (nI j))) (sCoins ζ j) false (nCl ζ) 0 ζ h (by omega) H Fr.rf ⟨hC.1, hH, hWP⟩ rfl
  · refine x_iconst (v := 1) dX5_settleNow_30 rfl ?_
    refine x_goto (tgt := 35) dX5_settleNow_31 (by decide) ?_
    refine e_ist (lv' := fun w9 => [.ref m, .int (nI j), .int v1, .int v2, .int v3, .int w9, .null]) dX5_settleNow_35 (Nat.le_of_ble_eq_true rfl) rfl (fun _ => rfl) (fun v6 ev6 => ?_)
    subst ev6
    refine x_iconst (v := 0) dX5_settleNow_37 rfl ?_
    refine e_ist (lv' := fun w9 => [.ref m, .int (nI j), .int v1, .int v2, .int v3, .int 1, .int w9]) dX5_settleNow_38 (Nat.le_of_ble_eq_true rfl) rfl (fun _ => rfl) (fun v7 ev7 => ?_)
    subst ev1 ev2 ev3 ev7
    rw [show mSettle ζ j = _ from by unfold mSettle; rw [if_pos c27]]
    exact L_settleNow (d + 1) (h := h) hj hC.2 (cUpTo ζ (nI j)) (mNear ζ (cUpTo ζ (nI j))) (sCoins ζ j) true (nCl ζ) 0 ζ h (by omega) H Fr.rf ⟨hC.1, hH, hWP⟩ rfl

set_option maxRecDepth 100000 in
set_option maxHeartbeats 4000000 in
theorem D1 {st : Nat → Nat} (d : Nat) {z : Nat} {h : Nat → Option va_E} {m : Nat} {fs : List Value} {τ : Sg} {h1 : Nat → Option va_E} (H1 : ZAt h1 m fs τ) (hF : Fr (m + 1) 1 h h1) {j : Nat} (hj : j < 12) (wf fa : Bool) (w3 : Value) : Ev st (d + 5) yX5_dayOf cX5_dayOf 5 (some .boolean) (z, h) 0 0 (ZO (some (.int (bI fa))) z m h fs (d1 wf j τ)) 212 [.ref m, .int (nI j), .int (bI wf), w3, .int (bI fa)] [] (z, h1) 0 0 := by
  refine x_aload_n dX5_dayOf_212 rfl ?_
  refine x_iload_n dX5_dayOf_213 rfl ?_
  refine x_iconst (v := 3) dX5_dayOf_214 rfl ?_
  refine x_aload_n dX5_dayOf_215 rfl ?_
  refine x_iload_n dX5_dayOf_216 rfl ?_
  refine x_iconst (v := 3) dX5_dayOf_217 rfl ?_
  refine c_VR dX5_dayOf_218 kX5_lotOf iX5_lotOf q777 (t_lotOf _ H1 (a := (nI j)) (j := j) (b := 3) (w := 3) (4) rfl (by omega) rfl (by decide) rfl) H1.ob rfl rfl rfl (Nat.le_of_ble_eq_true rfl) ⟨Nat.le_refl _, Nat.le_refl _⟩ ?_
  refine x_iload_n dX5_dayOf_221 rfl ?_
  refine x_if_eq (tgt := 229) dX5_dayOf_222 (by decide) (fun c222 => ?_) (fun c222 => ?_)
  · have c222 := bI_eq c222
    refine x_iconst (v := 0) dX5_dayOf_229 rfl ?_
    refine x_iadd dX5_dayOf_230 ?_
    refine c_VZn dX5_dayOf_231 kX5_layLot iX5_layLot q761 (t_layLot _ H1 (a := (nI j)) (j := j) (b := 3) (w := 3) (4) rfl (by omega) rfl (by decide) rfl _) H1.ob rfl rfl rfl (Nat.le_of_ble_eq_true rfl) ⟨Nat.le_refl _, Nat.le_refl _⟩ (fun h1 hO1 hF1 => ?_)
    refine x_iload dX5_dayOf_234 rfl ?_
    refine x_iret dX5_dayOf_236 (Or.inr ⟨rfl, by first | rfl | exact bI_z _⟩) rfl (Nat.le_refl _) ?_
    exact ZO.mk rfl (by simp [d1, c222]) hO1 (hF.tr hF1)
  · have c222 := bI_ne c222
    refine x_iconst (v := 1) dX5_dayOf_225 rfl ?_
    refine x_goto (tgt := 230) dX5_dayOf_226 (by decide) ?_
    refine x_iadd dX5_dayOf_230 ?_
    refine c_VZn dX5_dayOf_231 kX5_layLot iX5_layLot q761 (t_layLot _ H1 (a := (nI j)) (j := j) (b := 3) (w := 3) (4) rfl (by omega) rfl (by decide) rfl _) H1.ob rfl rfl rfl (Nat.le_of_ble_eq_true rfl) ⟨Nat.le_refl _, Nat.le_refl _⟩ (fun h2 hO2 hF2 => ?_)
    refine x_iload dX5_dayOf_234 rfl ?_
    refine x_iret dX5_dayOf_236 (Or.inr ⟨rfl, by first | rfl | exact bI_z _⟩) rfl (Nat.le_refl _) ?_
    exact ZO.mk rfl (by simp [d1, c222]) hO2 (hF.tr hF2)

set_option maxRecDepth 100000 in
set_option maxHeartbeats 4000000 in
theorem D2 {st : Nat → Nat} (d : Nat) {z : Nat} {h : Nat → Option va_E} {m : Nat} {fs : List Value} {τ : Sg} {h1 : Nat → Option va_E} (H1 : ZAt h1 m fs τ) (hF : Fr (m + 1) 1 h h1) {j : Nat} (hj : j < 12) (wf fa : Bool) (w3 : Value) : Ev st (d + 5) yX5_dayOf cX5_dayOf 5 (some .boolean) (z, h) 0 0 (ZO (some (.int (bI fa))) z m h fs (d1 wf j (d2 fa j τ))) 187 [.ref m, .int (nI j), .int (bI wf), w3, .int (bI fa)] [] (z, h1) 0 0 := by
  refine x_aload_n dX5_dayOf_187 rfl ?_
  refine x_get dX5_dayOf_188 fX5_7 H1.ob rfl ?_
  refine x_bipush (v := 6) dX5_dayOf_191 rfl ?_
  refine x_dup2 dX5_dayOf_193 rfl rfl ?_
  refine z_ald (13) (3) dX5_dayOf_194 H1 (show zAt 13 3 6 from ⟨by decide, rfl⟩) (show ¬ (6 : Int32) < 0 ∧ Int32.toNatClampNeg 6 = 6 by decide) ?_
  refine x_iload dX5_dayOf_195 rfl ?_
  refine x_if_eq (tgt := 209) dX5_dayOf_197 (by decide) (fun c197 => ?_) (fun c197 => ?_)
  · have c197 := bI_eq c197
    refine x_iconst (v := 0) dX5_dayOf_209 rfl ?_
    refine x_iadd dX5_dayOf_210 ?_
    refine z_ast (13) (3) dX5_dayOf_211 H1 (show zAt 13 3 6 from ⟨by decide, rfl⟩) (show ¬ (6 : Int32) < 0 ∧ Int32.toNatClampNeg 6 = 6 by decide) (fun h1 hO1 hF1 => ?_)
    have eS := hO1
    exact D1 d (τ := d2 fa j τ) (by have e : d2 fa j τ = _ := rfl; simpa [d2, c197] using hO1) (hF.tr hF1) hj wf fa w3
  · have c197 := bI_ne c197
    refine x_aload_n dX5_dayOf_200 rfl ?_
    refine x_iload_n dX5_dayOf_201 rfl ?_
    refine x_iconst (v := 0) dX5_dayOf_202 rfl ?_
    refine c_VR dX5_dayOf_203 kX5_lotOf iX5_lotOf q777 (t_lotOf _ H1 (a := (nI j)) (j := j) (b := 0) (w := 0) (1) rfl (by omega) rfl (by decide) rfl) H1.ob rfl rfl rfl (Nat.le_of_ble_eq_true rfl) ⟨Nat.le_refl _, Nat.le_refl _⟩ ?_
    refine x_goto (tgt := 210) dX5_dayOf_206 (by decide) ?_
    refine x_iadd dX5_dayOf_210 ?_
    refine z_ast (13) (3) dX5_dayOf_211 H1 (show zAt 13 3 6 from ⟨by decide, rfl⟩) (show ¬ (6 : Int32) < 0 ∧ Int32.toNatClampNeg 6 = 6 by decide) (fun h2 hO2 hF2 => ?_)
    have eS := hO2
    exact D1 d (τ := d2 fa j τ) (by have e : d2 fa j τ = _ := rfl; simpa [d2, c197] using hO2) (hF.tr hF2) hj wf fa w3

set_option maxRecDepth 100000 in
set_option maxHeartbeats 4000000 in
theorem D3 {st : Nat → Nat} (d : Nat) {z : Nat} {h : Nat → Option va_E} {m : Nat} {fs : List Value} {τ : Sg} {h1 : Nat → Option va_E} (H1 : ZAt h1 m fs τ) (hF : Fr (m + 1) 1 h h1) {j : Nat} (hj : j < 12) (wf fa : Bool) (w3 : Value) : Ev st (d + 5) yX5_dayOf cX5_dayOf 5 (some .boolean) (z, h) 0 0 (ZO (some (.int (bI fa))) z m h fs (d1 wf j (d2 fa j (d3 fa j τ)))) 166 [.ref m, .int (nI j), .int (bI wf), w3, .int (bI fa)] [] (z, h1) 0 0 := by
  refine x_aload_n dX5_dayOf_166 rfl ?_
  refine x_iload_n dX5_dayOf_167 rfl ?_
  refine x_iconst (v := 1) dX5_dayOf_168 rfl ?_
  refine x_iload dX5_dayOf_169 rfl ?_
  refine x_if_eq (tgt := 178) dX5_dayOf_171 (by decide) (fun c171 => ?_) (fun c171 => ?_)
  · have c171 := bI_eq c171
    refine x_aload_n dX5_dayOf_178 rfl ?_
    refine x_iload_n dX5_dayOf_179 rfl ?_
    refine x_iconst (v := 1) dX5_dayOf_180 rfl ?_
    refine c_VR dX5_dayOf_181 kX5_lotOf iX5_lotOf q777 (t_lotOf _ H1 (a := (nI j)) (j := j) (b := 1) (w := 1) (2) rfl (by omega) rfl (by decide) rfl) H1.ob rfl rfl rfl (Nat.le_of_ble_eq_true rfl) ⟨Nat.le_refl _, Nat.le_refl _⟩ ?_
    refine c_VZn dX5_dayOf_184 kX5_layLot iX5_layLot q761 (t_layLot _ H1 (a := (nI j)) (j := j) (b := 1) (w := 1) (2) rfl (by omega) rfl (by decide) rfl _) H1.ob rfl rfl rfl (Nat.le_of_ble_eq_true rfl) ⟨Nat.le_refl _, Nat.le_refl _⟩ (fun h1 hO1 hF1 => ?_)
    have eS := hO1
    exact D2 d (τ := d3 fa j τ) (by have e : d3 fa j τ = _ := rfl; simpa [d3, c171] using hO1) (hF.tr hF1) hj wf fa w3
  · have c171 := bI_ne c171
    refine x_iconst (v := 3) dX5_dayOf_174 rfl ?_
    refine x_goto (tgt := 184) dX5_dayOf_175 (by decide) ?_
    refine c_VZn dX5_dayOf_184 kX5_layLot iX5_layLot q761 (t_layLot _ H1 (a := (nI j)) (j := j) (b := 1) (w := 1) (2) rfl (by omega) rfl (by decide) rfl _) H1.ob rfl rfl rfl (Nat.le_of_ble_eq_true rfl) ⟨Nat.le_refl _, Nat.le_refl _⟩ (fun h2 hO2 hF2 => ?_)
    have eS := hO2
    exact D2 d (τ := d3 fa j τ) (by have e : d3 fa j τ = _ := rfl; simpa [d3, c171] using hO2) (hF.tr hF2) hj wf fa w3

set_option maxRecDepth 100000 in
set_option maxHeartbeats 4000000 in
theorem D4 {st : Nat → Nat} (d : Nat) {z : Nat} {h : Nat → Option va_E} {m : Nat} {fs : List Value} {τ : Sg} {h1 : Nat → Option va_E} (H1 : ZAt h1 m fs τ) (hF : Fr (m + 1) 1 h h1) {j : Nat} (hj : j < 12) (wf co fa : Bool) (w4 : Value) (hfa : d4 co j τ = fa) : Ev st (d + 5) yX5_dayOf cX5_dayOf 5 (some .boolean) (z, h) 0 0 (ZO (some (.int (bI fa))) z m h fs (d1 wf j (d2 fa j (d3 fa j τ)))) 140 [.ref m, .int (nI j), .int (bI wf), .int (bI co), w4] [] (z, h1) 0 0 := by
  refine x_iload_n dX5_dayOf_140 rfl ?_
  refine x_if_eq (tgt := 163) dX5_dayOf_141 (by decide) (fun c141 => ?_) (fun c141 => ?_)
  · have c141 := bI_eq c141
    refine x_iconst (v := 0) dX5_dayOf_163 rfl ?_
    refine e_ist (lv' := fun w9 => [.ref m, .int (nI j), .int (bI wf), .int (bI co), .int w9]) dX5_dayOf_164 (Nat.le_of_ble_eq_true rfl) rfl (fun _ => rfl) (fun v1 ev1 => ?_)
    subst ev1
    obtain rfl : fa = false := by rw [← hfa]; simp [d4, *]
    exact D3 d H1 hF hj wf false _
  · have c141 := bI_ne c141
    refine x_aload_n dX5_dayOf_144 rfl ?_
    refine x_iload_n dX5_dayOf_145 rfl ?_
    refine x_iconst (v := 2) dX5_dayOf_146 rfl ?_
    refine c_VR dX5_dayOf_147 kX5_lotOf iX5_lotOf q777 (t_lotOf _ H1 (a := (nI j)) (j := j) (b := 2) (w := 2) (3) rfl (by omega) rfl (by decide) rfl) H1.ob rfl rfl rfl (Nat.le_of_ble_eq_true rfl) ⟨Nat.le_refl _, Nat.le_refl _⟩ ?_
    refine x_aload_n dX5_dayOf_150 rfl ?_
    refine x_get dX5_dayOf_151 fX5_7 H1.ob rfl ?_
    refine x_iconst (v := 0) dX5_dayOf_154 rfl ?_
    refine z_ald (0) (0) dX5_dayOf_155 H1 (show zAt 0 0 0 from ⟨by decide, rfl⟩) (show ¬ (0 : Int32) < 0 ∧ Int32.toNatClampNeg 0 = 0 by decide) ?_
    refine x_icmp_lt (tgt := 163) dX5_dayOf_156 (by decide) (fun c156 => ?_) (fun c156 => ?_)
    · refine x_iconst (v := 0) dX5_dayOf_163 rfl ?_
      refine e_ist (lv' := fun w9 => [.ref m, .int (nI j), .int (bI wf), .int (bI co), .int w9]) dX5_dayOf_164 (Nat.le_of_ble_eq_true rfl) rfl (fun _ => rfl) (fun v2 ev2 => ?_)
      subst ev2
      obtain rfl : fa = false := by rw [← hfa]; simp [d4, *]
      exact D3 d H1 hF hj wf false _
    · refine x_iconst (v := 1) dX5_dayOf_159 rfl ?_
      refine x_goto (tgt := 164) dX5_dayOf_160 (by decide) ?_
      refine e_ist (lv' := fun w9 => [.ref m, .int (nI j), .int (bI wf), .int (bI co), .int w9]) dX5_dayOf_164 (Nat.le_of_ble_eq_true rfl) rfl (fun _ => rfl) (fun v3 ev3 => ?_)
      subst ev3
      obtain rfl : fa = true := by rw [← hfa]; simp [d4, *]
      exact D3 d H1 hF hj wf true _

set_option maxRecDepth 100000 in
set_option maxHeartbeats 4000000 in
theorem D5 {st : Nat → Nat} (d : Nat) {z : Nat} {h : Nat → Option va_E} {m : Nat} {fs : List Value} {τ : Sg} {h1 : Nat → Option va_E} (H1 : ZAt h1 m fs τ) (hF : Fr (m + 1) 1 h h1) {j : Nat} (hj : j < 12) (wf co : Bool) (w4 : Value) : Ev st (d + 5) yX5_dayOf cX5_dayOf 5 (some .boolean) (z, h) 0 0 (ZO (some (.int (bI (dEnd wf co j τ).2))) z m h fs ((dEnd wf co j τ).1)) 118 [.ref m, .int (nI j), .int (bI wf), .int (bI co), w4] [] (z, h1) 0 0 := by
  refine x_aload_n dX5_dayOf_118 rfl ?_
  refine x_iload_n dX5_dayOf_119 rfl ?_
  refine x_iconst (v := 2) dX5_dayOf_120 rfl ?_
  refine x_aload_n dX5_dayOf_121 rfl ?_
  refine x_iload_n dX5_dayOf_122 rfl ?_
  refine x_iconst (v := 2) dX5_dayOf_123 rfl ?_
  refine c_VR dX5_dayOf_124 kX5_lotOf iX5_lotOf q777 (t_lotOf _ H1 (a := (nI j)) (j := j) (b := 2) (w := 2) (3) rfl (by omega) rfl (by decide) rfl) H1.ob rfl rfl rfl (Nat.le_of_ble_eq_true rfl) ⟨Nat.le_refl _, Nat.le_refl _⟩ ?_
  refine x_iload_n dX5_dayOf_127 rfl ?_
  refine x_if_eq (tgt := 135) dX5_dayOf_128 (by decide) (fun c128 => ?_) (fun c128 => ?_)
  · have c128 := bI_eq c128
    refine x_iconst (v := 0) dX5_dayOf_135 rfl ?_
    refine x_iadd dX5_dayOf_136 ?_
    refine c_VZn dX5_dayOf_137 kX5_layLot iX5_layLot q761 (t_layLot _ H1 (a := (nI j)) (j := j) (b := 2) (w := 2) (3) rfl (by omega) rfl (by decide) rfl _) H1.ob rfl rfl rfl (Nat.le_of_ble_eq_true rfl) ⟨Nat.le_refl _, Nat.le_refl _⟩ (fun h1 hO1 hF1 => ?_)
    exact D4 d (τ := d5 co j τ) (by simpa [d5, c128] using hO1) (hF.tr hF1) hj wf co _ w4 rfl
  · have c128 := bI_ne c128
    refine x_iconst (v := 1) dX5_dayOf_131 rfl ?_
    refine x_goto (tgt := 136) dX5_dayOf_132 (by decide) ?_
    refine x_iadd dX5_dayOf_136 ?_
    refine c_VZn dX5_dayOf_137 kX5_layLot iX5_layLot q761 (t_layLot _ H1 (a := (nI j)) (j := j) (b := 2) (w := 2) (3) rfl (by omega) rfl (by decide) rfl _) H1.ob rfl rfl rfl (Nat.le_of_ble_eq_true rfl) ⟨Nat.le_refl _, Nat.le_refl _⟩ (fun h2 hO2 hF2 => ?_)
    exact D4 d (τ := d5 co j τ) (by simpa [d5, c128] using hO2) (hF.tr hF2) hj wf co _ w4 rfl

set_option maxRecDepth 100000 in
set_option maxHeartbeats 4000000 in
theorem D6 {st : Nat → Nat} (d : Nat) {z : Nat} {h : Nat → Option va_E} {m : Nat} {fs : List Value} {τ : Sg} {h1 : Nat → Option va_E} (H1 : ZAt h1 m fs τ) (hF : Fr (m + 1) 1 h h1) {j : Nat} (hj : j < 12) (hC : COk τ) (wf : Bool) (w3 w4 : Value) : Ev st (d + 5) yX5_dayOf cX5_dayOf 5 (some .boolean) (z, h) 0 0 (ZO (some (.int (bI (dEnd wf (d6 j τ) j τ).2))) z m h fs ((dEnd wf (d6 j τ) j τ).1)) 94 [.ref m, .int (nI j), .int (bI wf), w3, w4] [] (z, h1) 0 0 := by
  refine x_aload_n dX5_dayOf_94 rfl ?_
  refine x_iload_n dX5_dayOf_95 rfl ?_
  refine x_iconst (v := 1) dX5_dayOf_96 rfl ?_
  refine c_VR dX5_dayOf_97 kX5_lotOf iX5_lotOf q777 (t_lotOf _ H1 (a := (nI j)) (j := j) (b := 1) (w := 1) (2) rfl (by omega) rfl (by decide) rfl) H1.ob rfl rfl rfl (Nat.le_of_ble_eq_true rfl) ⟨Nat.le_refl _, Nat.le_refl _⟩ ?_
  refine x_iconst (v := 1) dX5_dayOf_100 rfl ?_
  refine x_icmp_ne (tgt := 116) dX5_dayOf_101 (by decide) (fun c101 => ?_) (fun c101 => ?_)
  · refine x_iconst (v := 0) dX5_dayOf_116 rfl ?_
    refine e_ist_n (lv' := fun w9 => [.ref m, .int (nI j), .int (bI wf), .int w9, w4]) dX5_dayOf_117 (Nat.le_of_ble_eq_true rfl) rfl (fun _ => rfl) (fun v1 ev1 => ?_)
    subst ev1
    have eco : d6 j τ = false := by simp [d6, *]
    rw [eco]
    exact D5 d H1 hF hj wf false w4
  · refine x_aload_n dX5_dayOf_104 rfl ?_
    refine x_iload_n dX5_dayOf_105 rfl ?_
    refine c_VR dX5_dayOf_106 kX5_standing iX5_standing q871 (t_mstanding _ H1 hC _) H1.ob rfl rfl rfl (Nat.le_of_ble_eq_true rfl) ⟨Nat.le_refl _, Nat.le_refl _⟩ ?_
    refine x_if_ne (tgt := 116) dX5_dayOf_109 (by decide) (fun c109 => ?_) (fun c109 => ?_)
    · refine x_iconst (v := 0) dX5_dayOf_116 rfl ?_
      refine e_ist_n (lv' := fun w9 => [.ref m, .int (nI j), .int (bI wf), .int w9, w4]) dX5_dayOf_117 (Nat.le_of_ble_eq_true rfl) rfl (fun _ => rfl) (fun v2 ev2 => ?_)
      subst ev2
      have eco : d6 j τ = false := by simp [d6, *]
      rw [eco]
      exact D5 d H1 hF hj wf false w4
    · refine x_iconst (v := 1) dX5_dayOf_112 rfl ?_
      refine x_goto (tgt := 117) dX5_dayOf_113 (by decide) ?_
      refine e_ist_n (lv' := fun w9 => [.ref m, .int (nI j), .int (bI wf), .int w9, w4]) dX5_dayOf_117 (Nat.le_of_ble_eq_true rfl) rfl (fun _ => rfl) (fun v3 ev3 => ?_)
      subst ev3
      have eco : d6 j τ = true := by simp [d6, *]
      rw [eco]
      exact D5 d H1 hF hj wf true w4

set_option maxRecDepth 100000 in
set_option maxHeartbeats 4000000 in
theorem L_dayOf {st : Nat → Nat} (d : Nat) {z : Nat} {h : Nat → Option va_E} {m N : Nat} {fs : List Value} {τ : Sg} {j : Nat} (hj : j < 12) (hN : N ≤ 30) (wf : Bool) (w4 : Value) : ∀ (k : Nat) (i : Nat) (ζ1 : Sg) (hq1 : Nat → Option va_E), i + k = N → ZAt hq1 m fs ζ1 → Fr (m + 1) 1 h hq1 → ζ1 13 1 = nI N → lp (mDayF j) i k ζ1 = τ → Ev st (d + 5) yX5_dayOf cX5_dayOf 5 (some .boolean) (z, h) 0 0 (ZO (some (.int (bI (dEnd wf (d6 j τ) j τ).2))) z m h fs ((dEnd wf (d6 j τ) j τ).1)) 18 [.ref m, .int (nI j), .int (bI wf), .int (nI i), w4] [] (z, hq1) 0 0 := by
  intro k
  induction k with
  | zero =>
    intro i ζ1 hq1 hik HQ1 hFQ k1 hR
    refine x_iload_n dX5_dayOf_18 rfl ?_
    refine x_aload_n dX5_dayOf_19 rfl ?_
    refine x_get dX5_dayOf_20 fX5_7 HQ1.ob rfl ?_
    refine x_bipush (v := 8) dX5_dayOf_23 rfl ?_
    refine z_ald (13) (1) dX5_dayOf_25 HQ1 (show zAt 13 1 8 from ⟨by decide, rfl⟩) (show ¬ (8 : Int32) < 0 ∧ Int32.toNatClampNeg 8 = 8 by decide) ?_
    rw [k1]
    refine x_icmp_ge (tgt := 94) dX5_dayOf_26 (by decide) (fun c26 => ?_) (fun c26 => absurd (nI_le (a := N) (b := i) (by omega) (by omega)) c26)
    rw [lp_0] at hR
    subst hR
    exact D6 d HQ1 hFQ hj ⟨by rw [show nCl ζ1 = N from by unfold nCl; rw [k1, nI_clamp (by omega)]]; exact k1, by rw [show nCl ζ1 = N from by unfold nCl; rw [k1, nI_clamp (by omega)]]; exact hN⟩ wf _ w4
  | succ k ih =>
    intro i ζ1 hq1 hik HQ1 hFQ k1 hR
    refine x_iload_n dX5_dayOf_18 rfl ?_
    refine x_aload_n dX5_dayOf_19 rfl ?_
    refine x_get dX5_dayOf_20 fX5_7 HQ1.ob rfl ?_
    refine x_bipush (v := 8) dX5_dayOf_23 rfl ?_
    refine z_ald (13) (1) dX5_dayOf_25 HQ1 (show zAt 13 1 8 from ⟨by decide, rfl⟩) (show ¬ (8 : Int32) < 0 ∧ Int32.toNatClampNeg 8 = 8 by decide) ?_
    rw [k1]
    refine x_icmp_ge (tgt := 94) dX5_dayOf_26 (by decide) (fun c26 => absurd c26 (nI_ge (a := i) (b := N) (by omega) (by omega))) (fun c26 => ?_)
    refine x_aload_n dX5_dayOf_29 rfl ?_
    refine x_iload_n dX5_dayOf_30 rfl ?_
    refine x_iconst (v := 1) dX5_dayOf_31 rfl ?_
    refine c_VR dX5_dayOf_32 kX5_claimOf iX5_claimOf q811 (t_claimOf _ HQ1 (a := (nI i)) (j := i) (b := 1) (w := 1) (6) rfl (by omega) rfl (by decide) rfl) HQ1.ob rfl rfl rfl (Nat.le_of_ble_eq_true rfl) ⟨Nat.le_refl _, Nat.le_refl _⟩ ?_
    refine x_iload_n dX5_dayOf_35 rfl ?_
    refine x_icmp_ne (tgt := 88) dX5_dayOf_36 (by decide) (fun c36 => ?_) (fun c36 => ?_)
    · refine e_inc (lv' := fun w9 => [.ref m, .int (nI j), .int (bI wf), .int w9, w4]) dX5_dayOf_88 rfl rfl (fun _ => rfl) (fun v1 ev1 => ?_)
      refine x_goto (tgt := 18) dX5_dayOf_91 (by decide) ?_
      obtain rfl := inc1 ev1
      exact ih (i + 1) (mDayF j i ζ1) hq1 (by omega) (by first | simpa [mDayF, wLong, sOpen, c36, c45, c77, up2_id c45q] using HQ1 | simpa [mDayF, wLong, sOpen, c36, c45] using HQ1 | simpa [mDayF, wLong, sOpen, c36] using HQ1) hFQ ((mDayF13 _ _ _ _).trans k1) (by rw [← hR, lp_s])
    · refine x_aload_n dX5_dayOf_39 rfl ?_
      refine x_iload_n dX5_dayOf_40 rfl ?_
      refine x_iconst (v := 4) dX5_dayOf_41 rfl ?_
      refine c_VR dX5_dayOf_42 kX5_claimOf iX5_claimOf q811 (t_claimOf _ HQ1 (a := (nI i)) (j := i) (b := 4) (w := 4) (9) rfl (by omega) rfl (by decide) rfl) HQ1.ob rfl rfl rfl (Nat.le_of_ble_eq_true rfl) ⟨Nat.le_refl _, Nat.le_refl _⟩ ?_
      refine x_if_ne (tgt := 88) dX5_dayOf_45 (by decide) (fun c45 => ?_) (fun c45 => ?_)
      · refine e_inc (lv' := fun w9 => [.ref m, .int (nI j), .int (bI wf), .int w9, w4]) dX5_dayOf_88 rfl rfl (fun _ => rfl) (fun v2 ev2 => ?_)
        refine x_goto (tgt := 18) dX5_dayOf_91 (by decide) ?_
        obtain rfl := inc1 ev2
        exact ih (i + 1) (mDayF j i ζ1) hq1 (by omega) (by first | simpa [mDayF, wLong, sOpen, c36, c45, c77, up2_id c45q] using HQ1 | simpa [mDayF, wLong, sOpen, c36, c45] using HQ1 | simpa [mDayF, wLong, sOpen, c36] using HQ1) hFQ ((mDayF13 _ _ _ _).trans k1) (by rw [← hR, lp_s])
      · have c45q : up2 ζ1 10 i (ζ1 10 i + 1) 9 i = 0 := (up2_k _ (by decide)).trans c45
        refine x_aload_n dX5_dayOf_48 rfl ?_
        refine x_iload_n dX5_dayOf_49 rfl ?_
        refine x_iconst (v := 5) dX5_dayOf_50 rfl ?_
        refine x_aload_n dX5_dayOf_51 rfl ?_
        refine x_iload_n dX5_dayOf_52 rfl ?_
        refine x_iconst (v := 5) dX5_dayOf_53 rfl ?_
        refine c_VR dX5_dayOf_54 kX5_claimOf iX5_claimOf q811 (t_claimOf _ HQ1 (a := (nI i)) (j := i) (b := 5) (w := 5) (10) rfl (by omega) rfl (by decide) rfl) HQ1.ob rfl rfl rfl (Nat.le_of_ble_eq_true rfl) ⟨Nat.le_refl _, Nat.le_refl _⟩ ?_
        refine x_iconst (v := 1) dX5_dayOf_57 rfl ?_
        refine x_iadd dX5_dayOf_58 ?_
        refine c_VZn dX5_dayOf_59 kX5_layClaim iX5_layClaim q823 (t_layClaim _ HQ1 (a := (nI i)) (j := i) (b := 5) (w := 5) (10) rfl (by omega) rfl (by decide) rfl _) HQ1.ob rfl rfl rfl (Nat.le_of_ble_eq_true rfl) ⟨Nat.le_refl _, Nat.le_refl _⟩ (fun h3 hO3 hF3 => ?_)
        refine x_aload_n dX5_dayOf_62 rfl ?_
        refine x_iload_n dX5_dayOf_63 rfl ?_
        refine x_iconst (v := 4) dX5_dayOf_64 rfl ?_
        refine x_aload_n dX5_dayOf_65 rfl ?_
        refine x_iload_n dX5_dayOf_66 rfl ?_
        refine x_iconst (v := 5) dX5_dayOf_67 rfl ?_
        refine c_VR dX5_dayOf_68 kX5_claimOf iX5_claimOf q811 (t_claimOf _ hO3 (a := (nI i)) (j := i) (b := 5) (w := 5) (10) rfl (by omega) rfl (by decide) rfl) hO3.ob rfl rfl rfl (Nat.le_of_ble_eq_true rfl) ⟨Nat.le_refl _, Nat.le_refl _⟩ ?_
        refine x_aload_n dX5_dayOf_71 rfl ?_
        refine x_get dX5_dayOf_72 fX5_7 hO3.ob rfl ?_
        refine x_iconst (v := 2) dX5_dayOf_75 rfl ?_
        refine z_ald (0) (2) dX5_dayOf_76 hO3 (show zAt 0 2 2 from ⟨by decide, rfl⟩) (show ¬ (2 : Int32) < 0 ∧ Int32.toNatClampNeg 2 = 2 by decide) ?_
        refine x_icmp_lt (tgt := 84) dX5_dayOf_77 (by decide) (fun c77 => ?_) (fun c77 => ?_)
        · have c77 : ζ1 10 i + 1 < ζ1 0 2 := by simpa [up2c] using c77
          refine x_iconst (v := 0) dX5_dayOf_84 rfl ?_
          refine c_VZn dX5_dayOf_85 kX5_layClaim iX5_layClaim q823 (t_layClaim _ hO3 (a := (nI i)) (j := i) (b := 4) (w := 4) (9) rfl (by omega) rfl (by decide) rfl _) hO3.ob rfl rfl rfl (Nat.le_of_ble_eq_true rfl) ⟨Nat.le_refl _, Nat.le_refl _⟩ (fun h4 hO4 hF4 => ?_)
          refine e_inc (lv' := fun w9 => [.ref m, .int (nI j), .int (bI wf), .int w9, w4]) dX5_dayOf_88 rfl rfl (fun _ => rfl) (fun v5 ev5 => ?_)
          refine x_goto (tgt := 18) dX5_dayOf_91 (by decide) ?_
          obtain rfl := inc1 ev5
          exact ih (i + 1) (mDayF j i ζ1) h4 (by omega) (by first | simpa [mDayF, wLong, sOpen, c36, c45, c77, up2_id c45q] using hO4 | simpa [mDayF, wLong, sOpen, c36, c45] using hO4 | simpa [mDayF, wLong, sOpen, c36] using hO4) (hFQ.tr (hF3.tr hF4)) ((mDayF13 _ _ _ _).trans k1) (by rw [← hR, lp_s])
        · have c77 : ¬ ζ1 10 i + 1 < ζ1 0 2 := by simpa [up2c] using c77
          refine x_iconst (v := 4) dX5_dayOf_80 rfl ?_
          refine x_goto (tgt := 85) dX5_dayOf_81 (by decide) ?_
          refine c_VZn dX5_dayOf_85 kX5_layClaim iX5_layClaim q823 (t_layClaim _ hO3 (a := (nI i)) (j := i) (b := 4) (w := 4) (9) rfl (by omega) rfl (by decide) rfl _) hO3.ob rfl rfl rfl (Nat.le_of_ble_eq_true rfl) ⟨Nat.le_refl _, Nat.le_refl _⟩ (fun h6 hO6 hF6 => ?_)
          refine e_inc (lv' := fun w9 => [.ref m, .int (nI j), .int (bI wf), .int w9, w4]) dX5_dayOf_88 rfl rfl (fun _ => rfl) (fun v7 ev7 => ?_)
          refine x_goto (tgt := 18) dX5_dayOf_91 (by decide) ?_
          obtain rfl := inc1 ev7
          exact ih (i + 1) (mDayF j i ζ1) h6 (by omega) (by first | simpa [mDayF, wLong, sOpen, c36, c45, c77, up2_id c45q] using hO6 | simpa [mDayF, wLong, sOpen, c36, c45] using hO6 | simpa [mDayF, wLong, sOpen, c36] using hO6) (hFQ.tr (hF3.tr hF6)) ((mDayF13 _ _ _ _).trans k1) (by rw [← hR, lp_s])

set_option maxRecDepth 100000 in
set_option maxHeartbeats 4000000 in
theorem t_dayOf {st : Nat → Nat} (d : Nat) {z : Nat} {h : Nat → Option va_E} {m : Nat} {fs : List Value} {ζ : Sg} (H : ZAt h m fs ζ) (hC : COk ζ) {j : Nat} (hj : j < 12) : CT st (d + 5) yX5_dayOf cX5_dayOf 5 (some .boolean) [.ref m, .int (nI j)] (z, h) 0 0 (ZO (some (.int (bI (mDay j ζ).2))) z m h fs ((mDay j ζ).1)) := by
  refine CT.of (lv := [.ref m, .int (nI j), .null, .null, .null]) (by decide) (Nat.le_of_ble_eq_true rfl) rfl rfl ?_
  refine x_aload_n dX5_dayOf_0 rfl ?_
  refine x_iload_n dX5_dayOf_1 rfl ?_
  refine x_iconst (v := 1) dX5_dayOf_2 rfl ?_
  refine c_VR dX5_dayOf_3 kX5_lotOf iX5_lotOf q777 (t_lotOf _ H (a := (nI j)) (j := j) (b := 1) (w := 1) (2) rfl (by omega) rfl (by decide) rfl) H.ob rfl rfl rfl (Nat.le_of_ble_eq_true rfl) ⟨Nat.le_refl _, Nat.le_refl _⟩ ?_
  refine x_iconst (v := 3) dX5_dayOf_6 rfl ?_
  refine x_icmp_ne (tgt := 14) dX5_dayOf_7 (by decide) (fun c7 => ?_) (fun c7 => ?_)
  · refine x_iconst (v := 0) dX5_dayOf_14 rfl ?_
    refine e_ist_n (lv' := fun w9 => [.ref m, .int (nI j), .int w9, .null, .null]) dX5_dayOf_15 (Nat.le_of_ble_eq_true rfl) rfl (fun _ => rfl) (fun v1 ev1 => ?_)
    subst ev1
    refine x_iconst (v := 0) dX5_dayOf_16 rfl ?_
    refine e_ist_n (lv' := fun w9 => [.ref m, .int (nI j), .int 0, .int w9, .null]) dX5_dayOf_17 (Nat.le_of_ble_eq_true rfl) rfl (fun _ => rfl) (fun v2 ev2 => ?_)
    subst ev2
    have ewf : decide (ζ 2 j = 3) = false := by simp [c7]
    rw [show mDay j ζ = dEnd (decide (ζ 2 j = 3)) (d6 j (lp (mDayF j) 0 (nCl ζ) ζ)) j (lp (mDayF j) 0 (nCl ζ) ζ) from rfl, ewf]
    exact L_dayOf d hj hC.2 false _ (nCl ζ) 0 ζ h (by omega) H Fr.rf hC.1 rfl
  · refine x_iconst (v := 1) dX5_dayOf_10 rfl ?_
    refine x_goto (tgt := 15) dX5_dayOf_11 (by decide) ?_
    refine e_ist_n (lv' := fun w9 => [.ref m, .int (nI j), .int w9, .null, .null]) dX5_dayOf_15 (Nat.le_of_ble_eq_true rfl) rfl (fun _ => rfl) (fun v3 ev3 => ?_)
    subst ev3
    refine x_iconst (v := 0) dX5_dayOf_16 rfl ?_
    refine e_ist_n (lv' := fun w9 => [.ref m, .int (nI j), .int 1, .int w9, .null]) dX5_dayOf_17 (Nat.le_of_ble_eq_true rfl) rfl (fun _ => rfl) (fun v4 ev4 => ?_)
    subst ev4
    have ewf : decide (ζ 2 j = 3) = true := by simp [c7]
    rw [show mDay j ζ = dEnd (decide (ζ 2 j = 3)) (d6 j (lp (mDayF j) 0 (nCl ζ) ζ)) j (lp (mDayF j) 0 (nCl ζ) ζ) from rfl, ewf]
    exact L_dayOf d hj hC.2 true _ (nCl ζ) 0 ζ h (by omega) H Fr.rf hC.1 rfl

set_option maxRecDepth 100000 in
set_option maxHeartbeats 4000000 in
theorem L_dayNow {st : Nat → Nat} (d : Nat) {z : Nat} {h : Nat → Option va_E} {m N : Nat} {fs : List Value} {ζ : Sg} {τ : Sg × Int32} (hL : LOk ζ) (hC : COk ζ) (hN : N ≤ 12) : ∀ (k : Nat) (i : Nat) (r : Int32) (ζ1 : Sg) (hq1 : Nat → Option va_E), i + k = N → ZAt hq1 m fs ζ1 → Fr (m + 1) 1 h hq1 → ζ1 13 0 = nI N → ζ1 13 1 = ζ 13 1 → lp mDaysF i k (ζ1, r) = τ → Ev st (d + 6) yX5_dayNow cX5_dayNow 3 (some .int) (z, h) 0 0 (ZO (some (.int (τ.2))) z m h fs (up2 τ.1 13 4 (τ.1 13 4 + 1))) 4 [.ref m, .int r, .int (nI i)] [] (z, hq1) 0 0 := by
  intro k
  induction k with
  | zero =>
    intro i r ζ1 hq1 hik HQ1 hFQ k0 k1 hR
    refine x_iload_n dX5_dayNow_4 rfl ?_
    refine x_aload_n dX5_dayNow_5 rfl ?_
    refine x_get dX5_dayNow_6 fX5_7 HQ1.ob rfl ?_
    refine x_bipush (v := 7) dX5_dayNow_9 rfl ?_
    refine z_ald (13) (0) dX5_dayNow_11 HQ1 (show zAt 13 0 7 from ⟨by decide, rfl⟩) (show ¬ (7 : Int32) < 0 ∧ Int32.toNatClampNeg 7 = 7 by decide) ?_
    rw [k0]
    refine x_icmp_ge (tgt := 37) dX5_dayNow_12 (by decide) (fun c12 => ?_) (fun c12 => absurd (nI_le (a := N) (b := i) (by omega) (by omega)) c12)
    refine x_aload_n dX5_dayNow_37 rfl ?_
    refine x_get dX5_dayNow_38 fX5_7 HQ1.ob rfl ?_
    refine x_iconst (v := 5) dX5_dayNow_41 rfl ?_
    refine x_dup2 dX5_dayNow_42 rfl rfl ?_
    refine z_ald (13) (4) dX5_dayNow_43 HQ1 (show zAt 13 4 5 from ⟨by decide, rfl⟩) (show ¬ (5 : Int32) < 0 ∧ Int32.toNatClampNeg 5 = 5 by decide) ?_
    refine x_iconst (v := 1) dX5_dayNow_44 rfl ?_
    refine x_iadd dX5_dayNow_45 ?_
    refine z_ast (13) (4) dX5_dayNow_46 HQ1 (show zAt 13 4 5 from ⟨by decide, rfl⟩) (show ¬ (5 : Int32) < 0 ∧ Int32.toNatClampNeg 5 = 5 by decide) (fun h1 hO1 hF1 => ?_)
    refine x_iload_n dX5_dayNow_47 rfl ?_
    refine x_iret dX5_dayNow_48 (Or.inl rfl) rfl (Nat.le_refl _) ?_
    rw [lp_0] at hR
    subst hR
    exact ZO.mk rfl rfl hO1 (hFQ.tr hF1)
  | succ k ih =>
    intro i r ζ1 hq1 hik HQ1 hFQ k0 k1 hR
    refine x_iload_n dX5_dayNow_4 rfl ?_
    refine x_aload_n dX5_dayNow_5 rfl ?_
    refine x_get dX5_dayNow_6 fX5_7 HQ1.ob rfl ?_
    refine x_bipush (v := 7) dX5_dayNow_9 rfl ?_
    refine z_ald (13) (0) dX5_dayNow_11 HQ1 (show zAt 13 0 7 from ⟨by decide, rfl⟩) (show ¬ (7 : Int32) < 0 ∧ Int32.toNatClampNeg 7 = 7 by decide) ?_
    rw [k0]
    refine x_icmp_ge (tgt := 37) dX5_dayNow_12 (by decide) (fun c12 => absurd c12 (nI_ge (a := i) (b := N) (by omega) (by omega))) (fun c12 => ?_)
    refine x_iload_n dX5_dayNow_15 rfl ?_
    refine x_aload_n dX5_dayNow_16 rfl ?_
    refine x_iload_n dX5_dayNow_17 rfl ?_
    refine c_VZ dX5_dayNow_18 kX5_dayOf iX5_dayOf q930 (t_dayOf _ HQ1 (hC.to k1).1 (j := i) (by omega)) HQ1.ob rfl rfl rfl (Nat.le_of_ble_eq_true rfl) ⟨Nat.le_refl _, Nat.le_refl _⟩ (fun h1 hO1 hF1 => ?_)
    refine x_if_eq (tgt := 28) dX5_dayNow_21 (by decide) (fun c21 => ?_) (fun c21 => ?_)
    · have c21 := bI_eq c21
      refine x_iconst (v := 0) dX5_dayNow_28 rfl ?_
      refine x_iadd dX5_dayNow_29 ?_
      refine e_ist_n (lv' := fun w9 => [.ref m, .int w9, .int (nI i)]) dX5_dayNow_30 (Nat.le_of_ble_eq_true rfl) rfl (fun _ => rfl) (fun v2 ev2 => ?_)
      refine e_inc (lv' := fun w9 => [.ref m, .int v2, .int w9]) dX5_dayNow_31 rfl rfl (fun _ => rfl) (fun v3 ev3 => ?_)
      refine x_goto (tgt := 4) dX5_dayNow_34 (by decide) ?_
      obtain rfl := inc1 ev3
      exact ih (i + 1) v2 _ h1 (by omega) hO1 (hFQ.tr hF1) ((mDay13 _ _ 0 (by decide)).trans k0) ((mDay13 _ _ 1 (by decide)).trans k1) (by rw [← hR, lp_s]; subst ev2; congr 1; simp [mDaysF, c21])
    · have c21 := bI_ne c21
      refine x_iconst (v := 1) dX5_dayNow_24 rfl ?_
      refine x_goto (tgt := 29) dX5_dayNow_25 (by decide) ?_
      refine x_iadd dX5_dayNow_29 ?_
      refine e_ist_n (lv' := fun w9 => [.ref m, .int w9, .int (nI i)]) dX5_dayNow_30 (Nat.le_of_ble_eq_true rfl) rfl (fun _ => rfl) (fun v4 ev4 => ?_)
      refine e_inc (lv' := fun w9 => [.ref m, .int v4, .int w9]) dX5_dayNow_31 rfl rfl (fun _ => rfl) (fun v5 ev5 => ?_)
      refine x_goto (tgt := 4) dX5_dayNow_34 (by decide) ?_
      obtain rfl := inc1 ev5
      exact ih (i + 1) v4 _ h1 (by omega) hO1 (hFQ.tr hF1) ((mDay13 _ _ 0 (by decide)).trans k0) ((mDay13 _ _ 1 (by decide)).trans k1) (by rw [← hR, lp_s]; subst ev4; congr 1; simp [mDaysF, c21])

set_option maxRecDepth 100000 in
set_option maxHeartbeats 4000000 in
theorem t_dayNow {st : Nat → Nat} (d : Nat) {z : Nat} {h : Nat → Option va_E} {m : Nat} {fs : List Value} {ζ : Sg} (H : ZAt h m fs ζ) (hL : LOk ζ) (hC : COk ζ)  : CT st (d + 6) yX5_dayNow cX5_dayNow 3 (some .int) [.ref m] (z, h) 0 0 (ZO (some (.int ((mDayNow ζ).2))) z m h fs ((mDayNow ζ).1)) := by
  refine CT.of (lv := [.ref m, .null, .null]) (by decide) (Nat.le_of_ble_eq_true rfl) rfl rfl ?_
  refine x_iconst (v := 0) dX5_dayNow_0 rfl ?_
  refine e_ist_n (lv' := fun w9 => [.ref m, .int w9, .null]) dX5_dayNow_1 (Nat.le_of_ble_eq_true rfl) rfl (fun _ => rfl) (fun v1 ev1 => ?_)
  refine x_iconst (v := 0) dX5_dayNow_2 rfl ?_
  refine e_ist_n (lv' := fun w9 => [.ref m, .int v1, .int w9]) dX5_dayNow_3 (Nat.le_of_ble_eq_true rfl) rfl (fun _ => rfl) (fun v2 ev2 => ?_)
  subst ev1 ev2
  exact L_dayNow d hL hC hL.2 (nLo ζ) 0 0 ζ h (by omega) H Fr.rf hL.1 rfl rfl

set_option maxRecDepth 100000 in
set_option maxHeartbeats 4000000 in
theorem L_passNow {st : Nat → Nat} (d : Nat) {z : Nat} {h : Nat → Option va_E} {m N : Nat} {fs : List Value} {ζ : Sg} {τ : Sg × Int32} (hL : LOk ζ) (hC : COk ζ) (hN : N < 1000) : ∀ (k : Nat) (i : Nat) (r : Int32) (ζ1 : Sg) (hq1 : Nat → Option va_E), i + k = N → ZAt hq1 m fs ζ1 → Fr (m + 1) 1 h hq1 → ζ1 13 0 = ζ 13 0 → ζ1 13 1 = ζ 13 1 → lp mPassF i k (ζ1, r) = τ → Ev st (d + 7) yX5_passNow cX5_passNow 4 (some .int) (z, h) 0 0 (ZO (some (.int (τ.2))) z m h fs (τ.1)) 4 [.ref m, .int (nI N), .int r, .int (nI i)] [] (z, hq1) 0 0 := by
  intro k
  induction k with
  | zero =>
    intro i r ζ1 hq1 hik HQ1 hFQ k0 k1 hR
    refine x_iload_n dX5_passNow_4 rfl ?_
    refine x_iload_n dX5_passNow_5 rfl ?_
    refine x_icmp_ge (tgt := 22) dX5_passNow_6 (by decide) (fun c6 => ?_) (fun c6 => absurd (nI_le (a := N) (b := i) (by omega) (by omega)) c6)
    refine x_iload_n dX5_passNow_22 rfl ?_
    refine x_iret dX5_passNow_23 (Or.inl rfl) rfl (Nat.le_refl _) ?_
    rw [lp_0] at hR
    subst hR
    exact ZO.mk rfl rfl HQ1 hFQ
  | succ k ih =>
    intro i r ζ1 hq1 hik HQ1 hFQ k0 k1 hR
    refine x_iload_n dX5_passNow_4 rfl ?_
    refine x_iload_n dX5_passNow_5 rfl ?_
    refine x_icmp_ge (tgt := 22) dX5_passNow_6 (by decide) (fun c6 => absurd c6 (nI_ge (a := i) (b := N) (by omega) (by omega))) (fun c6 => ?_)
    refine x_iload_n dX5_passNow_9 rfl ?_
    refine x_aload_n dX5_passNow_10 rfl ?_
    refine c_VZ dX5_passNow_11 kX5_dayNow iX5_dayNow q926 (t_dayNow _ HQ1 (hL.to k0).1 (hC.to k1).1) HQ1.ob rfl rfl rfl (Nat.le_of_ble_eq_true rfl) ⟨Nat.le_refl _, Nat.le_refl _⟩ (fun h1 hO1 hF1 => ?_)
    refine x_iadd dX5_passNow_14 ?_
    refine e_ist_n (lv' := fun w9 => [.ref m, .int (nI N), .int w9, .int (nI i)]) dX5_passNow_15 (Nat.le_of_ble_eq_true rfl) rfl (fun _ => rfl) (fun v2 ev2 => ?_)
    refine e_inc (lv' := fun w9 => [.ref m, .int (nI N), .int v2, .int w9]) dX5_passNow_16 rfl rfl (fun _ => rfl) (fun v3 ev3 => ?_)
    refine x_goto (tgt := 4) dX5_passNow_19 (by decide) ?_
    obtain rfl := inc1 ev3
    exact ih (i + 1) v2 _ h1 (by omega) hO1 (hFQ.tr hF1) ((mDayNow13 _ 0 (by decide)).trans k0) ((mDayNow13 _ 1 (by decide)).trans k1) (by rw [← hR, lp_s]; subst ev2; rfl)

set_option maxRecDepth 100000 in
set_option maxHeartbeats 4000000 in
theorem t_passNow {st : Nat → Nat} (d : Nat) {z : Nat} {h : Nat → Option va_E} {m : Nat} {fs : List Value} {ζ : Sg} (H : ZAt h m fs ζ) (hL : LOk ζ) (hC : COk ζ) {N : Nat} (hN : N < 1000) : CT st (d + 7) yX5_passNow cX5_passNow 4 (some .int) [.ref m, .int (nI N)] (z, h) 0 0 (ZO (some (.int ((lp mPassF 0 N (ζ, 0)).2))) z m h fs ((lp mPassF 0 N (ζ, 0)).1)) := by
  refine CT.of (lv := [.ref m, .int (nI N), .null, .null]) (by decide) (Nat.le_of_ble_eq_true rfl) rfl rfl ?_
  refine x_iconst (v := 0) dX5_passNow_0 rfl ?_
  refine e_ist_n (lv' := fun w9 => [.ref m, .int (nI N), .int w9, .null]) dX5_passNow_1 (Nat.le_of_ble_eq_true rfl) rfl (fun _ => rfl) (fun v1 ev1 => ?_)
  refine x_iconst (v := 0) dX5_passNow_2 rfl ?_
  refine e_ist_n (lv' := fun w9 => [.ref m, .int (nI N), .int v1, .int w9]) dX5_passNow_3 (Nat.le_of_ble_eq_true rfl) rfl (fun _ => rfl) (fun v2 ev2 => ?_)
  subst ev1 ev2
  exact L_passNow d hL hC hN N 0 0 ζ h (by omega) H Fr.rf rfl rfl rfl
