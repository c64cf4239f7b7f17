set_option maxRecDepth 100000 in
set_option maxHeartbeats 4000000 in
theorem L_allClaimsTo {st : Nat → Nat} (d : Nat) {z : Nat} {h : Nat → Option va_E} {m : Nat} {fs : List Value} {ζ : Sg} (H : ZAt h m fs ζ) (hC : COk ζ) (x : Int32) : ∀ (k : Nat) (i : Nat) (r : Int32), i + k = 6 → lp (fun w a => a ||| (cToLot ζ x &&& cIn ζ (nI w))) i k r = mAllTo ζ x → Ev st (d + 4) yX5_allClaimsTo cX5_allClaimsTo 4 (some .int) (z, h) 0 0 (RO (some (.int (mAllTo ζ x))) (z, h)) 4 [.ref m, .int x, .int r, .int (nI i)] [] (z, h) 0 0 := by
  intro k
  induction k with
  | zero =>
    intro i r hik hR
    refine x_iload_n dX5_allClaimsTo_4 rfl ?_
    refine x_iconst (v := 5) dX5_allClaimsTo_5 rfl ?_
    refine x_icmp_gt (tgt := 24) dX5_allClaimsTo_6 (by decide) (fun c6 => ?_) (fun c6 => absurd (show (5 : Int32) < nI i by rw [show i = 6 by omega]; decide) c6)
    refine x_iload_n dX5_allClaimsTo_24 rfl ?_
    refine x_iret dX5_allClaimsTo_25 (Or.inl rfl) rfl (Nat.le_refl _) ?_
    exact RO.mk hR
  | succ k ih =>
    intro i r hik hR
    refine x_iload_n dX5_allClaimsTo_4 rfl ?_
    refine x_iconst (v := 5) dX5_allClaimsTo_5 rfl ?_
    refine x_icmp_gt (tgt := 24) dX5_allClaimsTo_6 (by decide) (fun c6 => absurd c6 (nI_gt5 i (by omega))) (fun c6 => ?_)
    refine x_iload_n dX5_allClaimsTo_9 rfl ?_
    refine x_aload_n dX5_allClaimsTo_10 rfl ?_
    refine x_iload_n dX5_allClaimsTo_11 rfl ?_
    refine x_iload_n dX5_allClaimsTo_12 rfl ?_
    refine c_VR dX5_allClaimsTo_13 kX5_claimsTo iX5_claimsTo q875 (t_claimsTo _ H hC _ _) H.ob rfl rfl rfl (Nat.le_of_ble_eq_true rfl) ⟨Nat.le_refl _, Nat.le_refl _⟩ ?_
    refine x_ior dX5_allClaimsTo_16 ?_
    refine e_ist_n (lv' := fun w9 => [.ref m, .int x, .int w9, .int (nI i)]) dX5_allClaimsTo_17 (Nat.le_of_ble_eq_true rfl) rfl (fun _ => rfl) (fun v1 ev1 => ?_)
    refine e_inc (lv' := fun w9 => [.ref m, .int x, .int v1, .int w9]) dX5_allClaimsTo_18 rfl rfl (fun _ => rfl) (fun v2 ev2 => ?_)
    refine x_goto (tgt := 4) dX5_allClaimsTo_21 (by decide) ?_
    obtain rfl := inc1 ev2
    exact ih (i + 1) v1 (by omega) (by rw [← hR, lp_s]; congr 1; all_goals (subst ev1; simp [bsf, *]))

set_option maxRecDepth 100000 in
set_option maxHeartbeats 4000000 in
theorem t_allClaimsTo {st : Nat → Nat} (d : Nat) {z : Nat} {h : Nat → Option va_E} {m : Nat} {fs : List Value} {ζ : Sg} (H : ZAt h m fs ζ) (hC : COk ζ) (x : Int32) : CT st (d + 4) yX5_allClaimsTo cX5_allClaimsTo 4 (some .int) [.ref m, .int x] (z, h) 0 0 (RO (some (.int (mAllTo ζ x))) (z, h)) := by
  refine CT.of (lv := [.ref m, .int x, .null, .null]) (by decide) (Nat.le_of_ble_eq_true rfl) rfl rfl ?_
  refine x_iconst (v := 0) dX5_allClaimsTo_0 rfl ?_
  refine e_ist_n (lv' := fun w9 => [.ref m, .int x, .int w9, .null]) dX5_allClaimsTo_1 (Nat.le_of_ble_eq_true rfl) rfl (fun _ => rfl) (fun v1 ev1 => ?_)
  refine x_iconst (v := 0) dX5_allClaimsTo_2 rfl ?_
  refine e_ist_n (lv' := fun w9 => [.ref m, .int x, .int v1, .int w9]) dX5_allClaimsTo_3 (Nat.le_of_ble_eq_true rfl) rfl (fun _ => rfl) (fun v2 ev2 => ?_)
  subst ev1 ev2
  exact L_allClaimsTo d H hC x 6 0 0 (by omega) rfl

set_option maxRecDepth 100000 in
set_option maxHeartbeats 4000000 in
theorem L_claimsOf {st : Nat → Nat} (d : Nat) {z : Nat} {h : Nat → Option va_E} {m : Nat} {fs : List Value} {ζ : Sg} (H : ZAt h m fs ζ) (hC : COk ζ) (x : Int32) (b : Bool) : ∀ (k : Nat) (i : Nat) (r : Int32), i + k = nCl ζ → lp (bsf (fun c => decide (ζ 5 c = x) && (!b || sStands ζ c))) i k r = mCof ζ x b → Ev st (d + 3) yX5_claimsOf cX5_claimsOf 5 (some .int) (z, h) 0 0 (RO (some (.int (mCof ζ x b))) (z, h)) 5 [.ref m, .int x, .int (bI b), .int r, .int (nI i)] [] (z, h) 0 0 := by
  intro k
  induction k with
  | zero =>
    intro i r hik hR
    refine x_iload dX5_claimsOf_5 rfl ?_
    refine x_aload_n dX5_claimsOf_7 rfl ?_
    refine x_get dX5_claimsOf_8 fX5_7 H.ob rfl ?_
    refine x_bipush (v := 8) dX5_claimsOf_11 rfl ?_
    refine z_ald (13) (1) dX5_claimsOf_13 H (show zAt 13 1 8 from ⟨by decide, rfl⟩) (show ¬ (8 : Int32) < 0 ∧ Int32.toNatClampNeg 8 = 8 by decide) ?_
    rw [hC.1]
    have hC30 := hC.2
    refine x_icmp_ge (tgt := 58) dX5_claimsOf_14 (by decide) (fun c14 => ?_) (fun c14 => absurd (nI_le (a := nCl ζ) (b := i) (by omega) (by omega)) c14)
    refine x_iload_n dX5_claimsOf_58 rfl ?_
    refine x_iret dX5_claimsOf_59 (Or.inl rfl) rfl (Nat.le_refl _) ?_
    exact RO.mk hR
  | succ k ih =>
    intro i r hik hR
    refine x_iload dX5_claimsOf_5 rfl ?_
    refine x_aload_n dX5_claimsOf_7 rfl ?_
    refine x_get dX5_claimsOf_8 fX5_7 H.ob rfl ?_
    refine x_bipush (v := 8) dX5_claimsOf_11 rfl ?_
    refine z_ald (13) (1) dX5_claimsOf_13 H (show zAt 13 1 8 from ⟨by decide, rfl⟩) (show ¬ (8 : Int32) < 0 ∧ Int32.toNatClampNeg 8 = 8 by decide) ?_
    rw [hC.1]
    have hC30 := hC.2
    refine x_icmp_ge (tgt := 58) dX5_claimsOf_14 (by decide) (fun c14 => absurd c14 (nI_ge (a := i) (b := nCl ζ) (by omega) (by omega))) (fun c14 => ?_)
    refine x_iload_n dX5_claimsOf_17 rfl ?_
    refine x_aload_n dX5_claimsOf_18 rfl ?_
    refine x_iload dX5_claimsOf_19 rfl ?_
    refine x_iconst (v := 0) dX5_claimsOf_21 rfl ?_
    refine c_VR dX5_claimsOf_22 kX5_claimOf iX5_claimOf q811 (t_claimOf _ H (a := (nI i)) (j := i) (b := 0) (w := 0) (5) rfl (by omega) rfl (by decide) rfl) H.ob rfl rfl rfl (Nat.le_of_ble_eq_true rfl) ⟨Nat.le_refl _, Nat.le_refl _⟩ ?_
    refine x_iload_n dX5_claimsOf_25 rfl ?_
    refine x_icmp_ne (tgt := 49) dX5_claimsOf_26 (by decide) (fun c26 => ?_) (fun c26 => ?_)
    · refine x_iconst (v := 0) dX5_claimsOf_49 rfl ?_
      refine x_ior dX5_claimsOf_50 ?_
      refine e_ist_n (lv' := fun w9 => [.ref m, .int x, .int (bI b), .int w9, .int (nI i)]) dX5_claimsOf_51 (Nat.le_of_ble_eq_true rfl) rfl (fun _ => rfl) (fun v1 ev1 => ?_)
      refine e_inc (lv' := fun w9 => [.ref m, .int x, .int (bI b), .int v1, .int w9]) dX5_claimsOf_52 rfl rfl (fun _ => rfl) (fun v2 ev2 => ?_)
      refine x_goto (tgt := 5) dX5_claimsOf_55 (by decide) ?_
      obtain rfl := inc1 ev2
      exact ih (i + 1) v1 (by omega) (by rw [← hR, lp_s]; congr 1; all_goals (subst ev1; simp [bsf, bit, *]))
    · refine x_iload_n dX5_claimsOf_29 rfl ?_
      refine x_if_eq (tgt := 42) dX5_claimsOf_30 (by decide) (fun c30 => ?_) (fun c30 => ?_)
      · have c30 := bI_eq c30
        refine x_iconst (v := 1) dX5_claimsOf_42 rfl ?_
        refine x_iload dX5_claimsOf_43 rfl ?_
        refine x_ishl dX5_claimsOf_45 ?_
        refine x_goto (tgt := 50) dX5_claimsOf_46 (by decide) ?_
        refine x_ior dX5_claimsOf_50 ?_
        refine e_ist_n (lv' := fun w9 => [.ref m, .int x, .int (bI b), .int w9, .int (nI i)]) dX5_claimsOf_51 (Nat.le_of_ble_eq_true rfl) rfl (fun _ => rfl) (fun v3 ev3 => ?_)
        refine e_inc (lv' := fun w9 => [.ref m, .int x, .int (bI b), .int v3, .int w9]) dX5_claimsOf_52 rfl rfl (fun _ => rfl) (fun v4 ev4 => ?_)
        refine x_goto (tgt := 5) dX5_claimsOf_55 (by decide) ?_
        obtain rfl := inc1 ev4
        exact ih (i + 1) v3 (by omega) (by rw [← hR, lp_s]; congr 1; all_goals (subst ev3; simp [bsf, bit, *]))
      · have c30 := bI_ne c30
        refine x_aload_n dX5_claimsOf_33 rfl ?_
        refine x_iload dX5_claimsOf_34 rfl ?_
        refine c_VR dX5_claimsOf_36 kX5_stands iX5_stands q815 (t_mstands _ H (j := i) (by omega)) H.ob rfl rfl rfl (Nat.le_of_ble_eq_true rfl) ⟨Nat.le_refl _, Nat.le_refl _⟩ ?_
        refine x_if_eq (tgt := 49) dX5_claimsOf_39 (by decide) (fun c39 => ?_) (fun c39 => ?_)
        · have c39 := bI_eq c39
          refine x_iconst (v := 0) dX5_claimsOf_49 rfl ?_
          refine x_ior dX5_claimsOf_50 ?_
          refine e_ist_n (lv' := fun w9 => [.ref m, .int x, .int (bI b), .int w9, .int (nI i)]) dX5_claimsOf_51 (Nat.le_of_ble_eq_true rfl) rfl (fun _ => rfl) (fun v5 ev5 => ?_)
          refine e_inc (lv' := fun w9 => [.ref m, .int x, .int (bI b), .int v5, .int w9]) dX5_claimsOf_52 rfl rfl (fun _ => rfl) (fun v6 ev6 => ?_)
          refine x_goto (tgt := 5) dX5_claimsOf_55 (by decide) ?_
          obtain rfl := inc1 ev6
          exact ih (i + 1) v5 (by omega) (by rw [← hR, lp_s]; congr 1; all_goals (subst ev5; simp [bsf, bit, *]))
        · have c39 := bI_ne c39
          refine x_iconst (v := 1) dX5_claimsOf_42 rfl ?_
          refine x_iload dX5_claimsOf_43 rfl ?_
          refine x_ishl dX5_claimsOf_45 ?_
          refine x_goto (tgt := 50) dX5_claimsOf_46 (by decide) ?_
          refine x_ior dX5_claimsOf_50 ?_
          refine e_ist_n (lv' := fun w9 => [.ref m, .int x, .int (bI b), .int w9, .int (nI i)]) dX5_claimsOf_51 (Nat.le_of_ble_eq_true rfl) rfl (fun _ => rfl) (fun v7 ev7 => ?_)
          refine e_inc (lv' := fun w9 => [.ref m, .int x, .int (bI b), .int v7, .int w9]) dX5_claimsOf_52 rfl rfl (fun _ => rfl) (fun v8 ev8 => ?_)
          refine x_goto (tgt := 5) dX5_claimsOf_55 (by decide) ?_
          obtain rfl := inc1 ev8
          exact ih (i + 1) v7 (by omega) (by rw [← hR, lp_s]; congr 1; all_goals (subst ev7; simp [bsf, bit, *]))

set_option maxRecDepth 100000 in
set_option maxHeartbeats 4000000 in
theorem t_claimsOf {st : Nat → Nat} (d : Nat) {z : Nat} {h : Nat → Option va_E} {m : Nat} {fs : List Value} {ζ : Sg} (H : ZAt h m fs ζ) (hC : COk ζ) (x : Int32) (b : Bool) : CT st (d + 3) yX5_claimsOf cX5_claimsOf 5 (some .int) [.ref m, .int x, .int (bI b)] (z, h) 0 0 (RO (some (.int (mCof ζ x b))) (z, h)) := by
  refine CT.of (lv := [.ref m, .int x, .int (bI b), .null, .null]) (by decide) (Nat.le_of_ble_eq_true rfl) rfl rfl ?_
  refine x_iconst (v := 0) dX5_claimsOf_0 rfl ?_
  refine e_ist_n (lv' := fun w9 => [.ref m, .int x, .int (bI b), .int w9, .null]) dX5_claimsOf_1 (Nat.le_of_ble_eq_true rfl) rfl (fun _ => rfl) (fun v1 ev1 => ?_)
  refine x_iconst (v := 0) dX5_claimsOf_2 rfl ?_
  refine e_ist (lv' := fun w9 => [.ref m, .int x, .int (bI b), .int v1, .int w9]) dX5_claimsOf_3 (Nat.le_of_ble_eq_true rfl) rfl (fun _ => rfl) (fun v2 ev2 => ?_)
  subst ev1 ev2
  exact L_claimsOf d H hC x b (nCl ζ) 0 0 (by omega) rfl

set_option maxRecDepth 100000 in
set_option maxHeartbeats 4000000 in
theorem L_lotsGot {st : Nat → Nat} (d : Nat) {z : Nat} {h : Nat → Option va_E} {m : Nat} {fs : List Value} {ζ : Sg} (H : ZAt h m fs ζ) (hC : COk ζ) (x : Int32) : ∀ (k : Nat) (i : Nat) (r : Int32), i + k = nCl ζ → lp (mGotF ζ x) i k r = mGot ζ x → Ev st (d + 2) yX5_lotsGot cX5_lotsGot 4 (some .int) (z, h) 0 0 (RO (some (.int (mGot ζ x))) (z, h)) 4 [.ref m, .int x, .int r, .int (nI i)] [] (z, h) 0 0 := by
  intro k
  induction k with
  | zero =>
    intro i r hik hR
    refine x_iload_n dX5_lotsGot_4 rfl ?_
    refine x_aload_n dX5_lotsGot_5 rfl ?_
    refine x_get dX5_lotsGot_6 fX5_7 H.ob rfl ?_
    refine x_bipush (v := 8) dX5_lotsGot_9 rfl ?_
    refine z_ald (13) (1) dX5_lotsGot_11 H (show zAt 13 1 8 from ⟨by decide, rfl⟩) (show ¬ (8 : Int32) < 0 ∧ Int32.toNatClampNeg 8 = 8 by decide) ?_
    rw [hC.1]
    have hC30 := hC.2
    refine x_icmp_ge (tgt := 56) dX5_lotsGot_12 (by decide) (fun c12 => ?_) (fun c12 => absurd (nI_le (a := nCl ζ) (b := i) (by omega) (by omega)) c12)
    refine x_iload_n dX5_lotsGot_56 rfl ?_
    refine x_iret dX5_lotsGot_57 (Or.inl rfl) rfl (Nat.le_refl _) ?_
    exact RO.mk hR
  | succ k ih =>
    intro i r hik hR
    refine x_iload_n dX5_lotsGot_4 rfl ?_
    refine x_aload_n dX5_lotsGot_5 rfl ?_
    refine x_get dX5_lotsGot_6 fX5_7 H.ob rfl ?_
    refine x_bipush (v := 8) dX5_lotsGot_9 rfl ?_
    refine z_ald (13) (1) dX5_lotsGot_11 H (show zAt 13 1 8 from ⟨by decide, rfl⟩) (show ¬ (8 : Int32) < 0 ∧ Int32.toNatClampNeg 8 = 8 by decide) ?_
    rw [hC.1]
    have hC30 := hC.2
    refine x_icmp_ge (tgt := 56) dX5_lotsGot_12 (by decide) (fun c12 => absurd c12 (nI_ge (a := i) (b := nCl ζ) (by omega) (by omega))) (fun c12 => ?_)
    refine x_iload_n dX5_lotsGot_15 rfl ?_
    refine x_aload_n dX5_lotsGot_16 rfl ?_
    refine x_iload_n dX5_lotsGot_17 rfl ?_
    refine x_iconst (v := 0) dX5_lotsGot_18 rfl ?_
    refine c_VR dX5_lotsGot_19 kX5_claimOf iX5_claimOf q811 (t_claimOf _ H (a := (nI i)) (j := i) (b := 0) (w := 0) (5) rfl (by omega) rfl (by decide) rfl) H.ob rfl rfl rfl (Nat.le_of_ble_eq_true rfl) ⟨Nat.le_refl _, Nat.le_refl _⟩ ?_
    refine x_iload_n dX5_lotsGot_22 rfl ?_
    refine x_icmp_ne (tgt := 47) dX5_lotsGot_23 (by decide) (fun c23 => ?_) (fun c23 => ?_)
    · refine x_iconst (v := 0) dX5_lotsGot_47 rfl ?_
      refine x_ior dX5_lotsGot_48 ?_
      refine e_ist_n (lv' := fun w9 => [.ref m, .int x, .int w9, .int (nI i)]) dX5_lotsGot_49 (Nat.le_of_ble_eq_true rfl) rfl (fun _ => rfl) (fun v1 ev1 => ?_)
      refine e_inc (lv' := fun w9 => [.ref m, .int x, .int v1, .int w9]) dX5_lotsGot_50 rfl rfl (fun _ => rfl) (fun v2 ev2 => ?_)
      refine x_goto (tgt := 4) dX5_lotsGot_53 (by decide) ?_
      obtain rfl := inc1 ev2
      exact ih (i + 1) v1 (by omega) (by rw [← hR, lp_s]; congr 1; all_goals (subst ev1; simp [mGotF, *]))
    · refine x_aload_n dX5_lotsGot_26 rfl ?_
      refine x_iload_n dX5_lotsGot_27 rfl ?_
      refine x_bipush (v := 6) dX5_lotsGot_28 rfl ?_
      refine c_VR dX5_lotsGot_30 kX5_claimOf iX5_claimOf q811 (t_claimOf _ H (a := (nI i)) (j := i) (b := 6) (w := 6) (11) rfl (by omega) rfl (by decide) rfl) H.ob rfl rfl rfl (Nat.le_of_ble_eq_true rfl) ⟨Nat.le_refl _, Nat.le_refl _⟩ ?_
      refine x_if_le (tgt := 47) dX5_lotsGot_33 (by decide) (fun c33 => ?_) (fun c33 => ?_)
      · refine x_iconst (v := 0) dX5_lotsGot_47 rfl ?_
        refine x_ior dX5_lotsGot_48 ?_
        refine e_ist_n (lv' := fun w9 => [.ref m, .int x, .int w9, .int (nI i)]) dX5_lotsGot_49 (Nat.le_of_ble_eq_true rfl) rfl (fun _ => rfl) (fun v3 ev3 => ?_)
        refine e_inc (lv' := fun w9 => [.ref m, .int x, .int v3, .int w9]) dX5_lotsGot_50 rfl rfl (fun _ => rfl) (fun v4 ev4 => ?_)
        refine x_goto (tgt := 4) dX5_lotsGot_53 (by decide) ?_
        obtain rfl := inc1 ev4
        exact ih (i + 1) v3 (by omega) (by rw [← hR, lp_s]; congr 1; all_goals (subst ev3; simp [mGotF, *]))
      · refine x_iconst (v := 1) dX5_lotsGot_36 rfl ?_
        refine x_aload_n dX5_lotsGot_37 rfl ?_
        refine x_iload_n dX5_lotsGot_38 rfl ?_
        refine x_iconst (v := 1) dX5_lotsGot_39 rfl ?_
        refine c_VR dX5_lotsGot_40 kX5_claimOf iX5_claimOf q811 (t_claimOf _ H (a := (nI i)) (j := i) (b := 1) (w := 1) (6) rfl (by omega) rfl (by decide) rfl) H.ob rfl rfl rfl (Nat.le_of_ble_eq_true rfl) ⟨Nat.le_refl _, Nat.le_refl _⟩ ?_
        refine x_ishl dX5_lotsGot_43 ?_
        refine x_goto (tgt := 48) dX5_lotsGot_44 (by decide) ?_
        refine x_ior dX5_lotsGot_48 ?_
        refine e_ist_n (lv' := fun w9 => [.ref m, .int x, .int w9, .int (nI i)]) dX5_lotsGot_49 (Nat.le_of_ble_eq_true rfl) rfl (fun _ => rfl) (fun v5 ev5 => ?_)
        refine e_inc (lv' := fun w9 => [.ref m, .int x, .int v5, .int w9]) dX5_lotsGot_50 rfl rfl (fun _ => rfl) (fun v6 ev6 => ?_)
        refine x_goto (tgt := 4) dX5_lotsGot_53 (by decide) ?_
        obtain rfl := inc1 ev6
        exact ih (i + 1) v5 (by omega) (by rw [← hR, lp_s]; congr 1; all_goals (subst ev5; simp [mGotF, *]))

set_option maxRecDepth 100000 in
set_option maxHeartbeats 4000000 in
theorem t_lotsGot {st : Nat → Nat} (d : Nat) {z : Nat} {h : Nat → Option va_E} {m : Nat} {fs : List Value} {ζ : Sg} (H : ZAt h m fs ζ) (hC : COk ζ) (x : Int32) : CT st (d + 2) yX5_lotsGot cX5_lotsGot 4 (some .int) [.ref m, .int x] (z, h) 0 0 (RO (some (.int (mGot ζ x))) (z, h)) := by
  refine CT.of (lv := [.ref m, .int x, .null, .null]) (by decide) (Nat.le_of_ble_eq_true rfl) rfl rfl ?_
  refine x_iconst (v := 0) dX5_lotsGot_0 rfl ?_
  refine e_ist_n (lv' := fun w9 => [.ref m, .int x, .int w9, .null]) dX5_lotsGot_1 (Nat.le_of_ble_eq_true rfl) rfl (fun _ => rfl) (fun v1 ev1 => ?_)
  refine x_iconst (v := 0) dX5_lotsGot_2 rfl ?_
  refine e_ist_n (lv' := fun w9 => [.ref m, .int x, .int v1, .int w9]) dX5_lotsGot_3 (Nat.le_of_ble_eq_true rfl) rfl (fun _ => rfl) (fun v2 ev2 => ?_)
  subst ev1 ev2
  exact L_lotsGot d H hC x (nCl ζ) 0 0 (by omega) rfl

set_option maxRecDepth 100000 in
set_option maxHeartbeats 4000000 in
theorem L_valueOf {st : Nat → Nat} (d : Nat) {z : Nat} {h : Nat → Option va_E} {m : Nat} {fs : List Value} {ζ : Sg} (H : ZAt h m fs ζ) (hL : LOk ζ) (x : Int32) : ∀ (k : Nat) (i : Nat) (r : Int32), i + k = nLo ζ → lp (sSumf (ζ 1) x) i k r = mVals ζ x → Ev st (d + 2) yX5_valueOf cX5_valueOf 4 (some .int) (z, h) 0 0 (RO (some (.int (mVals ζ x))) (z, h)) 4 [.ref m, .int x, .int r, .int (nI i)] [] (z, h) 0 0 := by
  intro k
  induction k with
  | zero =>
    intro i r hik hR
    refine x_iload_n dX5_valueOf_4 rfl ?_
    refine x_aload_n dX5_valueOf_5 rfl ?_
    refine x_get dX5_valueOf_6 fX5_7 H.ob rfl ?_
    refine x_bipush (v := 7) dX5_valueOf_9 rfl ?_
    refine z_ald (13) (0) dX5_valueOf_11 H (show zAt 13 0 7 from ⟨by decide, rfl⟩) (show ¬ (7 : Int32) < 0 ∧ Int32.toNatClampNeg 7 = 7 by decide) ?_
    rw [hL.1]
    have hC30 := hL.2
    refine x_icmp_ge (tgt := 43) dX5_valueOf_12 (by decide) (fun c12 => ?_) (fun c12 => absurd (nI_le (a := nLo ζ) (b := i) (by omega) (by omega)) c12)
    refine x_iload_n dX5_valueOf_43 rfl ?_
    refine x_iret dX5_valueOf_44 (Or.inl rfl) rfl (Nat.le_refl _) ?_
    exact RO.mk hR
  | succ k ih =>
    intro i r hik hR
    refine x_iload_n dX5_valueOf_4 rfl ?_
    refine x_aload_n dX5_valueOf_5 rfl ?_
    refine x_get dX5_valueOf_6 fX5_7 H.ob rfl ?_
    refine x_bipush (v := 7) dX5_valueOf_9 rfl ?_
    refine z_ald (13) (0) dX5_valueOf_11 H (show zAt 13 0 7 from ⟨by decide, rfl⟩) (show ¬ (7 : Int32) < 0 ∧ Int32.toNatClampNeg 7 = 7 by decide) ?_
    rw [hL.1]
    have hC30 := hL.2
    refine x_icmp_ge (tgt := 43) dX5_valueOf_12 (by decide) (fun c12 => absurd c12 (nI_ge (a := i) (b := nLo ζ) (by omega) (by omega))) (fun c12 => ?_)
    refine x_iload_n dX5_valueOf_15 rfl ?_
    refine x_iload_n dX5_valueOf_16 rfl ?_
    refine x_iload_n dX5_valueOf_17 rfl ?_
    refine x_ishr dX5_valueOf_18 ?_
    refine x_iconst (v := 1) dX5_valueOf_19 rfl ?_
    refine x_iand dX5_valueOf_20 ?_
    refine x_iconst (v := 1) dX5_valueOf_21 rfl ?_
    refine x_icmp_ne (tgt := 34) dX5_valueOf_22 (by decide) (fun c22 => ?_) (fun c22 => ?_)
    · refine x_iconst (v := 0) dX5_valueOf_34 rfl ?_
      refine x_iadd dX5_valueOf_35 ?_
      refine e_ist_n (lv' := fun w9 => [.ref m, .int x, .int w9, .int (nI i)]) dX5_valueOf_36 (Nat.le_of_ble_eq_true rfl) rfl (fun _ => rfl) (fun v1 ev1 => ?_)
      refine e_inc (lv' := fun w9 => [.ref m, .int x, .int v1, .int w9]) dX5_valueOf_37 rfl rfl (fun _ => rfl) (fun v2 ev2 => ?_)
      refine x_goto (tgt := 4) dX5_valueOf_40 (by decide) ?_
      obtain rfl := inc1 ev2
      exact ih (i + 1) v1 (by omega) (by rw [← hR, lp_s]; congr 1; all_goals (subst ev1; simp [sSumf, sHolds, *]))
    · refine x_aload_n dX5_valueOf_25 rfl ?_
      refine x_iload_n dX5_valueOf_26 rfl ?_
      refine x_iconst (v := 0) dX5_valueOf_27 rfl ?_
      refine c_VR dX5_valueOf_28 kX5_lotOf iX5_lotOf q777 (t_lotOf _ H (a := (nI i)) (j := i) (b := 0) (w := 0) (1) rfl (by omega) rfl (by decide) rfl) H.ob rfl rfl rfl (Nat.le_of_ble_eq_true rfl) ⟨Nat.le_refl _, Nat.le_refl _⟩ ?_
      refine x_goto (tgt := 35) dX5_valueOf_31 (by decide) ?_
      refine x_iadd dX5_valueOf_35 ?_
      refine e_ist_n (lv' := fun w9 => [.ref m, .int x, .int w9, .int (nI i)]) dX5_valueOf_36 (Nat.le_of_ble_eq_true rfl) rfl (fun _ => rfl) (fun v3 ev3 => ?_)
      refine e_inc (lv' := fun w9 => [.ref m, .int x, .int v3, .int w9]) dX5_valueOf_37 rfl rfl (fun _ => rfl) (fun v4 ev4 => ?_)
      refine x_goto (tgt := 4) dX5_valueOf_40 (by decide) ?_
      obtain rfl := inc1 ev4
      exact ih (i + 1) v3 (by omega) (by rw [← hR, lp_s]; congr 1; all_goals (subst ev3; simp [sSumf, sHolds, *]))

set_option maxRecDepth 100000 in
set_option maxHeartbeats 4000000 in
theorem t_valueOf {st : Nat → Nat} (d : Nat) {z : Nat} {h : Nat → Option va_E} {m : Nat} {fs : List Value} {ζ : Sg} (H : ZAt h m fs ζ) (hL : LOk ζ) (x : Int32) : CT st (d + 2) yX5_valueOf cX5_valueOf 4 (some .int) [.ref m, .int x] (z, h) 0 0 (RO (some (.int (mVals ζ x))) (z, h)) := by
  refine CT.of (lv := [.ref m, .int x, .null, .null]) (by decide) (Nat.le_of_ble_eq_true rfl) rfl rfl ?_
  refine x_iconst (v := 0) dX5_valueOf_0 rfl ?_
  refine e_ist_n (lv' := fun w9 => [.ref m, .int x, .int w9, .null]) dX5_valueOf_1 (Nat.le_of_ble_eq_true rfl) rfl (fun _ => rfl) (fun v1 ev1 => ?_)
  refine x_iconst (v := 0) dX5_valueOf_2 rfl ?_
  refine e_ist_n (lv' := fun w9 => [.ref m, .int x, .int v1, .int w9]) dX5_valueOf_3 (Nat.le_of_ble_eq_true rfl) rfl (fun _ => rfl) (fun v2 ev2 => ?_)
  subst ev1 ev2
  exact L_valueOf d H hL x (nLo ζ) 0 0 (by omega) rfl

set_option maxRecDepth 100000 in
set_option maxHeartbeats 4000000 in
theorem L_purses {st : Nat → Nat} (d : Nat) {z : Nat} {h : Nat → Option va_E} {m : Nat} {fs : List Value} {ζ : Sg} (H : ZAt h m fs ζ)  : ∀ (k : Nat) (i : Nat) (r : Int32), i + k = 16 → lp (fun i a => a + ζ 14 i) i k r = mPurses ζ → Ev st (d + 1) yX5_purses cX5_purses 3 (some .int) (z, h) 0 0 (RO (some (.int (mPurses ζ))) (z, h)) 4 [.ref m, .int r, .int (nI i)] [] (z, h) 0 0 := by
  intro k
  induction k with
  | zero =>
    intro i r hik hR
    refine x_iload_n dX5_purses_4 rfl ?_
    refine x_bipush (v := 16) dX5_purses_5 rfl ?_
    refine x_icmp_ge (tgt := 29) dX5_purses_7 (by decide) (fun c7 => ?_) (fun c7 => absurd (nI_le (a := 16) (b := i) (by omega) (by omega)) c7)
    refine x_iload_n dX5_purses_29 rfl ?_
    refine x_iret dX5_purses_30 (Or.inl rfl) rfl (Nat.le_refl _) ?_
    exact RO.mk hR
  | succ k ih =>
    intro i r hik hR
    refine x_iload_n dX5_purses_4 rfl ?_
    refine x_bipush (v := 16) dX5_purses_5 rfl ?_
    refine x_icmp_ge (tgt := 29) dX5_purses_7 (by decide) (fun c7 => absurd c7 (nI_ge (a := i) (b := 16) (by omega) (by omega))) (fun c7 => ?_)
    refine x_iload_n dX5_purses_10 rfl ?_
    refine x_aload_n dX5_purses_11 rfl ?_
    refine x_get dX5_purses_12 fX5_7 H.ob rfl ?_
    refine x_sipush (v := 268) dX5_purses_15 rfl ?_
    refine x_iload_n dX5_purses_18 rfl ?_
    refine x_iadd dX5_purses_19 ?_
    refine z_ald (14) (i) dX5_purses_20 H (zAt_pu (by omega)) (ix_eq (b := 268 + i) (by rw [show (268 : Int32) = nI 268 from rfl, nI_add]) (by omega)) ?_
    refine x_iadd dX5_purses_21 ?_
    refine e_ist_n (lv' := fun w9 => [.ref m, .int w9, .int (nI i)]) dX5_purses_22 (Nat.le_of_ble_eq_true rfl) rfl (fun _ => rfl) (fun v1 ev1 => ?_)
    refine e_inc (lv' := fun w9 => [.ref m, .int v1, .int w9]) dX5_purses_23 rfl rfl (fun _ => rfl) (fun v2 ev2 => ?_)
    refine x_goto (tgt := 4) dX5_purses_26 (by decide) ?_
    obtain rfl := inc1 ev2
    exact ih (i + 1) v1 (by omega) (by rw [← hR, lp_s]; congr 1; all_goals (subst ev1; simp [bsf, *]))

set_option maxRecDepth 100000 in
set_option maxHeartbeats 4000000 in
theorem t_purses {st : Nat → Nat} (d : Nat) {z : Nat} {h : Nat → Option va_E} {m : Nat} {fs : List Value} {ζ : Sg} (H : ZAt h m fs ζ)  : CT st (d + 1) yX5_purses cX5_purses 3 (some .int) [.ref m] (z, h) 0 0 (RO (some (.int (mPurses ζ))) (z, h)) := by
  refine CT.of (lv := [.ref m, .null, .null]) (by decide) (Nat.le_of_ble_eq_true rfl) rfl rfl ?_
  refine x_iconst (v := 0) dX5_purses_0 rfl ?_
  refine e_ist_n (lv' := fun w9 => [.ref m, .int w9, .null]) dX5_purses_1 (Nat.le_of_ble_eq_true rfl) rfl (fun _ => rfl) (fun v1 ev1 => ?_)
  refine x_iconst (v := 0) dX5_purses_2 rfl ?_
  refine e_ist_n (lv' := fun w9 => [.ref m, .int v1, .int w9]) dX5_purses_3 (Nat.le_of_ble_eq_true rfl) rfl (fun _ => rfl) (fun v2 ev2 => ?_)
  subst ev1 ev2
  exact L_purses d H  (16) 0 0 (by omega) rfl

set_option maxRecDepth 100000 in
set_option maxHeartbeats 4000000 in
theorem L_standingClaims {st : Nat → Nat} (d : Nat) {z : Nat} {h : Nat → Option va_E} {m : Nat} {fs : List Value} {ζ : Sg} (H : ZAt h m fs ζ) (hC : COk ζ)  : ∀ (k : Nat) (i : Nat) (r : Int32), i + k = 16 → lp (fun i a => a ||| mCof ζ (nI i) true) i k r = mStCl ζ → Ev st (d + 4) yX5_standingClaims cX5_standingClaims 3 (some .int) (z, h) 0 0 (RO (some (.int (mStCl ζ))) (z, h)) 4 [.ref m, .int r, .int (nI i)] [] (z, h) 0 0 := by
  intro k
  induction k with
  | zero =>
    intro i r hik hR
    refine x_iload_n dX5_standingClaims_4 rfl ?_
    refine x_bipush (v := 16) dX5_standingClaims_5 rfl ?_
    refine x_icmp_ge (tgt := 25) dX5_standingClaims_7 (by decide) (fun c7 => ?_) (fun c7 => absurd (nI_le (a := 16) (b := i) (by omega) (by omega)) c7)
    refine x_iload_n dX5_standingClaims_25 rfl ?_
    refine x_iret dX5_standingClaims_26 (Or.inl rfl) rfl (Nat.le_refl _) ?_
    exact RO.mk hR
  | succ k ih =>
    intro i r hik hR
    refine x_iload_n dX5_standingClaims_4 rfl ?_
    refine x_bipush (v := 16) dX5_standingClaims_5 rfl ?_
    refine x_icmp_ge (tgt := 25) dX5_standingClaims_7 (by decide) (fun c7 => absurd c7 (nI_ge (a := i) (b := 16) (by omega) (by omega))) (fun c7 => ?_)
    refine x_iload_n dX5_standingClaims_10 rfl ?_
    refine x_aload_n dX5_standingClaims_11 rfl ?_
    refine x_iload_n dX5_standingClaims_12 rfl ?_
    refine x_iconst (v := 1) dX5_standingClaims_13 rfl ?_
    refine c_VR dX5_standingClaims_14 kX5_claimsOf iX5_claimsOf q950 (t_claimsOf _ H hC _ true) H.ob rfl rfl rfl (Nat.le_of_ble_eq_true rfl) ⟨Nat.le_refl _, Nat.le_refl _⟩ ?_
    refine x_ior dX5_standingClaims_17 ?_
    refine e_ist_n (lv' := fun w9 => [.ref m, .int w9, .int (nI i)]) dX5_standingClaims_18 (Nat.le_of_ble_eq_true rfl) rfl (fun _ => rfl) (fun v1 ev1 => ?_)
    refine e_inc (lv' := fun w9 => [.ref m, .int v1, .int w9]) dX5_standingClaims_19 rfl rfl (fun _ => rfl) (fun v2 ev2 => ?_)
    refine x_goto (tgt := 4) dX5_standingClaims_22 (by decide) ?_
    obtain rfl := inc1 ev2
    exact ih (i + 1) v1 (by omega) (by rw [← hR, lp_s]; congr 1; all_goals (subst ev1; simp [bsf, *]))

set_option maxRecDepth 100000 in
set_option maxHeartbeats 4000000 in
theorem t_standingClaims {st : Nat → Nat} (d : Nat) {z : Nat} {h : Nat → Option va_E} {m : Nat} {fs : List Value} {ζ : Sg} (H : ZAt h m fs ζ) (hC : COk ζ)  : CT st (d + 4) yX5_standingClaims cX5_standingClaims 3 (some .int) [.ref m] (z, h) 0 0 (RO (some (.int (mStCl ζ))) (z, h)) := by
  refine CT.of (lv := [.ref m, .null, .null]) (by decide) (Nat.le_of_ble_eq_true rfl) rfl rfl ?_
  refine x_iconst (v := 0) dX5_standingClaims_0 rfl ?_
  refine e_ist_n (lv' := fun w9 => [.ref m, .int w9, .null]) dX5_standingClaims_1 (Nat.le_of_ble_eq_true rfl) rfl (fun _ => rfl) (fun v1 ev1 => ?_)
  refine x_iconst (v := 0) dX5_standingClaims_2 rfl ?_
  refine e_ist_n (lv' := fun w9 => [.ref m, .int v1, .int w9]) dX5_standingClaims_3 (Nat.le_of_ble_eq_true rfl) rfl (fun _ => rfl) (fun v2 ev2 => ?_)
  subst ev1 ev2
  exact L_standingClaims d H hC (16) 0 0 (by omega) rfl

set_option maxRecDepth 100000 in
set_option maxHeartbeats 4000000 in
theorem L_heirsWhoClaimed {st : Nat → Nat} (d : Nat) {z : Nat} {h : Nat → Option va_E} {m : Nat} {fs : List Value} {ζ : Sg} (H : ZAt h m fs ζ) (hC : COk ζ)  : ∀ (k : Nat) (i : Nat) (r : Int32), i + k = 16 → lp (fun i a => if mCof ζ (nI i) false = 0 then a else a + 1) i k r = mWho ζ → Ev st (d + 4) yX5_heirsWhoClaimed cX5_heirsWhoClaimed 3 (some .int) (z, h) 0 0 (RO (some (.int (mWho ζ))) (z, h)) 4 [.ref m, .int r, .int (nI i)] [] (z, h) 0 0 := by
  intro k
  induction k with
  | zero =>
    intro i r hik hR
    refine x_iload_n dX5_heirsWhoClaimed_4 rfl ?_
    refine x_bipush (v := 16) dX5_heirsWhoClaimed_5 rfl ?_
    refine x_icmp_ge (tgt := 33) dX5_heirsWhoClaimed_7 (by decide) (fun c7 => ?_) (fun c7 => absurd (nI_le (a := 16) (b := i) (by omega) (by omega)) c7)
    refine x_iload_n dX5_heirsWhoClaimed_33 rfl ?_
    refine x_iret dX5_heirsWhoClaimed_34 (Or.inl rfl) rfl (Nat.le_refl _) ?_
    exact RO.mk hR
  | succ k ih =>
    intro i r hik hR
    refine x_iload_n dX5_heirsWhoClaimed_4 rfl ?_
    refine x_bipush (v := 16) dX5_heirsWhoClaimed_5 rfl ?_
    refine x_icmp_ge (tgt := 33) dX5_heirsWhoClaimed_7 (by decide) (fun c7 => absurd c7 (nI_ge (a := i) (b := 16) (by omega) (by omega))) (fun c7 => ?_)
    refine x_iload_n dX5_heirsWhoClaimed_10 rfl ?_
    refine x_aload_n dX5_heirsWhoClaimed_11 rfl ?_
    refine x_iload_n dX5_heirsWhoClaimed_12 rfl ?_
    refine x_iconst (v := 0) dX5_heirsWhoClaimed_13 rfl ?_
    refine c_VR dX5_heirsWhoClaimed_14 kX5_claimsOf iX5_claimsOf q950 (t_claimsOf _ H hC _ false) H.ob rfl rfl rfl (Nat.le_of_ble_eq_true rfl) ⟨Nat.le_refl _, Nat.le_refl _⟩ ?_
    refine x_if_eq (tgt := 24) dX5_heirsWhoClaimed_17 (by decide) (fun c17 => ?_) (fun c17 => ?_)
    · refine x_iconst (v := 0) dX5_heirsWhoClaimed_24 rfl ?_
      refine x_iadd dX5_heirsWhoClaimed_25 ?_
      refine e_ist_n (lv' := fun w9 => [.ref m, .int w9, .int (nI i)]) dX5_heirsWhoClaimed_26 (Nat.le_of_ble_eq_true rfl) rfl (fun _ => rfl) (fun v1 ev1 => ?_)
      refine e_inc (lv' := fun w9 => [.ref m, .int v1, .int w9]) dX5_heirsWhoClaimed_27 rfl rfl (fun _ => rfl) (fun v2 ev2 => ?_)
      refine x_goto (tgt := 4) dX5_heirsWhoClaimed_30 (by decide) ?_
      obtain rfl := inc1 ev2
      exact ih (i + 1) v1 (by omega) (by rw [← hR, lp_s]; congr 1; all_goals (subst ev1; simp [bsf, *]))
    · refine x_iconst (v := 1) dX5_heirsWhoClaimed_20 rfl ?_
      refine x_goto (tgt := 25) dX5_heirsWhoClaimed_21 (by decide) ?_
      refine x_iadd dX5_heirsWhoClaimed_25 ?_
      refine e_ist_n (lv' := fun w9 => [.ref m, .int w9, .int (nI i)]) dX5_heirsWhoClaimed_26 (Nat.le_of_ble_eq_true rfl) rfl (fun _ => rfl) (fun v3 ev3 => ?_)
      refine e_inc (lv' := fun w9 => [.ref m, .int v3, .int w9]) dX5_heirsWhoClaimed_27 rfl rfl (fun _ => rfl) (fun v4 ev4 => ?_)
      refine x_goto (tgt := 4) dX5_heirsWhoClaimed_30 (by decide) ?_
      obtain rfl := inc1 ev4
      exact ih (i + 1) v3 (by omega) (by rw [← hR, lp_s]; congr 1; all_goals (subst ev3; simp [bsf, *]))

set_option maxRecDepth 100000 in
set_option maxHeartbeats 4000000 in
theorem t_heirsWhoClaimed {st : Nat → Nat} (d : Nat) {z : Nat} {h : Nat → Option va_E} {m : Nat} {fs : List Value} {ζ : Sg} (H : ZAt h m fs ζ) (hC : COk ζ)  : CT st (d + 4) yX5_heirsWhoClaimed cX5_heirsWhoClaimed 3 (some .int) [.ref m] (z, h) 0 0 (RO (some (.int (mWho ζ))) (z, h)) := by
  refine CT.of (lv := [.ref m, .null, .null]) (by decide) (Nat.le_of_ble_eq_true rfl) rfl rfl ?_
  refine x_iconst (v := 0) dX5_heirsWhoClaimed_0 rfl ?_
  refine e_ist_n (lv' := fun w9 => [.ref m, .int w9, .null]) dX5_heirsWhoClaimed_1 (Nat.le_of_ble_eq_true rfl) rfl (fun _ => rfl) (fun v1 ev1 => ?_)
  refine x_iconst (v := 0) dX5_heirsWhoClaimed_2 rfl ?_
  refine e_ist_n (lv' := fun w9 => [.ref m, .int v1, .int w9]) dX5_heirsWhoClaimed_3 (Nat.le_of_ble_eq_true rfl) rfl (fun _ => rfl) (fun v2 ev2 => ?_)
  subst ev1 ev2
  exact L_heirsWhoClaimed d H hC (16) 0 0 (by omega) rfl

set_option maxRecDepth 100000 in
set_option maxHeartbeats 4000000 in
theorem L_shareOf {st : Nat → Nat} (d : Nat) {z : Nat} {h : Nat → Option va_E} {m : Nat} {fs : List Value} {ζ : Sg} (H : ZAt h m fs ζ) (hL : LOk ζ) (hC : COk ζ) {j : Nat} (hj : j < 12) (x s : Int32) : ∀ (k : Nat) (i : Nat) (r : Int32), i + k = nCl ζ → lp (mShF ζ j x (mNear ζ s)) i k r = mShare ζ j x s → Ev st (d + 4) yX5_shareOf cX5_shareOf 7 (some .int) (z, h) 0 0 (RO (some (.int (mShare ζ j x s))) (z, h)) 13 [.ref m, .int (nI j), .int x, .int s, .int (mNear ζ s), .int r, .int (nI i)] [] (z, h) 0 0 := by
  intro k
  induction k with
  | zero =>
    intro i r hik hR
    refine x_iload dX5_shareOf_13 rfl ?_
    refine x_aload_n dX5_shareOf_15 rfl ?_
    refine x_get dX5_shareOf_16 fX5_7 H.ob rfl ?_
    refine x_bipush (v := 8) dX5_shareOf_19 rfl ?_
    refine z_ald (13) (1) dX5_shareOf_21 H (show zAt 13 1 8 from ⟨by decide, rfl⟩) (show ¬ (8 : Int32) < 0 ∧ Int32.toNatClampNeg 8 = 8 by decide) ?_
    rw [hC.1]
    have hC30 := hC.2
    refine x_icmp_ge (tgt := 74) dX5_shareOf_22 (by decide) (fun c22 => ?_) (fun c22 => absurd (nI_le (a := nCl ζ) (b := i) (by omega) (by omega)) c22)
    refine x_iload dX5_shareOf_74 rfl ?_
    refine x_iret dX5_shareOf_76 (Or.inl rfl) rfl (Nat.le_refl _) ?_
    exact RO.mk hR
  | succ k ih =>
    intro i r hik hR
    refine x_iload dX5_shareOf_13 rfl ?_
    refine x_aload_n dX5_shareOf_15 rfl ?_
    refine x_get dX5_shareOf_16 fX5_7 H.ob rfl ?_
    refine x_bipush (v := 8) dX5_shareOf_19 rfl ?_
    refine z_ald (13) (1) dX5_shareOf_21 H (show zAt 13 1 8 from ⟨by decide, rfl⟩) (show ¬ (8 : Int32) < 0 ∧ Int32.toNatClampNeg 8 = 8 by decide) ?_
    rw [hC.1]
    have hC30 := hC.2
    refine x_icmp_ge (tgt := 74) dX5_shareOf_22 (by decide) (fun c22 => absurd c22 (nI_ge (a := i) (b := nCl ζ) (by omega) (by omega))) (fun c22 => ?_)
    refine x_iload dX5_shareOf_25 rfl ?_
    refine x_iload dX5_shareOf_27 rfl ?_
    refine x_iload dX5_shareOf_29 rfl ?_
    refine x_ishr dX5_shareOf_31 ?_
    refine x_iconst (v := 1) dX5_shareOf_32 rfl ?_
    refine x_iand dX5_shareOf_33 ?_
    refine x_iconst (v := 1) dX5_shareOf_34 rfl ?_
    refine x_icmp_ne (tgt := 64) dX5_shareOf_35 (by decide) (fun c35 => ?_) (fun c35 => ?_)
    · refine x_iconst (v := 0) dX5_shareOf_64 rfl ?_
      refine x_iadd dX5_shareOf_65 ?_
      refine e_ist (lv' := fun w9 => [.ref m, .int (nI j), .int x, .int s, .int (mNear ζ s), .int w9, .int (nI i)]) dX5_shareOf_66 (Nat.le_of_ble_eq_true rfl) rfl (fun _ => rfl) (fun v1 ev1 => ?_)
      refine e_inc (lv' := fun w9 => [.ref m, .int (nI j), .int x, .int s, .int (mNear ζ s), .int v1, .int w9]) dX5_shareOf_68 rfl rfl (fun _ => rfl) (fun v2 ev2 => ?_)
      refine x_goto (tgt := 13) dX5_shareOf_71 (by decide) ?_
      obtain rfl := inc1 ev2
      exact ih (i + 1) v1 (by omega) (by rw [← hR, lp_s]; congr 1; all_goals (subst ev1; simp [mShF, sHolds, *]))
    · refine x_aload_n dX5_shareOf_38 rfl ?_
      refine x_iload dX5_shareOf_39 rfl ?_
      refine x_iconst (v := 0) dX5_shareOf_41 rfl ?_
      refine c_VR dX5_shareOf_42 kX5_claimOf iX5_claimOf q811 (t_claimOf _ H (a := (nI i)) (j := i) (b := 0) (w := 0) (5) rfl (by omega) rfl (by decide) rfl) H.ob rfl rfl rfl (Nat.le_of_ble_eq_true rfl) ⟨Nat.le_refl _, Nat.le_refl _⟩ ?_
      refine x_iload_n dX5_shareOf_45 rfl ?_
      refine x_icmp_ne (tgt := 64) dX5_shareOf_46 (by decide) (fun c46 => ?_) (fun c46 => ?_)
      · refine x_iconst (v := 0) dX5_shareOf_64 rfl ?_
        refine x_iadd dX5_shareOf_65 ?_
        refine e_ist (lv' := fun w9 => [.ref m, .int (nI j), .int x, .int s, .int (mNear ζ s), .int w9, .int (nI i)]) dX5_shareOf_66 (Nat.le_of_ble_eq_true rfl) rfl (fun _ => rfl) (fun v3 ev3 => ?_)
        refine e_inc (lv' := fun w9 => [.ref m, .int (nI j), .int x, .int s, .int (mNear ζ s), .int v3, .int w9]) dX5_shareOf_68 rfl rfl (fun _ => rfl) (fun v4 ev4 => ?_)
        refine x_goto (tgt := 13) dX5_shareOf_71 (by decide) ?_
        obtain rfl := inc1 ev4
        exact ih (i + 1) v3 (by omega) (by rw [← hR, lp_s]; congr 1; all_goals (subst ev3; simp [mShF, sHolds, *]))
      · refine x_iload dX5_shareOf_49 rfl ?_
        refine x_iload dX5_shareOf_51 rfl ?_
        refine x_aload_n dX5_shareOf_53 rfl ?_
        refine x_iload_n dX5_shareOf_54 rfl ?_
        refine c_VR dX5_shareOf_55 kX5_shared iX5_shared q899 (t_shared _ H (j := j) (by omega)) H.ob rfl rfl rfl (Nat.le_of_ble_eq_true rfl) ⟨Nat.le_refl _, Nat.le_refl _⟩ ?_
        refine c_SR dX5_shareOf_58 kX5_part q904 q903 (t_mpart _ (j := i) _ _ (mSize_ne (c := i) (by omega) (by rw [← sHolds_gb _ (by omega)]; simp [sHolds, *]))) rfl rfl (Nat.le_of_ble_eq_true rfl) ⟨Nat.le_refl _, Nat.le_refl _⟩ ?_
        refine x_goto (tgt := 65) dX5_shareOf_61 (by decide) ?_
        refine x_iadd dX5_shareOf_65 ?_
        refine e_ist (lv' := fun w9 => [.ref m, .int (nI j), .int x, .int s, .int (mNear ζ s), .int w9, .int (nI i)]) dX5_shareOf_66 (Nat.le_of_ble_eq_true rfl) rfl (fun _ => rfl) (fun v5 ev5 => ?_)
        refine e_inc (lv' := fun w9 => [.ref m, .int (nI j), .int x, .int s, .int (mNear ζ s), .int v5, .int w9]) dX5_shareOf_68 rfl rfl (fun _ => rfl) (fun v6 ev6 => ?_)
        refine x_goto (tgt := 13) dX5_shareOf_71 (by decide) ?_
        obtain rfl := inc1 ev6
        exact ih (i + 1) v5 (by omega) (by rw [← hR, lp_s]; congr 1; all_goals (subst ev5; simp [mShF, sHolds, *]))

set_option maxRecDepth 100000 in
set_option maxHeartbeats 4000000 in
theorem t_shareOf {st : Nat → Nat} (d : Nat) {z : Nat} {h : Nat → Option va_E} {m : Nat} {fs : List Value} {ζ : Sg} (H : ZAt h m fs ζ) (hL : LOk ζ) (hC : COk ζ) {j : Nat} (hj : j < 12) (x s : Int32) : CT st (d + 4) yX5_shareOf cX5_shareOf 7 (some .int) [.ref m, .int (nI j), .int x, .int s] (z, h) 0 0 (RO (some (.int (mShare ζ j x s))) (z, h)) := by
  refine CT.of (lv := [.ref m, .int (nI j), .int x, .int s, .null, .null, .null]) (by decide) (Nat.le_of_ble_eq_true rfl) rfl rfl ?_
  refine x_aload_n dX5_shareOf_0 rfl ?_
  refine x_iload_n dX5_shareOf_1 rfl ?_
  refine c_VR dX5_shareOf_2 kX5_nearestOnes iX5_nearestOnes q891 (t_nearestOnes _ H hC _) H.ob rfl rfl rfl (Nat.le_of_ble_eq_true rfl) ⟨Nat.le_refl _, Nat.le_refl _⟩ ?_
  refine e_ist (lv' := fun w9 => [.ref m, .int (nI j), .int x, .int s, .int w9, .null, .null]) dX5_shareOf_5 (Nat.le_of_ble_eq_true rfl) rfl (fun _ => rfl) (fun v1 ev1 => ?_)
  refine x_iconst (v := 0) dX5_shareOf_7 rfl ?_
  refine e_ist (lv' := fun w9 => [.ref m, .int (nI j), .int x, .int s, .int v1, .int w9, .null]) dX5_shareOf_8 (Nat.le_of_ble_eq_true rfl) rfl (fun _ => rfl) (fun v2 ev2 => ?_)
  refine x_iconst (v := 0) dX5_shareOf_10 rfl ?_
  refine e_ist (lv' := fun w9 => [.ref m, .int (nI j), .int x, .int s, .int v1, .int v2, .int w9]) dX5_shareOf_11 (Nat.le_of_ble_eq_true rfl) rfl (fun _ => rfl) (fun v3 ev3 => ?_)
  subst ev1 ev2 ev3
  exact L_shareOf d H hL hC hj x s (nCl ζ) 0 0 (by omega) rfl

set_option maxRecDepth 100000 in
set_option maxHeartbeats 4000000 in
theorem t_lapsesIn {st : Nat → Nat} (d : Nat) {z : Nat} {h : Nat → Option va_E} {m : Nat} {fs : List Value} {ζ : Sg} (H : ZAt h m fs ζ) {j : Nat} (hj : j < 30) : CT st (d + 2) yX5_lapsesIn cX5_lapsesIn 3 (some .int) [.ref m, .int (nI j)] (z, h) 0 0 (RO (some (.int (sLapse ζ j))) (z, h)) := by
  refine CT.of (lv := [.ref m, .int (nI j), .null]) (by decide) (Nat.le_of_ble_eq_true rfl) rfl rfl ?_
  refine x_aload_n dX5_lapsesIn_0 rfl ?_
  refine x_get dX5_lapsesIn_1 fX5_7 H.ob rfl ?_
  refine x_iconst (v := 2) dX5_lapsesIn_4 rfl ?_
  refine z_ald (0) (2) dX5_lapsesIn_5 H (show zAt 0 2 2 from ⟨by decide, rfl⟩) (show ¬ (2 : Int32) < 0 ∧ Int32.toNatClampNeg 2 = 2 by decide) ?_
  refine x_aload_n dX5_lapsesIn_6 rfl ?_
  refine x_iload_n dX5_lapsesIn_7 rfl ?_
  refine x_iconst (v := 5) dX5_lapsesIn_8 rfl ?_
  refine c_VR dX5_lapsesIn_9 kX5_claimOf iX5_claimOf q811 (t_claimOf _ H (a := (nI j)) (j := j) (b := 5) (w := 5) (10) rfl (by omega) rfl (by decide) rfl) H.ob rfl rfl rfl (Nat.le_of_ble_eq_true rfl) ⟨Nat.le_refl _, Nat.le_refl _⟩ ?_
  refine x_isub dX5_lapsesIn_12 ?_
  refine e_ist_n (lv' := fun w9 => [.ref m, .int (nI j), .int w9]) dX5_lapsesIn_13 (Nat.le_of_ble_eq_true rfl) rfl (fun _ => rfl) (fun v1 ev1 => ?_)
  refine x_iload_n dX5_lapsesIn_14 rfl ?_
  refine x_iconst (v := 1) dX5_lapsesIn_15 rfl ?_
  refine x_icmp_ge (tgt := 23) dX5_lapsesIn_16 (by decide) (fun c16 => ?_) (fun c16 => ?_)
  · refine x_iload_n dX5_lapsesIn_23 rfl ?_
    refine x_iret dX5_lapsesIn_24 (Or.inl rfl) rfl (Nat.le_refl _) ?_
    exact RO.mk (by subst_vars; simp [sLapse, max32_1, *])
  · refine x_iconst (v := 1) dX5_lapsesIn_19 rfl ?_
    refine x_goto (tgt := 24) dX5_lapsesIn_20 (by decide) ?_
    refine x_iret dX5_lapsesIn_24 (Or.inl rfl) rfl (Nat.le_refl _) ?_
    exact RO.mk (by subst_vars; simp [sLapse, max32_1, *])
