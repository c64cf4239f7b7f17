def PQ (z a : Nat) (h : Nat → Option va_E) (r0 : Option Value) (T : Nat → Nat) (P : PD) : Option Value → Hp → Prop := fun r hp' => r = r0 ∧ ∃ h', hp' = (z, h') ∧ PadAt h' a T P ∧ Fr a 2 h h'

set_option maxRecDepth 100000 in
set_option maxHeartbeats 4000000 in
theorem t_empty {st : Nat → Nat} (d : Nat) {z : Nat} {h : Nat → Option va_E} {a : Nat} {T : Nat → Nat} {P : PD} (H : PadAt h a T P) (hP : P.1 ≤ 80)  : CT st (d + 1) yX3_empty cX3_empty 2 (some .int) [.ref a] (z, h) 0 0 (PMO (some (.int (nI P.1))) z a h T (0, P.2)) := by
  refine CT.of (lv := [.ref a, .null]) (by decide) (Nat.le_of_ble_eq_true rfl) rfl rfl ?_
  refine x_aload_n dX3_empty_0 rfl ?_
  refine x_get dX3_empty_1 fX3_15 H.ob rfl ?_
  refine e_ist_n (lv' := fun w9 => [.ref a, .int w9]) dX3_empty_4 (Nat.le_of_ble_eq_true rfl) rfl (fun _ => rfl) (fun v1 ev1 => ?_)
  refine x_aload_n dX3_empty_5 rfl ?_
  refine x_iconst (v := 0) dX3_empty_6 rfl ?_
  refine p_put (j := 1) (0, P.2) dX3_empty_7 fX3_15 H rfl rfl (Nat.le_of_ble_eq_true rfl) rfl (fun h2 hO2 hF2 => ?_)
  refine x_iload_n dX3_empty_10 rfl ?_
  refine x_iret dX3_empty_11 (Or.inl rfl) rfl (Nat.le_refl _) ?_
  exact ⟨by rw [ev1], _, rfl, hO2, hF2⟩

set_option maxRecDepth 100000 in
set_option maxHeartbeats 4000000 in
theorem L_firstFault {st : Nat → Nat} (d : Nat) {z : Nat} {h : Nat → Option va_E} {a : Nat} {T : Nat → Nat} {q : Bool × PD} : ∀ (k : Nat) (i : Nat) (g : Bool) (P : PD) (hq1 : Nat → Option va_E), i + k = 80 → PadAt hq1 a T P → POkP P → Fr a 2 h hq1 → ffl T k g P = q → Ev st (d + 5) yX3_firstFault cX3_firstFault 3 (some .int) (z, h) 0 0 (PMO (some (.int (if q.1 = true then -6 else nI q.2.2.1))) z a h T q.2) 12 [.ref a, .int (bI g), .int (nI i)] [] (z, hq1) 0 0 := by
  intro k
  induction k with
  | zero =>
    intro i g P hq1 hik HQ hP hFQ hR
    refine x_iload_n dX3_firstFault_12 rfl ?_
    refine x_if_eq (tgt := 61) dX3_firstFault_13 (by decide) (fun c13 => ?_) (fun c13 => ?_)
    · have c13 := bI_eq c13
      refine x_iload_n dX3_firstFault_61 rfl ?_
      refine x_if_eq (tgt := 70) dX3_firstFault_62 (by decide) (fun c62 => ?_) (fun c62 => ?_)
      · have c62 := bI_eq c62
        refine x_aload_n dX3_firstFault_70 rfl ?_
        refine x_get dX3_firstFault_71 fX3_19 HQ.ob rfl ?_
        refine x_iret dX3_firstFault_74 (Or.inl rfl) rfl (Nat.le_refl _) ?_
        have hq2 : q = (g, P) := by rw [← hR]; simp [ffl, *]
        subst hq2
        exact ⟨by simp [c62], _, rfl, HQ, hFQ⟩
      · have c62 := bI_ne c62
        refine x_bipush (v := (-6)) dX3_firstFault_65 rfl ?_
        refine x_goto (tgt := 74) dX3_firstFault_67 (by decide) ?_
        refine x_iret dX3_firstFault_74 (Or.inl rfl) rfl (Nat.le_refl _) ?_
        have hq2 : q = (g, P) := by rw [← hR]; simp [ffl, *]
        subst hq2
        exact ⟨by simp [c62], _, rfl, HQ, hFQ⟩
    · have c13 := bI_ne c13
      refine x_aload_n dX3_firstFault_16 rfl ?_
      refine x_get dX3_firstFault_17 fX3_19 HQ.ob rfl ?_
      refine x_aload_n dX3_firstFault_20 rfl ?_
      refine x_get dX3_firstFault_21 fX3_15 HQ.ob rfl ?_
      refine x_icmp_ge (tgt := 61) dX3_firstFault_24 (by decide) (fun c24 => ?_) (fun c24 => ?_)
      · refine x_iload_n dX3_firstFault_61 rfl ?_
        refine x_if_eq (tgt := 70) dX3_firstFault_62 (by decide) (fun c62 => ?_) (fun c62 => ?_)
        · have c62 := bI_eq c62
          refine x_aload_n dX3_firstFault_70 rfl ?_
          refine x_get dX3_firstFault_71 fX3_19 HQ.ob rfl ?_
          refine x_iret dX3_firstFault_74 (Or.inl rfl) rfl (Nat.le_refl _) ?_
          have hq2 : q = (g, P) := by rw [← hR]; simp [ffl, *]
          subst hq2
          exact ⟨by simp [c62], _, rfl, HQ, hFQ⟩
        · have c62 := bI_ne c62
          refine x_bipush (v := (-6)) dX3_firstFault_65 rfl ?_
          refine x_goto (tgt := 74) dX3_firstFault_67 (by decide) ?_
          refine x_iret dX3_firstFault_74 (Or.inl rfl) rfl (Nat.le_refl _) ?_
          have hq2 : q = (g, P) := by rw [← hR]; simp [ffl, *]
          subst hq2
          exact ⟨by simp [c62], _, rfl, HQ, hFQ⟩
      · refine x_iload_n dX3_firstFault_27 rfl ?_
        refine x_bipush (v := 80) dX3_firstFault_28 rfl ?_
        refine x_icmp_ge (tgt := 61) dX3_firstFault_30 (by decide) (fun c30 => ?_) (fun c30 => absurd (nI_le (a := 80) (b := i) (by omega) (by omega)) c30)
        refine x_iload_n dX3_firstFault_61 rfl ?_
        refine x_if_eq (tgt := 70) dX3_firstFault_62 (by decide) (fun c62 => ?_) (fun c62 => ?_)
        · have c62 := bI_eq c62
          refine x_aload_n dX3_firstFault_70 rfl ?_
          refine x_get dX3_firstFault_71 fX3_19 HQ.ob rfl ?_
          refine x_iret dX3_firstFault_74 (Or.inl rfl) rfl (Nat.le_refl _) ?_
          have hq2 : q = (g, P) := by rw [← hR]; simp [ffl, *]
          subst hq2
          exact ⟨by simp [c62], _, rfl, HQ, hFQ⟩
        · have c62 := bI_ne c62
          refine x_bipush (v := (-6)) dX3_firstFault_65 rfl ?_
          refine x_goto (tgt := 74) dX3_firstFault_67 (by decide) ?_
          refine x_iret dX3_firstFault_74 (Or.inl rfl) rfl (Nat.le_refl _) ?_
          have hq2 : q = (g, P) := by rw [← hR]; simp [ffl, *]
          subst hq2
          exact ⟨by simp [c62], _, rfl, HQ, hFQ⟩
  | succ k ih =>
    intro i g P hq1 hik HQ hP hFQ hR
    refine x_iload_n dX3_firstFault_12 rfl ?_
    refine x_if_eq (tgt := 61) dX3_firstFault_13 (by decide) (fun c13 => ?_) (fun c13 => ?_)
    · have c13 := bI_eq c13
      refine x_iload_n dX3_firstFault_61 rfl ?_
      refine x_if_eq (tgt := 70) dX3_firstFault_62 (by decide) (fun c62 => ?_) (fun c62 => ?_)
      · have c62 := bI_eq c62
        refine x_aload_n dX3_firstFault_70 rfl ?_
        refine x_get dX3_firstFault_71 fX3_19 HQ.ob rfl ?_
        refine x_iret dX3_firstFault_74 (Or.inl rfl) rfl (Nat.le_refl _) ?_
        have hq2 : q = (g, P) := by rw [← hR]; simp [ffl, *]
        subst hq2
        exact ⟨by simp [c62], _, rfl, HQ, hFQ⟩
      · have c62 := bI_ne c62
        refine x_bipush (v := (-6)) dX3_firstFault_65 rfl ?_
        refine x_goto (tgt := 74) dX3_firstFault_67 (by decide) ?_
        refine x_iret dX3_firstFault_74 (Or.inl rfl) rfl (Nat.le_refl _) ?_
        have hq2 : q = (g, P) := by rw [← hR]; simp [ffl, *]
        subst hq2
        exact ⟨by simp [c62], _, rfl, HQ, hFQ⟩
    · have c13 := bI_ne c13
      refine x_aload_n dX3_firstFault_16 rfl ?_
      refine x_get dX3_firstFault_17 fX3_19 HQ.ob rfl ?_
      refine x_aload_n dX3_firstFault_20 rfl ?_
      refine x_get dX3_firstFault_21 fX3_15 HQ.ob rfl ?_
      refine x_icmp_ge (tgt := 61) dX3_firstFault_24 (by decide) (fun c24 => ?_) (fun c24 => ?_)
      · refine x_iload_n dX3_firstFault_61 rfl ?_
        refine x_if_eq (tgt := 70) dX3_firstFault_62 (by decide) (fun c62 => ?_) (fun c62 => ?_)
        · have c62 := bI_eq c62
          refine x_aload_n dX3_firstFault_70 rfl ?_
          refine x_get dX3_firstFault_71 fX3_19 HQ.ob rfl ?_
          refine x_iret dX3_firstFault_74 (Or.inl rfl) rfl (Nat.le_refl _) ?_
          have hq2 : q = (g, P) := by rw [← hR]; simp [ffl, *]
          subst hq2
          exact ⟨by simp [c62], _, rfl, HQ, hFQ⟩
        · have c62 := bI_ne c62
          refine x_bipush (v := (-6)) dX3_firstFault_65 rfl ?_
          refine x_goto (tgt := 74) dX3_firstFault_67 (by decide) ?_
          refine x_iret dX3_firstFault_74 (Or.inl rfl) rfl (Nat.le_refl _) ?_
          have hq2 : q = (g, P) := by rw [← hR]; simp [ffl, *]
          subst hq2
          exact ⟨by simp [c62], _, rfl, HQ, hFQ⟩
      · refine x_iload_n dX3_firstFault_27 rfl ?_
        refine x_bipush (v := 80) dX3_firstFault_28 rfl ?_
        refine x_icmp_ge (tgt := 61) dX3_firstFault_30 (by decide) (fun c30 => absurd c30 (nI_ge (a := i) (b := 80) (by omega) (by omega))) (fun c30 => ?_)
        refine x_aload_n dX3_firstFault_33 rfl ?_
        refine x_bipush (v := 59) dX3_firstFault_34 rfl ?_
        refine c_VP dX3_firstFault_36 kX3_readSign iX3_readSign q612 (t_readSign _ HQ hP 59) HQ.ob rfl rfl rfl (Nat.le_of_ble_eq_true rfl) ⟨Nat.le_refl _, Nat.le_refl _⟩ (fun h1 hO1 hF1 => ?_)
        refine x_if_eq (tgt := 53) dX3_firstFault_39 (by decide) (fun c39 => ?_) (fun c39 => ?_)
        · have c39 := bI_eq c39
          refine x_iconst (v := 0) dX3_firstFault_53 rfl ?_
          refine x_istore_n dX3_firstFault_54 (Nat.le_of_ble_eq_true rfl) rfl ?_
          refine e_inc (lv' := fun w9 => [.ref a, .int 0, .int w9]) dX3_firstFault_55 rfl rfl (fun _ => rfl) (fun v2 ev2 => ?_)
          refine x_goto (tgt := 12) dX3_firstFault_58 (by decide) ?_
          obtain rfl := inc1 ev2
          exact ih (i + 1) false _ h1 (by omega) hO1 (rdS_ok T 59 hP).1 (hFQ.tr hF1) (by rw [← hR]; simp [ffl, *])
        · have c39 := bI_ne c39
          refine x_aload_n dX3_firstFault_42 rfl ?_
          refine c_VP dX3_firstFault_43 kX3_readOrder iX3_readOrder q596 (t_readOrder _ hO1 (rdS_ok T 59 hP).1) hO1.ob rfl rfl rfl (Nat.le_of_ble_eq_true rfl) ⟨Nat.le_refl _, Nat.le_refl _⟩ (fun h3 hO3 hF3 => ?_)
          refine x_if_eq (tgt := 53) dX3_firstFault_46 (by decide) (fun c46 => ?_) (fun c46 => ?_)
          · have c46 := bI_eq c46
            refine x_iconst (v := 0) dX3_firstFault_53 rfl ?_
            refine x_istore_n dX3_firstFault_54 (Nat.le_of_ble_eq_true rfl) rfl ?_
            refine e_inc (lv' := fun w9 => [.ref a, .int 0, .int w9]) dX3_firstFault_55 rfl rfl (fun _ => rfl) (fun v4 ev4 => ?_)
            refine x_goto (tgt := 12) dX3_firstFault_58 (by decide) ?_
            obtain rfl := inc1 ev4
            exact ih (i + 1) false _ h3 (by omega) hO3 (rdO_ok T (rdS_ok T 59 hP).1).1 (hFQ.tr (hF1.tr hF3)) (by rw [← hR]; simp [ffl, *])
          · have c46 := bI_ne c46
            refine x_iconst (v := 1) dX3_firstFault_49 rfl ?_
            refine x_goto (tgt := 54) dX3_firstFault_50 (by decide) ?_
            refine x_istore_n dX3_firstFault_54 (Nat.le_of_ble_eq_true rfl) rfl ?_
            refine e_inc (lv' := fun w9 => [.ref a, .int 1, .int w9]) dX3_firstFault_55 rfl rfl (fun _ => rfl) (fun v5 ev5 => ?_)
            refine x_goto (tgt := 12) dX3_firstFault_58 (by decide) ?_
            obtain rfl := inc1 ev5
            exact ih (i + 1) true _ h3 (by omega) hO3 (rdO_ok T (rdS_ok T 59 hP).1).1 (hFQ.tr (hF1.tr hF3)) (by rw [← hR]; simp [ffl, *])

set_option maxRecDepth 100000 in
set_option maxHeartbeats 4000000 in
theorem t_firstFault {st : Nat → Nat} (d : Nat) {z : Nat} {h : Nat → Option va_E} {a : Nat} {T : Nat → Nat} {P : PD} (H : PadAt h a T P) (hP : P.1 ≤ 80)  : CT st (d + 5) yX3_firstFault cX3_firstFault 3 (some .int) [.ref a] (z, h) 0 0 (PMO (some (.int (sFault T P))) z a h T (ffAll T P).2) := by
  refine CT.of (lv := [.ref a, .null, .null]) (by decide) (Nat.le_of_ble_eq_true rfl) rfl rfl ?_
  refine x_aload_n dX3_firstFault_0 rfl ?_
  refine x_iconst (v := 0) dX3_firstFault_1 rfl ?_
  refine p_put (j := 2) (pAt P 0) dX3_firstFault_2 fX3_19 H rfl rfl (Nat.le_of_ble_eq_true rfl) rfl (fun h1 hO1 hF1 => ?_)
  refine x_aload_n dX3_firstFault_5 rfl ?_
  refine c_VP dX3_firstFault_6 kX3_readOrder iX3_readOrder q596 (t_readOrder _ hO1 (show POkP (pAt P 0) from ⟨hP, Nat.zero_le _⟩)) hO1.ob rfl rfl rfl (Nat.le_of_ble_eq_true rfl) ⟨Nat.le_refl _, Nat.le_refl _⟩ (fun h2 hO2 hF2 => ?_)
  refine e_ist_n (lv' := fun w9 => [.ref a, .int w9, .null]) dX3_firstFault_9 (Nat.le_of_ble_eq_true rfl) rfl (fun _ => rfl) (fun v3 ev3 => ?_)
  refine x_iconst (v := 1) dX3_firstFault_10 rfl ?_
  refine e_ist_n (lv' := fun w9 => [.ref a, .int v3, .int w9]) dX3_firstFault_11 (Nat.le_of_ble_eq_true rfl) rfl (fun _ => rfl) (fun v4 ev4 => ?_)
  subst ev3 ev4
  exact L_firstFault d (q := ffAll T P) 79 1 (rdO T (pAt P 0)).1 (rdO T (pAt P 0)).2 h2 rfl hO2 (rdO_ok T (show POkP (pAt P 0) from ⟨hP, Nat.zero_le _⟩)).1 (hF1.tr hF2) rfl
