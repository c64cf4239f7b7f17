set_option maxRecDepth 100000 in
set_option maxHeartbeats 4000000 in
theorem t_readDigit {st : Nat → Nat} (d : Nat) {z : Nat} {h : Nat → Option va_E} {a : Nat} {T : Nat → Nat} {P : PD} (H : PadAt h a T P) (hP : POkP P)  : CT st (d + 1) yX3_readDigit cX3_readDigit 2 (some .int) [.ref a] (z, h) 0 0 (PMO (some (.int (rdD T P.1 P.2.1).1)) z a h T (pAt P (rdD T P.1 P.2.1).2)) := by
  refine CT.of (lv := [.ref a, .null]) (by decide) (Nat.le_of_ble_eq_true rfl) rfl rfl ?_
  refine x_aload_n dX3_readDigit_0 rfl ?_
  refine x_get dX3_readDigit_1 fX3_19 H.ob rfl ?_
  refine x_aload_n dX3_readDigit_4 rfl ?_
  refine x_get dX3_readDigit_5 fX3_15 H.ob rfl ?_
  refine x_icmp_ge (tgt := 39) dX3_readDigit_8 (by decide) (fun c8 => ?_) (fun c8 => ?_)
  · refine x_iconst (v := (-1)) dX3_readDigit_39 rfl ?_
    refine x_iret dX3_readDigit_40 (Or.inl rfl) rfl (Nat.le_refl _) ?_
    exact PMO.nt P.2.1 (by subst_vars; simp [rdD, *]) H Fr.rf
  · refine x_aload_n dX3_readDigit_11 rfl ?_
    refine x_get dX3_readDigit_12 fX3_9 H.ob rfl ?_
    refine x_aload_n dX3_readDigit_15 rfl ?_
    refine x_get dX3_readDigit_16 fX3_19 H.ob rfl ?_
    refine p_ald dX3_readDigit_19 H (pad_ix hP.1 (by have := hP.1; have := hP.2; omega) c8) ?_
    refine x_bipush (v := 48) dX3_readDigit_20 rfl ?_
    refine x_icmp_lt (tgt := 39) dX3_readDigit_22 (by decide) (fun c22 => ?_) (fun c22 => ?_)
    · refine x_iconst (v := (-1)) dX3_readDigit_39 rfl ?_
      refine x_iret dX3_readDigit_40 (Or.inl rfl) rfl (Nat.le_refl _) ?_
      exact PMO.nt P.2.1 (by subst_vars; simp [rdD, *]) H Fr.rf
    · refine x_aload_n dX3_readDigit_25 rfl ?_
      refine x_get dX3_readDigit_26 fX3_9 H.ob rfl ?_
      refine x_aload_n dX3_readDigit_29 rfl ?_
      refine x_get dX3_readDigit_30 fX3_19 H.ob rfl ?_
      refine p_ald dX3_readDigit_33 H (pad_ix hP.1 (by have := hP.1; have := hP.2; omega) c8) ?_
      refine x_bipush (v := 57) dX3_readDigit_34 rfl ?_
      refine x_icmp_le (tgt := 41) dX3_readDigit_36 (by decide) (fun c36 => ?_) (fun c36 => ?_)
      · refine x_aload_n dX3_readDigit_41 rfl ?_
        refine x_get dX3_readDigit_42 fX3_9 H.ob rfl ?_
        refine x_aload_n dX3_readDigit_45 rfl ?_
        refine x_get dX3_readDigit_46 fX3_19 H.ob rfl ?_
        refine p_ald dX3_readDigit_49 H (pad_ix hP.1 (by have := hP.1; have := hP.2; omega) c8) ?_
        refine x_bipush (v := 48) dX3_readDigit_50 rfl ?_
        refine x_isub dX3_readDigit_52 ?_
        refine e_ist_n (lv' := fun w9 => [.ref a, .int w9]) dX3_readDigit_53 (Nat.le_of_ble_eq_true rfl) rfl (fun _ => rfl) (fun v1 ev1 => ?_)
        refine x_aload_n dX3_readDigit_54 rfl ?_
        refine x_dup dX3_readDigit_55 rfl ?_
        refine x_get dX3_readDigit_56 fX3_19 H.ob rfl ?_
        refine x_iconst (v := 1) dX3_readDigit_59 rfl ?_
        refine x_iadd dX3_readDigit_60 ?_
        refine p_put (j := 2) (pAt P (P.2.1 + 1)) dX3_readDigit_61 fX3_19 H rfl rfl (Nat.le_of_ble_eq_true rfl) (by rw [nI_1]; rfl) (fun h2 hO2 hF2 => ?_)
        refine x_iload_n dX3_readDigit_64 rfl ?_
        refine x_iret dX3_readDigit_65 (Or.inl rfl) rfl (Nat.le_refl _) ?_
        exact PMO.nt (P.2.1 + 1) (by subst_vars; simp [rdD, *]) hO2 hF2
      · refine x_iconst (v := (-1)) dX3_readDigit_39 rfl ?_
        refine x_iret dX3_readDigit_40 (Or.inl rfl) rfl (Nat.le_refl _) ?_
        exact PMO.nt P.2.1 (by subst_vars; simp [rdD, *]) H Fr.rf

set_option maxRecDepth 100000 in
set_option maxHeartbeats 4000000 in
theorem t_readSign {st : Nat → Nat} (d : Nat) {z : Nat} {h : Nat → Option va_E} {a : Nat} {T : Nat → Nat} {P : PD} (H : PadAt h a T P) (hP : POkP P) (c : Int32) : CT st (d + 1) yX3_readSign cX3_readSign 2 (some .boolean) [.ref a, .int c] (z, h) 0 0 (PMO (some (.int (bI (rdS T c P).1))) z a h T (rdS T c P).2) := by
  refine CT.of (lv := [.ref a, .int c]) (by decide) (Nat.le_of_ble_eq_true rfl) rfl rfl ?_
  refine x_aload_n dX3_readSign_0 rfl ?_
  refine x_get dX3_readSign_1 fX3_19 H.ob rfl ?_
  refine x_aload_n dX3_readSign_4 rfl ?_
  refine x_get dX3_readSign_5 fX3_15 H.ob rfl ?_
  refine x_icmp_ge (tgt := 24) dX3_readSign_8 (by decide) (fun c8 => ?_) (fun c8 => ?_)
  · refine x_iconst (v := 0) dX3_readSign_24 rfl ?_
    refine x_iret dX3_readSign_25 (Or.inr ⟨rfl, by first | rfl | exact bI_z _⟩) rfl (Nat.le_refl _) ?_
    exact PMO.bl (by subst_vars; simp [rdS, *]) (by subst_vars; simp [rdS, bI, *]) H Fr.rf
  · refine x_aload_n dX3_readSign_11 rfl ?_
    refine x_get dX3_readSign_12 fX3_9 H.ob rfl ?_
    refine x_aload_n dX3_readSign_15 rfl ?_
    refine x_get dX3_readSign_16 fX3_19 H.ob rfl ?_
    refine p_ald dX3_readSign_19 H (pad_ix hP.1 (by have := hP.1; have := hP.2; omega) c8) ?_
    refine x_iload_n dX3_readSign_20 rfl ?_
    refine x_icmp_eq (tgt := 26) dX3_readSign_21 (by decide) (fun c21 => ?_) (fun c21 => ?_)
    · refine x_aload_n dX3_readSign_26 rfl ?_
      refine x_dup dX3_readSign_27 rfl ?_
      refine x_get dX3_readSign_28 fX3_19 H.ob rfl ?_
      refine x_iconst (v := 1) dX3_readSign_31 rfl ?_
      refine x_iadd dX3_readSign_32 ?_
      refine p_put (j := 2) (pAt P (P.2.1 + 1)) dX3_readSign_33 fX3_19 H rfl rfl (Nat.le_of_ble_eq_true rfl) (by rw [nI_1]; rfl) (fun h1 hO1 hF1 => ?_)
      refine x_iconst (v := 1) dX3_readSign_36 rfl ?_
      refine x_iret dX3_readSign_37 (Or.inr ⟨rfl, by first | rfl | exact bI_z _⟩) rfl (Nat.le_refl _) ?_
      exact PMO.bl (by subst_vars; simp [rdS, *]) (by subst_vars; simp [rdS, bI, *]) hO1 hF1
    · refine x_iconst (v := 0) dX3_readSign_24 rfl ?_
      refine x_iret dX3_readSign_25 (Or.inr ⟨rfl, by first | rfl | exact bI_z _⟩) rfl (Nat.le_refl _) ?_
      exact PMO.bl (by subst_vars; simp [rdS, *]) (by subst_vars; simp [rdS, bI, *]) H Fr.rf

set_option maxRecDepth 100000 in
set_option maxHeartbeats 4000000 in
theorem L_readNumber {st : Nat → Nat} (d : Nat) {z : Nat} {h : Nat → Option va_E} {a : Nat} {T : Nat → Nat} {q : Int32 × Nat} {R : PD} : ∀ (k : Nat) (i : Nat) (x : Int32) (P : PD) (hq1 : Nat → Option va_E), i + k = 4 → PadAt hq1 a T P → POkP P → Fr a 2 h hq1 → (rdL T P.1 k x P.2.1 = q ∧ ∀ m, pAt P m = pAt R m) → Ev st (d + 2) yX3_readNumber cX3_readNumber 4 (some .int) (z, h) 0 0 (PMO (some (.int q.1)) z a h T (pAt R q.2)) 13 [.ref a, .int x, .int (nI i), .null] [] (z, hq1) 0 0 := by
  intro k
  induction k with
  | zero =>
    intro i x P hq1 hik HQ hP hFQ hR
    refine x_iload_n dX3_readNumber_13 rfl ?_
    refine x_iconst (v := 4) dX3_readNumber_14 rfl ?_
    refine x_icmp_ge (tgt := 42) dX3_readNumber_15 (by decide) (fun c15 => ?_) (fun c15 => absurd (nI_le (a := 4) (b := i) (by omega) (by omega)) c15)
    refine x_iload_n dX3_readNumber_42 rfl ?_
    refine x_iret dX3_readNumber_43 (Or.inl rfl) rfl (Nat.le_refl _) ?_
    obtain ⟨hR, hm⟩ := hR
    subst hR
    rw [← hm]
    exact PMO.nt P.2.1 rfl HQ hFQ
  | succ k ih =>
    intro i x P hq1 hik HQ hP hFQ hR
    refine x_iload_n dX3_readNumber_13 rfl ?_
    refine x_iconst (v := 4) dX3_readNumber_14 rfl ?_
    refine x_icmp_ge (tgt := 42) dX3_readNumber_15 (by decide) (fun c15 => absurd c15 (nI_ge (a := i) (b := 4) (by omega) (by omega))) (fun c15 => ?_)
    refine x_aload_n dX3_readNumber_18 rfl ?_
    refine c_VP dX3_readNumber_19 kX3_readDigit iX3_readDigit q608 (t_readDigit _ HQ hP) HQ.ob rfl rfl rfl (Nat.le_of_ble_eq_true rfl) ⟨Nat.le_refl _, Nat.le_refl _⟩ (fun h1 hO1 hF1 => ?_)
    refine e_ist_n (lv' := fun w9 => [.ref a, .int x, .int (nI i), .int w9]) dX3_readNumber_22 (Nat.le_of_ble_eq_true rfl) rfl (fun _ => rfl) (fun v2 ev2 => ?_)
    refine x_iload_n dX3_readNumber_23 rfl ?_
    refine x_if_ge (tgt := 29) dX3_readNumber_24 (by decide) (fun c24 => ?_) (fun c24 => ?_)
    · refine x_iload_n dX3_readNumber_29 rfl ?_
      refine x_bipush (v := 10) dX3_readNumber_30 rfl ?_
      refine x_imul dX3_readNumber_32 ?_
      refine x_iload_n dX3_readNumber_33 rfl ?_
      refine x_iadd dX3_readNumber_34 ?_
      refine e_ist_n (lv' := fun w9 => [.ref a, .int w9, .int (nI i), .int v2]) dX3_readNumber_35 (Nat.le_of_ble_eq_true rfl) rfl (fun _ => rfl) (fun v3 ev3 => ?_)
      refine e_inc (lv' := fun w9 => [.ref a, .int v3, .int w9, .int v2]) dX3_readNumber_36 rfl rfl (fun _ => rfl) (fun v4 ev4 => ?_)
      refine x_goto (tgt := 13) dX3_readNumber_39 (by decide) ?_
      obtain rfl := inc1 ev4
      refine x_forget (i := 3) (lv' := [.ref a, .int v3, .int (nI (i + 1)), .null]) rfl ?_
      exact ih (i + 1) v3 _ h1 (by omega) hO1 (show POkP (pAt P (rdD T P.1 P.2.1).2) from ⟨hP.1, (rdD_at T hP.1 hP.2).2⟩) (hFQ.tr hF1) ⟨by rw [← hR.1]; subst_vars; simp [rdL, pAt, *], hR.2⟩
    · refine x_iload_n dX3_readNumber_27 rfl ?_
      refine x_iret dX3_readNumber_28 (Or.inl rfl) rfl (Nat.le_refl _) ?_
      obtain ⟨hR, hm⟩ := hR
      subst hR
      rw [← hm]
      exact PMO.nt _ (by subst ev2; unfold rdL; rw [if_neg c24]) hO1 (hFQ.tr hF1)

set_option maxRecDepth 100000 in
set_option maxHeartbeats 4000000 in
theorem t_readNumber {st : Nat → Nat} (d : Nat) {z : Nat} {h : Nat → Option va_E} {a : Nat} {T : Nat → Nat} {P : PD} (H : PadAt h a T P) (hP : POkP P)  : CT st (d + 2) yX3_readNumber cX3_readNumber 4 (some .int) [.ref a] (z, h) 0 0 (PMO (some (.int (rdN T P.1 P.2.1).1)) z a h T (pAt P (rdN T P.1 P.2.1).2)) := by
  refine CT.of (lv := [.ref a, .null, .null, .null]) (by decide) (Nat.le_of_ble_eq_true rfl) rfl rfl ?_
  refine x_aload_n dX3_readNumber_0 rfl ?_
  refine c_VP dX3_readNumber_1 kX3_readDigit iX3_readDigit q608 (t_readDigit _ H hP) H.ob rfl rfl rfl (Nat.le_of_ble_eq_true rfl) ⟨Nat.le_refl _, Nat.le_refl _⟩ (fun h1 hO1 hF1 => ?_)
  refine e_ist_n (lv' := fun w9 => [.ref a, .int w9, .null, .null]) dX3_readNumber_4 (Nat.le_of_ble_eq_true rfl) rfl (fun _ => rfl) (fun v2 ev2 => ?_)
  refine x_iload_n dX3_readNumber_5 rfl ?_
  refine x_if_gt (tgt := 11) dX3_readNumber_6 (by decide) (fun c6 => ?_) (fun c6 => ?_)
  · refine x_iconst (v := 1) dX3_readNumber_11 rfl ?_
    refine e_ist_n (lv' := fun w9 => [.ref a, .int v2, .int w9, .null]) dX3_readNumber_12 (Nat.le_of_ble_eq_true rfl) rfl (fun _ => rfl) (fun v3 ev3 => ?_)
    subst ev3
    refine L_readNumber d (q := rdN T P.1 P.2.1) (R := P) 3 1 v2 _ h1 rfl hO1 (show POkP (pAt P (rdD T P.1 P.2.1).2) from ⟨hP.1, (rdD_at T hP.1 hP.2).2⟩) hF1 ⟨by subst_vars; simp [rdN, pAt, *], fun m => rfl⟩
  · refine x_iload_n dX3_readNumber_9 rfl ?_
    refine x_iret dX3_readNumber_10 (Or.inl rfl) rfl (Nat.le_refl _) ?_
    exact PMO.nt _ (by subst_vars; simp [rdN, *]) hO1 hF1
