def PQ (z a : Nat) (h : Nat → Option va_E) (r0 : Option Value) (T : Nat → Nat) (P : PD) : Option Value → Hp → Prop := fun r hp' => r = r0 ∧ ∃ h', hp' = (z, h') ∧ PadAt h' a T P ∧ Fr a 2 h h'

set_option maxRecDepth 100000 in
set_option maxHeartbeats 4000000 in
theorem t_empty {st : Nat → Nat} (d : Nat) {z : Nat} {h : Nat → Option va_E} {a : Nat} {T : Nat → Nat} {P : PD} (H : PadAt h a T P) (hP : P.1 ≤ 80)  : CT st (d + 1) yX3_empty cX3_empty 2 (some .int) [.ref a] (z, h) 0 0 (PMO (some (.int (nI P.1))) z a h T (0, P.2)) := by
  refine CT.of (lv := [.ref a, .null]) (by decide) (Nat.le_of_ble_eq_true rfl) rfl rfl ?_
  refine x_aload_n dX3_empty_0 rfl ?_
  refine x_get dX3_empty_1 fX3_15 H.ob rfl ?_
  refine e_ist_n (lv' := fun w9 => [.ref a, .int w9]) dX3_empty_4 (Nat.le_of_ble_eq_true rfl) rfl (fun _ => rfl) (fun v1 ev1 => ?_)
  refine x_aload_n dX3_empty_5 rfl ?_
  refine x_iconst (v := 0) dX3_empty_6 rfl ?_
  refine p_put (j := 1) (0, P.2) dX3_empty_7 fX3_15 H rfl rfl (Nat.le_of_ble_eq_true rfl) rfl (fun h2 hO2 hF2 => ?_)
  refine x_iload_n dX3_empty_10 rfl ?_
  refine x_iret dX3_empty_11 (Or.inl rfl) rfl (Nat.le_refl _) ?_
  exact ⟨by rw [ev1], _, rfl, hO2, hF2⟩

set_option maxRecDepth 100000 in
set_option maxHeartbeats 4000000 in
theorem t_codeAt {st : Nat → Nat} (d : Nat) {z : Nat} {h : Nat → Option va_E} (L : Int64) (i : Int32) : CT st (d + 1) yX3_codeAt cX3_codeAt 3 (some .int) [.long L, .int i] (z, h) 0 0 (RO (some (.int (sCode L i))) (z, h)) := by
  refine CT.of (lv := [.long L, .null, .int i]) (by decide) (Nat.le_of_ble_eq_true rfl) rfl rfl ?_
  refine x_lload_n dX3_codeAt_0 rfl ?_
  refine x_bipush (v := 8) dX3_codeAt_1 rfl ?_
  refine x_iload_n dX3_codeAt_3 rfl ?_
  refine x_imul dX3_codeAt_4 ?_
  refine x_lushr dX3_codeAt_5 rfl ?_
  refine x_l2i dX3_codeAt_6 ?_
  refine x_sipush (v := 255) dX3_codeAt_7 rfl ?_
  refine x_iand dX3_codeAt_10 ?_
  refine x_iret dX3_codeAt_11 (Or.inl rfl) rfl (Nat.le_refl _) ?_
  exact RO.mk rfl

set_option maxRecDepth 100000 in
set_option maxHeartbeats 4000000 in
theorem L_charactersIn {st : Nat → Nat} (d : Nat) {z : Nat} {h : Nat → Option va_E} (L : Int64) : ∀ (k : Nat) (i : Nat), i + k = 8 → chs L k i = sChars L → Ev st (d + 2) yX3_charactersIn cX3_charactersIn 4 (some .int) (z, h) 0 0 (RO (some (.int (sChars L))) (z, h)) 2 [.long L, .null, .int (nI i), .null] [] (z, h) 0 0 := by
  intro k
  induction k with
  | zero =>
    intro i hik hR
    refine x_iload_n dX3_charactersIn_2 rfl ?_
    refine x_bipush (v := 8) dX3_charactersIn_3 rfl ?_
    refine x_icmp_ge (tgt := 47) dX3_charactersIn_5 (by decide) (fun c5 => ?_) (fun c5 => absurd (nI_le (a := 8) (b := i) (by omega) (by omega)) c5)
    refine x_bipush (v := 8) dX3_charactersIn_47 rfl ?_
    refine x_iret dX3_charactersIn_49 (Or.inl rfl) rfl (Nat.le_refl _) ?_
    exact RO.mk (by rw [← hR]; subst_vars; first | (simp [chs, *]; done) | rfl)
  | succ k ih =>
    intro i hik hR
    refine x_iload_n dX3_charactersIn_2 rfl ?_
    refine x_bipush (v := 8) dX3_charactersIn_3 rfl ?_
    refine x_icmp_ge (tgt := 47) dX3_charactersIn_5 (by decide) (fun c5 => absurd c5 (nI_ge (a := i) (b := 8) (by omega) (by omega))) (fun c5 => ?_)
    refine x_lload_n dX3_charactersIn_8 rfl ?_
    refine x_bipush (v := 8) dX3_charactersIn_9 rfl ?_
    refine x_iload_n dX3_charactersIn_11 rfl ?_
    refine x_imul dX3_charactersIn_12 ?_
    refine x_lushr dX3_charactersIn_13 rfl ?_
    refine x_lconst (v := 0) dX3_charactersIn_14 rfl ?_
    refine x_lcmp dX3_charactersIn_15 ?_
    refine x_if_ne (tgt := 21) dX3_charactersIn_16 (by decide) (fun c16 => ?_) (fun c16 => ?_)
    · have c16 : ¬ lg_cmp (lus L (8 * nI i)) 0 = 0 := c16
      refine x_lload_n dX3_charactersIn_21 rfl ?_
      refine x_iload_n dX3_charactersIn_22 rfl ?_
      refine c_SR dX3_charactersIn_23 kX3_codeAt q612 q611 (t_codeAt _ _ _) rfl rfl (Nat.le_of_ble_eq_true rfl) ⟨Nat.le_refl _, Nat.le_refl _⟩ ?_
      refine e_ist_n (lv' := fun w9 => [.long L, .null, .int (nI i), .int w9]) dX3_charactersIn_26 (Nat.le_of_ble_eq_true rfl) rfl (fun _ => rfl) (fun v1 ev1 => ?_)
      refine x_iload_n dX3_charactersIn_27 rfl ?_
      refine x_bipush (v := 33) dX3_charactersIn_28 rfl ?_
      refine x_icmp_lt (tgt := 39) dX3_charactersIn_30 (by decide) (fun c30 => ?_) (fun c30 => ?_)
      · refine x_iconst (v := 0) dX3_charactersIn_39 rfl ?_
        refine x_iret dX3_charactersIn_40 (Or.inl rfl) rfl (Nat.le_refl _) ?_
        exact RO.mk (by rw [← hR]; subst_vars; first | (simp [chs, *]; done) | rfl)
      · refine x_iload_n dX3_charactersIn_33 rfl ?_
        refine x_bipush (v := 126) dX3_charactersIn_34 rfl ?_
        refine x_icmp_le (tgt := 41) dX3_charactersIn_36 (by decide) (fun c36 => ?_) (fun c36 => ?_)
        · refine e_inc (lv' := fun w9 => [.long L, .null, .int w9, .int v1]) dX3_charactersIn_41 rfl rfl (fun _ => rfl) (fun v2 ev2 => ?_)
          refine x_goto (tgt := 2) dX3_charactersIn_44 (by decide) ?_
          obtain rfl := inc1 ev2
          refine x_forget (i := 3) (lv' := [.long L, .null, .int (nI (i + 1)), .null]) rfl ?_
          exact ih (i + 1) (by omega) (by rw [← hR]; subst ev1; simp [chs, *])
        · refine x_iconst (v := 0) dX3_charactersIn_39 rfl ?_
          refine x_iret dX3_charactersIn_40 (Or.inl rfl) rfl (Nat.le_refl _) ?_
          exact RO.mk (by rw [← hR]; subst_vars; first | (simp [chs, *]; done) | rfl)
    · have c16 : lg_cmp (lus L (8 * nI i)) 0 = 0 := c16
      refine x_iload_n dX3_charactersIn_19 rfl ?_
      refine x_iret dX3_charactersIn_20 (Or.inl rfl) rfl (Nat.le_refl _) ?_
      exact RO.mk (by rw [← hR]; subst_vars; first | (simp [chs, *]; done) | rfl)

set_option maxRecDepth 100000 in
set_option maxHeartbeats 4000000 in
theorem t_charactersIn {st : Nat → Nat} (d : Nat) {z : Nat} {h : Nat → Option va_E} (L : Int64) : CT st (d + 2) yX3_charactersIn cX3_charactersIn 4 (some .int) [.long L] (z, h) 0 0 (RO (some (.int (sChars L))) (z, h)) := by
  refine CT.of (lv := [.long L, .null, .null, .null]) (by decide) (Nat.le_of_ble_eq_true rfl) rfl rfl ?_
  refine x_iconst (v := 0) dX3_charactersIn_0 rfl ?_
  refine e_ist_n (lv' := fun w9 => [.long L, .null, .int w9, .null]) dX3_charactersIn_1 (Nat.le_of_ble_eq_true rfl) rfl (fun _ => rfl) (fun v1 ev1 => ?_)
  subst ev1
  exact L_charactersIn d L 8 0 rfl rfl

set_option maxRecDepth 100000 in
set_option maxHeartbeats 4000000 in
theorem L_append {st : Nat → Nat} (d : Nat) {z : Nat} {h : Nat → Option va_E} {a : Nat} {L : Int64} {m : Int32} {q : (Nat → Nat) × Nat} {R : Nat × Nat × Int32 × Int32 × Int32} : ∀ (k : Nat) (T1 : Nat → Nat) (P1 : PD) (hq1 : Nat → Option va_E) (v : Int32), v = nI k + (-1) → P1.1 + k ≤ 80 → PadAt hq1 a T1 P1 → Fr a 2 h hq1 → apF L k T1 P1.1 = q → P1.2 = R → Ev st (d + 3) yX3_append cX3_append 5 (some .int) (z, h) 0 0 (PQ z a h (some (.int (nI q.2))) q.1 (q.2, R)) 31 [.ref a, .long L, .null, .int m, .int v] [] (z, hq1) 0 0 := by
  intro k
  induction k with
  | zero =>
    intro T1 P1 hq1 v hv hn HQ hFQ hq hR
    refine x_iload dX3_append_31 rfl ?_
    refine x_if_lt (tgt := 68) dX3_append_33 (by decide) (fun c33 => ?_) (fun c33 => absurd (show v < 0 from by rw [hv]; decide) c33)
    refine x_aload_n dX3_append_68 rfl ?_
    refine x_get dX3_append_69 fX3_15 HQ.ob rfl ?_
    refine x_iret dX3_append_72 (Or.inl rfl) rfl (Nat.le_refl _) ?_
    subst hq; subst hR
    exact ⟨rfl, _, rfl, HQ, hFQ⟩
  | succ k ih =>
    intro T1 P1 hq1 v hv hn HQ hFQ hq hR
    obtain rfl : v = nI k := hv.trans (pk_m1 k)
    refine x_iload dX3_append_31 rfl ?_
    refine x_if_lt (tgt := 68) dX3_append_33 (by decide) (fun c33 => absurd c33 (nI_pos (n := k) (by omega))) (fun c33 => ?_)
    refine x_aload_n dX3_append_36 rfl ?_
    refine x_get dX3_append_37 fX3_9 HQ.ob rfl ?_
    refine x_aload_n dX3_append_40 rfl ?_
    refine x_get dX3_append_41 fX3_15 HQ.ob rfl ?_
    refine x_lload_n dX3_append_44 rfl ?_
    refine x_iload dX3_append_45 rfl ?_
    refine c_SR dX3_append_47 kX3_codeAt q612 q611 (t_codeAt _ _ _) rfl rfl (Nat.le_of_ble_eq_true rfl) ⟨Nat.le_refl _, Nat.le_refl _⟩ ?_
    refine x_i2c dX3_append_50 ?_
    refine p_cast (v := cdN L k) dX3_append_51 HQ (ax_ixN (j := P1.1) (by omega) (by decide)) (pk_char _) (Nat.mod_lt _ (by decide)) (fun h1 hO1 hF1 => ?_)
    refine x_aload_n dX3_append_52 rfl ?_
    refine x_dup dX3_append_53 rfl ?_
    refine x_get dX3_append_54 fX3_15 hO1.ob rfl ?_
    refine x_iconst (v := 1) dX3_append_57 rfl ?_
    refine x_iadd dX3_append_58 ?_
    refine p_put (j := 1) (P1.1 + 1, P1.2) dX3_append_59 fX3_15 hO1 rfl rfl (Nat.le_of_ble_eq_true rfl) (by rw [nI_1]; rfl) (fun h2 hO2 hF2 => ?_)
    refine e_inc (lv' := fun w9 => [.ref a, .long L, .null, .int m, .int w9]) dX3_append_62 rfl rfl (fun _ => rfl) (fun v3 ev3 => ?_)
    refine x_goto (tgt := 31) dX3_append_65 (by decide) ?_
    exact ih _ _ _ v3 ev3 (by show P1.1 + 1 + k ≤ 80; omega) hO2 (hFQ.tr (hF1.tr hF2)) hq hR

set_option maxRecDepth 100000 in
set_option maxHeartbeats 4000000 in
theorem t_append {st : Nat → Nat} (d : Nat) {z : Nat} {h : Nat → Option va_E} {a : Nat} {T : Nat → Nat} {P : PD} (H : PadAt h a T P) (hP : P.1 ≤ 80) (L : Int64) : CT st (d + 3) yX3_append cX3_append 5 (some .int) [.ref a, .long L] (z, h) 0 0 (PQ z a h (some (.int (sPut T P L).1)) (sPut T P L).2.1 (sPut T P L).2.2) := by
  refine CT.of (lv := [.ref a, .long L, .null, .null, .null]) (by decide) (Nat.le_of_ble_eq_true rfl) rfl rfl ?_
  refine x_lload_n dX3_append_0 rfl ?_
  refine c_SR dX3_append_1 kX3_charactersIn q609 q608 (t_charactersIn _ _) rfl rfl (Nat.le_of_ble_eq_true rfl) ⟨Nat.le_refl _, Nat.le_refl _⟩ ?_
  refine e_ist_n (lv' := fun w9 => [.ref a, .long L, .null, .int w9, .null]) dX3_append_4 (Nat.le_of_ble_eq_true rfl) rfl (fun _ => rfl) (fun v1 ev1 => ?_)
  refine x_iload_n dX3_append_5 rfl ?_
  refine x_if_ne (tgt := 12) dX3_append_6 (by decide) (fun c6 => ?_) (fun c6 => ?_)
  · refine x_aload_n dX3_append_12 rfl ?_
    refine x_get dX3_append_13 fX3_15 H.ob rfl ?_
    refine x_iload_n dX3_append_16 rfl ?_
    refine x_iadd dX3_append_17 ?_
    refine x_bipush (v := 80) dX3_append_18 rfl ?_
    refine x_icmp_le (tgt := 26) dX3_append_20 (by decide) (fun c20 => ?_) (fun c20 => ?_)
    · refine x_iload_n dX3_append_26 rfl ?_
      refine x_iconst (v := 1) dX3_append_27 rfl ?_
      refine x_isub dX3_append_28 ?_
      refine e_ist (lv' := fun w9 => [.ref a, .long L, .null, .int v1, .int w9]) dX3_append_29 (Nat.le_of_ble_eq_true rfl) rfl (fun _ => rfl) (fun v2 ev2 => ?_)
      obtain ⟨m, hm8, hm⟩ : ∃ m, m ≤ 8 ∧ sChars L = nI m := chs_le L 8 0 rfl
      subst ev1
      have hm0 : m ≠ 0 := fun q => c6 (by rw [hm, q]; rfl)
      have hle : P.1 + m ≤ 80 := by
        rw [hm, nI_add] at c20
        have := hP
        exact (nI_leI (a := P.1 + m) (b := 80) (by omega) (by decide)).mp c20
      have e : sPut T P L = (nI (apF L m T P.1).2, (apF L m T P.1).1, ((apF L m T P.1).2, P.2)) := by
        unfold sPut
        rw [if_neg c6, if_pos c20, hm, nI_clamp (by omega)]
      rw [e]
      refine L_append d (q := apF L m T P.1) (R := P.2) m T P h v2 ?_ hle H Fr.rf rfl rfl
      obtain ⟨m1, rfl⟩ : ∃ m1, m = m1 + 1 := ⟨m - 1, by omega⟩
      rw [ev2, hm, nI_pred, pk_m1]
    · refine x_bipush (v := (-4)) dX3_append_23 rfl ?_
      refine x_iret dX3_append_25 (Or.inl rfl) rfl (Nat.le_refl _) ?_
      subst ev1
      exact ⟨by simp [sPut, *], _, rfl, by simpa [sPut, *] using H, Fr.rf⟩
  · refine x_bipush (v := (-2)) dX3_append_9 rfl ?_
    refine x_iret dX3_append_11 (Or.inl rfl) rfl (Nat.le_refl _) ?_
    subst ev1
    exact ⟨by simp [sPut, *], _, rfl, by simpa [sPut, *] using H, Fr.rf⟩

set_option maxRecDepth 100000 in
set_option maxHeartbeats 4000000 in
theorem L_firstFault {st : Nat → Nat} (d : Nat) {z : Nat} {h : Nat → Option va_E} {a : Nat} {T : Nat → Nat} {q : Bool × PD} : ∀ (k : Nat) (i : Nat) (g : Bool) (P : PD) (hq1 : Nat → Option va_E), i + k = 80 → PadAt hq1 a T P → POkP P → Fr a 2 h hq1 → ffl T k g P = q → Ev st (d + 5) yX3_firstFault cX3_firstFault 3 (some .int) (z, h) 0 0 (PMO (some (.int (if q.1 = true then -6 else nI q.2.2.1))) z a h T q.2) 12 [.ref a, .int (bI g), .int (nI i)] [] (z, hq1) 0 0 := by
  intro k
  induction k with
  | zero =>
    intro i g P hq1 hik HQ hP hFQ hR
    refine x_iload_n dX3_firstFault_12 rfl ?_
    refine x_if_eq (tgt := 61) dX3_firstFault_13 (by decide) (fun c13 => ?_) (fun c13 => ?_)
    · have c13 := bI_eq c13
      refine x_iload_n dX3_firstFault_61 rfl ?_
      refine x_if_eq (tgt := 70) dX3_firstFault_62 (by decide) (fun c62 => ?_) (fun c62 => ?_)
      · have c62 := bI_eq c62
        refine x_aload_n dX3_firstFault_70 rfl ?_
        refine x_get dX3_firstFault_71 fX3_19 HQ.ob rfl ?_
        refine x_iret dX3_firstFault_74 (Or.inl rfl) rfl (Nat.le_refl _) ?_
        have hq2 : q = (g, P) := by rw [← hR]; simp [ffl, *]
        subst hq2
        exact ⟨by simp [c62], _, rfl, HQ, hFQ⟩
      · have c62 := bI_ne c62
        refine x_bipush (v := (-6)) dX3_firstFault_65 rfl ?_
        refine x_goto (tgt := 74) dX3_firstFault_67 (by decide) ?_
        refine x_iret dX3_firstFault_74 (Or.inl rfl) rfl (Nat.le_refl _) ?_
        have hq2 : q = (g, P) := by rw [← hR]; simp [ffl, *]
        subst hq2
        exact ⟨by simp [c62], _, rfl, HQ, hFQ⟩
    · have c13 := bI_ne c13
      refine x_aload_n dX3_firstFault_16 rfl ?_
      refine x_get dX3_firstFault_17 fX3_19 HQ.ob rfl ?_
      refine x_aload_n dX3_firstFault_20 rfl ?_
      refine x_get dX3_firstFault_21 fX3_15 HQ.ob rfl ?_
      refine x_icmp_ge (tgt := 61) dX3_firstFault_24 (by decide) (fun c24 => ?_) (fun c24 => ?_)
      · refine x_iload_n dX3_firstFault_61 rfl ?_
        refine x_if_eq (tgt := 70) dX3_firstFault_62 (by decide) (fun c62 => ?_) (fun c62 => ?_)
        · have c62 := bI_eq c62
          refine x_aload_n dX3_firstFault_70 rfl ?_
          refine x_get dX3_firstFault_71 fX3_19 HQ.ob rfl ?_
          refine x_iret dX3_firstFault_74 (Or.inl rfl) rfl (Nat.le_refl _) ?_
          have hq2 : q = (g, P) := by rw [← hR]; simp [ffl, *]
          subst hq2
          exact ⟨by simp [c62], _, rfl, HQ, hFQ⟩
        · have c62 := bI_ne c62
          refine x_bipush (v := (-6)) dX3_firstFault_65 rfl ?_
          refine x_goto (tgt := 74) dX3_firstFault_67 (by decide) ?_
          refine x_iret dX3_firstFault_74 (Or.inl rfl) rfl (Nat.le_refl _) ?_
          have hq2 : q = (g, P) := by rw [← hR]; simp [ffl, *]
          subst hq2
          exact ⟨by simp [c62], _, rfl, HQ, hFQ⟩
      · refine x_iload_n dX3_firstFault_27 rfl ?_
        refine x_bipush (v := 80) dX3_firstFault_28 rfl ?_
        refine x_icmp_ge (tgt := 61) dX3_firstFault_30 (by decide) (fun c30 => ?_) (fun c30 => absurd (nI_le (a := 80) (b := i) (by omega) (by omega)) c30)
        refine x_iload_n dX3_firstFault_61 rfl ?_
        refine x_if_eq (tgt := 70) dX3_firstFault_62 (by decide) (fun c62 => ?_) (fun c62 => ?_)
        · have c62 := bI_eq c62
          refine x_aload_n dX3_firstFault_70 rfl ?_
          refine x_get dX3_firstFault_71 fX3_19 HQ.ob rfl ?_
          refine x_iret dX3_firstFault_74 (Or.inl rfl) rfl (Nat.le_refl _) ?_
          have hq2 : q = (g, P) := by rw [← hR]; simp [ffl, *]
          subst hq2
          exact ⟨by simp [c62], _, rfl, HQ, hFQ⟩
        · have c62 := bI_ne c62
          refine x_bipush (v := (-6)) dX3_firstFault_65 rfl ?_
          refine x_goto (tgt := 74) dX3_firstFault_67 (by decide) ?_
          refine x_iret dX3_firstFault_74 (Or.inl rfl) rfl (Nat.le_refl _) ?_
          have hq2 : q = (g, P) := by rw [← hR]; simp [ffl, *]
          subst hq2
          exact ⟨by simp [c62], _, rfl, HQ, hFQ⟩
  | succ k ih =>
    intro i g P hq1 hik HQ hP hFQ hR
    refine x_iload_n dX3_firstFault_12 rfl ?_
    refine x_if_eq (tgt := 61) dX3_firstFault_13 (by decide) (fun c13 => ?_) (fun c13 => ?_)
    · have c13 := bI_eq c13
      refine x_iload_n dX3_firstFault_61 rfl ?_
      refine x_if_eq (tgt := 70) dX3_firstFault_62 (by decide) (fun c62 => ?_) (fun c62 => ?_)
      · have c62 := bI_eq c62
        refine x_aload_n dX3_firstFault_70 rfl ?_
        refine x_get dX3_firstFault_71 fX3_19 HQ.ob rfl ?_
        refine x_iret dX3_firstFault_74 (Or.inl rfl) rfl (Nat.le_refl _) ?_
        have hq2 : q = (g, P) := by rw [← hR]; simp [ffl, *]
        subst hq2
        exact ⟨by simp [c62], _, rfl, HQ, hFQ⟩
      · have c62 := bI_ne c62
        refine x_bipush (v := (-6)) dX3_firstFault_65 rfl ?_
        refine x_goto (tgt := 74) dX3_firstFault_67 (by decide) ?_
        refine x_iret dX3_firstFault_74 (Or.inl rfl) rfl (Nat.le_refl _) ?_
        have hq2 : q = (g, P) := by rw [← hR]; simp [ffl, *]
        subst hq2
        exact ⟨by simp [c62], _, rfl, HQ, hFQ⟩
    · have c13 := bI_ne c13
      refine x_aload_n dX3_firstFault_16 rfl ?_
      refine x_get dX3_firstFault_17 fX3_19 HQ.ob rfl ?_
      refine x_aload_n dX3_firstFault_20 rfl ?_
      refine x_get dX3_firstFault_21 fX3_15 HQ.ob rfl ?_
      refine x_icmp_ge (tgt := 61) dX3_firstFault_24 (by decide) (fun c24 => ?_) (fun c24 => ?_)
      · refine x_iload_n dX3_firstFault_61 rfl ?_
        refine x_if_eq (tgt := 70) dX3_firstFault_62 (by decide) (fun c62 => ?_) (fun c62 => ?_)
        · have c62 := bI_eq c62
          refine x_aload_n dX3_firstFault_70 rfl ?_
          refine x_get dX3_firstFault_71 fX3_19 HQ.ob rfl ?_
          refine x_iret dX3_firstFault_74 (Or.inl rfl) rfl (Nat.le_refl _) ?_
          have hq2 : q = (g, P) := by rw [← hR]; simp [ffl, *]
          subst hq2
          exact ⟨by simp [c62], _, rfl, HQ, hFQ⟩
        · have c62 := bI_ne c62
          refine x_bipush (v := (-6)) dX3_firstFault_65 rfl ?_
          refine x_goto (tgt := 74) dX3_firstFault_67 (by decide) ?_
          refine x_iret dX3_firstFault_74 (Or.inl rfl) rfl (Nat.le_refl _) ?_
          have hq2 : q = (g, P) := by rw [← hR]; simp [ffl, *]
          subst hq2
          exact ⟨by simp [c62], _, rfl, HQ, hFQ⟩
      · refine x_iload_n dX3_firstFault_27 rfl ?_
        refine x_bipush (v := 80) dX3_firstFault_28 rfl ?_
        refine x_icmp_ge (tgt := 61) dX3_firstFault_30 (by decide) (fun c30 => absurd c30 (nI_ge (a := i) (b := 80) (by omega) (by omega))) (fun c30 => ?_)
        refine x_aload_n dX3_firstFault_33 rfl ?_
        refine x_bipush (v := 59) dX3_firstFault_34 rfl ?_
        refine c_VP dX3_firstFault_36 kX3_readSign iX3_readSign q646 (t_readSign _ HQ hP 59) HQ.ob rfl rfl rfl (Nat.le_of_ble_eq_true rfl) ⟨Nat.le_refl _, Nat.le_refl _⟩ (fun h1 hO1 hF1 => ?_)
        refine x_if_eq (tgt := 53) dX3_firstFault_39 (by decide) (fun c39 => ?_) (fun c39 => ?_)
        · have c39 := bI_eq c39
          refine x_iconst (v := 0) dX3_firstFault_53 rfl ?_
          refine x_istore_n dX3_firstFault_54 (Nat.le_of_ble_eq_true rfl) rfl ?_
          refine e_inc (lv' := fun w9 => [.ref a, .int 0, .int w9]) dX3_firstFault_55 rfl rfl (fun _ => rfl) (fun v2 ev2 => ?_)
          refine x_goto (tgt := 12) dX3_firstFault_58 (by decide) ?_
          obtain rfl := inc1 ev2
          exact ih (i + 1) false _ h1 (by omega) hO1 (rdS_ok T 59 hP).1 (hFQ.tr hF1) (by rw [← hR]; simp [ffl, *])
        · have c39 := bI_ne c39
          refine x_aload_n dX3_firstFault_42 rfl ?_
          refine c_VP dX3_firstFault_43 kX3_readOrder iX3_readOrder q630 (t_readOrder _ hO1 (rdS_ok T 59 hP).1) hO1.ob rfl rfl rfl (Nat.le_of_ble_eq_true rfl) ⟨Nat.le_refl _, Nat.le_refl _⟩ (fun h3 hO3 hF3 => ?_)
          refine x_if_eq (tgt := 53) dX3_firstFault_46 (by decide) (fun c46 => ?_) (fun c46 => ?_)
          · have c46 := bI_eq c46
            refine x_iconst (v := 0) dX3_firstFault_53 rfl ?_
            refine x_istore_n dX3_firstFault_54 (Nat.le_of_ble_eq_true rfl) rfl ?_
            refine e_inc (lv' := fun w9 => [.ref a, .int 0, .int w9]) dX3_firstFault_55 rfl rfl (fun _ => rfl) (fun v4 ev4 => ?_)
            refine x_goto (tgt := 12) dX3_firstFault_58 (by decide) ?_
            obtain rfl := inc1 ev4
            exact ih (i + 1) false _ h3 (by omega) hO3 (rdO_ok T (rdS_ok T 59 hP).1).1 (hFQ.tr (hF1.tr hF3)) (by rw [← hR]; simp [ffl, *])
          · have c46 := bI_ne c46
            refine x_iconst (v := 1) dX3_firstFault_49 rfl ?_
            refine x_goto (tgt := 54) dX3_firstFault_50 (by decide) ?_
            refine x_istore_n dX3_firstFault_54 (Nat.le_of_ble_eq_true rfl) rfl ?_
            refine e_inc (lv' := fun w9 => [.ref a, .int 1, .int w9]) dX3_firstFault_55 rfl rfl (fun _ => rfl) (fun v5 ev5 => ?_)
            refine x_goto (tgt := 12) dX3_firstFault_58 (by decide) ?_
            obtain rfl := inc1 ev5
            exact ih (i + 1) true _ h3 (by omega) hO3 (rdO_ok T (rdS_ok T 59 hP).1).1 (hFQ.tr (hF1.tr hF3)) (by rw [← hR]; simp [ffl, *])

set_option maxRecDepth 100000 in
set_option maxHeartbeats 4000000 in
theorem t_firstFault {st : Nat → Nat} (d : Nat) {z : Nat} {h : Nat → Option va_E} {a : Nat} {T : Nat → Nat} {P : PD} (H : PadAt h a T P) (hP : P.1 ≤ 80)  : CT st (d + 5) yX3_firstFault cX3_firstFault 3 (some .int) [.ref a] (z, h) 0 0 (PMO (some (.int (sFault T P))) z a h T (ffAll T P).2) := by
  refine CT.of (lv := [.ref a, .null, .null]) (by decide) (Nat.le_of_ble_eq_true rfl) rfl rfl ?_
  refine x_aload_n dX3_firstFault_0 rfl ?_
  refine x_iconst (v := 0) dX3_firstFault_1 rfl ?_
  refine p_put (j := 2) (pAt P 0) dX3_firstFault_2 fX3_19 H rfl rfl (Nat.le_of_ble_eq_true rfl) rfl (fun h1 hO1 hF1 => ?_)
  refine x_aload_n dX3_firstFault_5 rfl ?_
  refine c_VP dX3_firstFault_6 kX3_readOrder iX3_readOrder q630 (t_readOrder _ hO1 (show POkP (pAt P 0) from ⟨hP, Nat.zero_le _⟩)) hO1.ob rfl rfl rfl (Nat.le_of_ble_eq_true rfl) ⟨Nat.le_refl _, Nat.le_refl _⟩ (fun h2 hO2 hF2 => ?_)
  refine e_ist_n (lv' := fun w9 => [.ref a, .int w9, .null]) dX3_firstFault_9 (Nat.le_of_ble_eq_true rfl) rfl (fun _ => rfl) (fun v3 ev3 => ?_)
  refine x_iconst (v := 1) dX3_firstFault_10 rfl ?_
  refine e_ist_n (lv' := fun w9 => [.ref a, .int v3, .int w9]) dX3_firstFault_11 (Nat.le_of_ble_eq_true rfl) rfl (fun _ => rfl) (fun v4 ev4 => ?_)
  subst ev3 ev4
  exact L_firstFault d (q := ffAll T P) 79 1 (rdO T (pAt P 0)).1 (rdO T (pAt P 0)).2 h2 rfl hO2 (rdO_ok T (show POkP (pAt P 0) from ⟨hP, Nat.zero_le _⟩)).1 (hF1.tr hF2) rfl
