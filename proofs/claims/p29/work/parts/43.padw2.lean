set_option maxRecDepth 100000 in
set_option maxHeartbeats 4000000 in
theorem t_readFirst {st : Nat → Nat} (d : Nat) {z : Nat} {h : Nat → Option va_E} {a : Nat} {T : Nat → Nat} {P : PD} (H : PadAt h a T P) (hP : POkP P)  : CT st (d + 3) yX3_readFirst cX3_readFirst 1 (some .boolean) [.ref a] (z, h) 0 0 (PMO (some (.int (bI (rdF1 T P).1))) z a h T (rdF1 T P).2) := by
  refine CT.of (lv := [.ref a]) (by decide) (Nat.le_of_ble_eq_true rfl) rfl rfl ?_
  refine x_aload_n dX3_readFirst_0 rfl ?_
  refine x_aload_n dX3_readFirst_1 rfl ?_
  refine c_VP dX3_readFirst_2 kX3_readNumber iX3_readNumber q604 (t_readNumber _ H hP) H.ob rfl rfl rfl (Nat.le_of_ble_eq_true rfl) ⟨Nat.le_refl _, Nat.le_refl _⟩ (fun h1 hO1 hF1 => ?_)
  refine p_put (j := 4) (P.1, (rdN T P.1 P.2.1).2, P.2.2.1, (rdN T P.1 P.2.1).1, P.2.2.2.2.1, P.2.2.2.2.2) dX3_readFirst_5 fX3_26 hO1 rfl rfl (Nat.le_of_ble_eq_true rfl) rfl (fun h2 hO2 hF2 => ?_)
  refine x_aload_n dX3_readFirst_8 rfl ?_
  refine x_get dX3_readFirst_9 fX3_26 hO2.ob rfl ?_
  refine x_if_lt (tgt := 19) dX3_readFirst_12 (by decide) (fun c12 => ?_) (fun c12 => ?_)
  · refine x_iconst (v := 0) dX3_readFirst_19 rfl ?_
    refine x_iret dX3_readFirst_20 (Or.inr ⟨rfl, by first | rfl | exact bI_z _⟩) rfl (Nat.le_refl _) ?_
    exact PMO.bl (q := rdF1 T P) rfl (by dsimp only at c12; simp [rdF1, bI, *]) hO2 (hF1.tr hF2)
  · refine x_iconst (v := 1) dX3_readFirst_15 rfl ?_
    refine x_goto (tgt := 20) dX3_readFirst_16 (by decide) ?_
    refine x_iret dX3_readFirst_20 (Or.inr ⟨rfl, by first | rfl | exact bI_z _⟩) rfl (Nat.le_refl _) ?_
    exact PMO.bl (q := rdF1 T P) rfl (by dsimp only at c12; simp [rdF1, bI, *]) hO2 (hF1.tr hF2)

set_option maxRecDepth 100000 in
set_option maxHeartbeats 4000000 in
theorem t_readSecond {st : Nat → Nat} (d : Nat) {z : Nat} {h : Nat → Option va_E} {a : Nat} {T : Nat → Nat} {P : PD} (H : PadAt h a T P) (hP : POkP P)  : CT st (d + 3) yX3_readSecond cX3_readSecond 1 (some .boolean) [.ref a] (z, h) 0 0 (PMO (some (.int (bI (rdF2 T P).1))) z a h T (rdF2 T P).2) := by
  refine CT.of (lv := [.ref a]) (by decide) (Nat.le_of_ble_eq_true rfl) rfl rfl ?_
  refine x_aload_n dX3_readSecond_0 rfl ?_
  refine x_aload_n dX3_readSecond_1 rfl ?_
  refine c_VP dX3_readSecond_2 kX3_readNumber iX3_readNumber q604 (t_readNumber _ H hP) H.ob rfl rfl rfl (Nat.le_of_ble_eq_true rfl) ⟨Nat.le_refl _, Nat.le_refl _⟩ (fun h1 hO1 hF1 => ?_)
  refine p_put (j := 5) (P.1, (rdN T P.1 P.2.1).2, P.2.2.1, P.2.2.2.1, (rdN T P.1 P.2.1).1, P.2.2.2.2.2) dX3_readSecond_5 fX3_29 hO1 rfl rfl (Nat.le_of_ble_eq_true rfl) rfl (fun h2 hO2 hF2 => ?_)
  refine x_aload_n dX3_readSecond_8 rfl ?_
  refine x_get dX3_readSecond_9 fX3_29 hO2.ob rfl ?_
  refine x_if_lt (tgt := 19) dX3_readSecond_12 (by decide) (fun c12 => ?_) (fun c12 => ?_)
  · refine x_iconst (v := 0) dX3_readSecond_19 rfl ?_
    refine x_iret dX3_readSecond_20 (Or.inr ⟨rfl, by first | rfl | exact bI_z _⟩) rfl (Nat.le_refl _) ?_
    exact PMO.bl (q := rdF2 T P) rfl (by dsimp only at c12; simp [rdF2, bI, *]) hO2 (hF1.tr hF2)
  · refine x_iconst (v := 1) dX3_readSecond_15 rfl ?_
    refine x_goto (tgt := 20) dX3_readSecond_16 (by decide) ?_
    refine x_iret dX3_readSecond_20 (Or.inr ⟨rfl, by first | rfl | exact bI_z _⟩) rfl (Nat.le_refl _) ?_
    exact PMO.bl (q := rdF2 T P) rfl (by dsimp only at c12; simp [rdF2, bI, *]) hO2 (hF1.tr hF2)

set_option maxRecDepth 100000 in
set_option maxHeartbeats 4000000 in
theorem t_readThird {st : Nat → Nat} (d : Nat) {z : Nat} {h : Nat → Option va_E} {a : Nat} {T : Nat → Nat} {P : PD} (H : PadAt h a T P) (hP : POkP P)  : CT st (d + 2) yX3_readThird cX3_readThird 1 (some .boolean) [.ref a] (z, h) 0 0 (PMO (some (.int (bI (rdF3 T P).1))) z a h T (rdF3 T P).2) := by
  refine CT.of (lv := [.ref a]) (by decide) (Nat.le_of_ble_eq_true rfl) rfl rfl ?_
  refine x_aload_n dX3_readThird_0 rfl ?_
  refine x_aload_n dX3_readThird_1 rfl ?_
  refine c_VP dX3_readThird_2 kX3_readDigit iX3_readDigit q608 (t_readDigit _ H hP) H.ob rfl rfl rfl (Nat.le_of_ble_eq_true rfl) ⟨Nat.le_refl _, Nat.le_refl _⟩ (fun h1 hO1 hF1 => ?_)
  refine p_put (j := 6) (P.1, (rdD T P.1 P.2.1).2, P.2.2.1, P.2.2.2.1, P.2.2.2.2.1, (rdD T P.1 P.2.1).1) dX3_readThird_5 fX3_32 hO1 rfl rfl (Nat.le_of_ble_eq_true rfl) rfl (fun h2 hO2 hF2 => ?_)
  refine x_aload_n dX3_readThird_8 rfl ?_
  refine x_get dX3_readThird_9 fX3_32 hO2.ob rfl ?_
  refine x_if_lt (tgt := 19) dX3_readThird_12 (by decide) (fun c12 => ?_) (fun c12 => ?_)
  · refine x_iconst (v := 0) dX3_readThird_19 rfl ?_
    refine x_iret dX3_readThird_20 (Or.inr ⟨rfl, by first | rfl | exact bI_z _⟩) rfl (Nat.le_refl _) ?_
    exact PMO.bl (q := rdF3 T P) rfl (by dsimp only at c12; simp [rdF3, bI, *]) hO2 (hF1.tr hF2)
  · refine x_iconst (v := 1) dX3_readThird_15 rfl ?_
    refine x_goto (tgt := 20) dX3_readThird_16 (by decide) ?_
    refine x_iret dX3_readThird_20 (Or.inr ⟨rfl, by first | rfl | exact bI_z _⟩) rfl (Nat.le_refl _) ?_
    exact PMO.bl (q := rdF3 T P) rfl (by dsimp only at c12; simp [rdF3, bI, *]) hO2 (hF1.tr hF2)

set_option maxRecDepth 100000 in
set_option maxHeartbeats 4000000 in
theorem t_readOrder {st : Nat → Nat} (d : Nat) {z : Nat} {h : Nat → Option va_E} {a : Nat} {T : Nat → Nat} {P : PD} (H : PadAt h a T P) (hP : POkP P)  : CT st (d + 4) yX3_readOrder cX3_readOrder 1 (some .boolean) [.ref a] (z, h) 0 0 (PMO (some (.int (bI (rdO T P).1))) z a h T (rdO T P).2) := by
  refine CT.of (lv := [.ref a]) (by decide) (Nat.le_of_ble_eq_true rfl) rfl rfl ?_
  refine x_aload_n dX3_readOrder_0 rfl ?_
  refine x_get dX3_readOrder_1 fX3_19 H.ob rfl ?_
  refine x_aload_n dX3_readOrder_4 rfl ?_
  refine x_get dX3_readOrder_5 fX3_15 H.ob rfl ?_
  refine x_icmp_lt (tgt := 13) dX3_readOrder_8 (by decide) (fun c8 => ?_) (fun c8 => ?_)
  · have c8 := Int32.not_le.mpr c8
    refine x_aload_n dX3_readOrder_13 rfl ?_
    refine x_aload_n dX3_readOrder_14 rfl ?_
    refine x_get dX3_readOrder_15 fX3_9 H.ob rfl ?_
    refine x_aload_n dX3_readOrder_18 rfl ?_
    refine x_get dX3_readOrder_19 fX3_19 H.ob rfl ?_
    refine p_ald dX3_readOrder_22 H (pad_ix hP.1 (by have := hP.1; have := hP.2; omega) c8) ?_
    refine p_put (j := 3) (pKd P (T P.2.1)) dX3_readOrder_23 fX3_22 H (pk_charN (H.2.2 _)).1 (pk_charN (H.2.2 _)).2 (Nat.le_of_ble_eq_true rfl) rfl (fun h1 hO1 hF1 => ?_)
    refine x_aload_n dX3_readOrder_26 rfl ?_
    refine x_get dX3_readOrder_27 fX3_22 hO1.ob rfl ?_
    refine e_nm2 (fun w ew => ?_)
    by_cases k30_99 : w = 99
    · subst k30_99
      refine x_tableIn (off := 152) (tgt := 182) dX3_readOrder_30 (by decide) (by decide) rfl (by decide) ?_
      refine x_aload_n dX3_readOrder_182 rfl ?_
      refine x_dup dX3_readOrder_183 rfl ?_
      refine x_get dX3_readOrder_184 fX3_19 hO1.ob rfl ?_
      refine x_iconst (v := 1) dX3_readOrder_187 rfl ?_
      refine x_iadd dX3_readOrder_188 ?_
      refine p_put (j := 2) (pAt (pKd P (T P.2.1)) (P.2.1 + 1)) dX3_readOrder_189 fX3_19 hO1 rfl rfl (Nat.le_of_ble_eq_true rfl) (by show _ = _; rw [nI_1]; rfl) (fun h2 hO2 hF2 => ?_)
      refine x_aload_n dX3_readOrder_192 rfl ?_
      refine c_VP dX3_readOrder_193 kX3_readFirst iX3_readFirst q600 (t_readFirst _ hO2 (show POkP (pAt (pKd P (T P.2.1)) (P.2.1 + 1)) from ⟨hP.1, lt_of_nle (by have := hP.1; have := hP.2; omega) c8⟩)) hO2.ob rfl rfl rfl (Nat.le_of_ble_eq_true rfl) ⟨Nat.le_refl _, Nat.le_refl _⟩ (fun h3 hO3 hF3 => ?_)
      refine x_if_eq (tgt := 235) dX3_readOrder_196 (by decide) (fun c196 => ?_) (fun c196 => ?_)
      · have c196 := bI_eq c196
        refine x_iconst (v := 0) dX3_readOrder_235 rfl ?_
        refine x_iret dX3_readOrder_236 (Or.inr ⟨rfl, by first | rfl | exact bI_z _⟩) rfl (Nat.le_refl _) ?_
        exact PMO.bl (q := rdO T P) (by have ew2 : nI (T P.2.1) = _ := ew; simp [rdO, rdP, rdC, thn, *]) (by have ew2 : nI (T P.2.1) = _ := ew; simp [rdO, rdP, rdC, thn, bI, *]) hO3 ((hF1.tr hF2).tr hF3)
      · have c196 := bI_ne c196
        refine x_aload_n dX3_readOrder_199 rfl ?_
        refine x_bipush (v := 64) dX3_readOrder_200 rfl ?_
        refine c_VP dX3_readOrder_202 kX3_readSign iX3_readSign q612 (t_readSign _ hO3 (rdF1_ok T (show POkP (pAt (pKd P (T P.2.1)) (P.2.1 + 1)) from ⟨hP.1, lt_of_nle (by have := hP.1; have := hP.2; omega) c8⟩)).1 64) hO3.ob rfl rfl rfl (Nat.le_of_ble_eq_true rfl) ⟨Nat.le_refl _, Nat.le_refl _⟩ (fun h4 hO4 hF4 => ?_)
        refine x_if_eq (tgt := 235) dX3_readOrder_205 (by decide) (fun c205 => ?_) (fun c205 => ?_)
        · have c205 := bI_eq c205
          refine x_iconst (v := 0) dX3_readOrder_235 rfl ?_
          refine x_iret dX3_readOrder_236 (Or.inr ⟨rfl, by first | rfl | exact bI_z _⟩) rfl (Nat.le_refl _) ?_
          exact PMO.bl (q := rdO T P) (by have ew2 : nI (T P.2.1) = _ := ew; simp [rdO, rdP, rdC, thn, *]) (by have ew2 : nI (T P.2.1) = _ := ew; simp [rdO, rdP, rdC, thn, bI, *]) hO4 (((hF1.tr hF2).tr hF3).tr hF4)
        · have c205 := bI_ne c205
          refine x_aload_n dX3_readOrder_208 rfl ?_
          refine c_VP dX3_readOrder_209 kX3_readSecond iX3_readSecond q616 (t_readSecond _ hO4 (rdS_ok T 64 (rdF1_ok T (show POkP (pAt (pKd P (T P.2.1)) (P.2.1 + 1)) from ⟨hP.1, lt_of_nle (by have := hP.1; have := hP.2; omega) c8⟩)).1).1) hO4.ob rfl rfl rfl (Nat.le_of_ble_eq_true rfl) ⟨Nat.le_refl _, Nat.le_refl _⟩ (fun h5 hO5 hF5 => ?_)
          refine x_if_eq (tgt := 235) dX3_readOrder_212 (by decide) (fun c212 => ?_) (fun c212 => ?_)
          · have c212 := bI_eq c212
            refine x_iconst (v := 0) dX3_readOrder_235 rfl ?_
            refine x_iret dX3_readOrder_236 (Or.inr ⟨rfl, by first | rfl | exact bI_z _⟩) rfl (Nat.le_refl _) ?_
            exact PMO.bl (q := rdO T P) (by have ew2 : nI (T P.2.1) = _ := ew; simp [rdO, rdP, rdC, thn, *]) (by have ew2 : nI (T P.2.1) = _ := ew; simp [rdO, rdP, rdC, thn, bI, *]) hO5 ((((hF1.tr hF2).tr hF3).tr hF4).tr hF5)
          · have c212 := bI_ne c212
            refine x_aload_n dX3_readOrder_215 rfl ?_
            refine x_bipush (v := 47) dX3_readOrder_216 rfl ?_
            refine c_VP dX3_readOrder_218 kX3_readSign iX3_readSign q612 (t_readSign _ hO5 (rdF2_ok T (rdS_ok T 64 (rdF1_ok T (show POkP (pAt (pKd P (T P.2.1)) (P.2.1 + 1)) from ⟨hP.1, lt_of_nle (by have := hP.1; have := hP.2; omega) c8⟩)).1).1).1 47) hO5.ob rfl rfl rfl (Nat.le_of_ble_eq_true rfl) ⟨Nat.le_refl _, Nat.le_refl _⟩ (fun h6 hO6 hF6 => ?_)
            refine x_if_eq (tgt := 235) dX3_readOrder_221 (by decide) (fun c221 => ?_) (fun c221 => ?_)
            · have c221 := bI_eq c221
              refine x_iconst (v := 0) dX3_readOrder_235 rfl ?_
              refine x_iret dX3_readOrder_236 (Or.inr ⟨rfl, by first | rfl | exact bI_z _⟩) rfl (Nat.le_refl _) ?_
              exact PMO.bl (q := rdO T P) (by have ew2 : nI (T P.2.1) = _ := ew; simp [rdO, rdP, rdC, thn, *]) (by have ew2 : nI (T P.2.1) = _ := ew; simp [rdO, rdP, rdC, thn, bI, *]) hO6 (((((hF1.tr hF2).tr hF3).tr hF4).tr hF5).tr hF6)
            · have c221 := bI_ne c221
              refine x_aload_n dX3_readOrder_224 rfl ?_
              refine c_VP dX3_readOrder_225 kX3_readThird iX3_readThird q620 (t_readThird _ hO6 (rdS_ok T 47 (rdF2_ok T (rdS_ok T 64 (rdF1_ok T (show POkP (pAt (pKd P (T P.2.1)) (P.2.1 + 1)) from ⟨hP.1, lt_of_nle (by have := hP.1; have := hP.2; omega) c8⟩)).1).1).1).1) hO6.ob rfl rfl rfl (Nat.le_of_ble_eq_true rfl) ⟨Nat.le_refl _, Nat.le_refl _⟩ (fun h7 hO7 hF7 => ?_)
              refine x_if_eq (tgt := 235) dX3_readOrder_228 (by decide) (fun c228 => ?_) (fun c228 => ?_)
              · have c228 := bI_eq c228
                refine x_iconst (v := 0) dX3_readOrder_235 rfl ?_
                refine x_iret dX3_readOrder_236 (Or.inr ⟨rfl, by first | rfl | exact bI_z _⟩) rfl (Nat.le_refl _) ?_
                exact PMO.bl (q := rdO T P) (by have ew2 : nI (T P.2.1) = _ := ew; simp [rdO, rdP, rdC, thn, *]) (by have ew2 : nI (T P.2.1) = _ := ew; simp [rdO, rdP, rdC, thn, bI, *]) hO7 ((((((hF1.tr hF2).tr hF3).tr hF4).tr hF5).tr hF6).tr hF7)
              · have c228 := bI_ne c228
                refine x_iconst (v := 1) dX3_readOrder_231 rfl ?_
                refine x_goto (tgt := 236) dX3_readOrder_232 (by decide) ?_
                refine x_iret dX3_readOrder_236 (Or.inr ⟨rfl, by first | rfl | exact bI_z _⟩) rfl (Nat.le_refl _) ?_
                exact PMO.bl (q := rdO T P) (by have ew2 : nI (T P.2.1) = _ := ew; simp [rdO, rdP, rdC, thn, *]) (by have ew2 : nI (T P.2.1) = _ := ew; simp [rdO, rdP, rdC, thn, bI, *]) hO7 ((((((hF1.tr hF2).tr hF3).tr hF4).tr hF5).tr hF6).tr hF7)
    by_cases k30_100 : w = 100
    · subst k30_100
      refine x_tableIn (off := 98) (tgt := 128) dX3_readOrder_30 (by decide) (by decide) rfl (by decide) ?_
      refine x_aload_n dX3_readOrder_128 rfl ?_
      refine x_dup dX3_readOrder_129 rfl ?_
      refine x_get dX3_readOrder_130 fX3_19 hO1.ob rfl ?_
      refine x_iconst (v := 1) dX3_readOrder_133 rfl ?_
      refine x_iadd dX3_readOrder_134 ?_
      refine p_put (j := 2) (pAt (pKd P (T P.2.1)) (P.2.1 + 1)) dX3_readOrder_135 fX3_19 hO1 rfl rfl (Nat.le_of_ble_eq_true rfl) (by show _ = _; rw [nI_1]; rfl) (fun h8 hO8 hF8 => ?_)
      refine x_aload_n dX3_readOrder_138 rfl ?_
      refine c_VP dX3_readOrder_139 kX3_readFirst iX3_readFirst q600 (t_readFirst _ hO8 (show POkP (pAt (pKd P (T P.2.1)) (P.2.1 + 1)) from ⟨hP.1, lt_of_nle (by have := hP.1; have := hP.2; omega) c8⟩)) hO8.ob rfl rfl rfl (Nat.le_of_ble_eq_true rfl) ⟨Nat.le_refl _, Nat.le_refl _⟩ (fun h9 hO9 hF9 => ?_)
      refine x_iret dX3_readOrder_142 (Or.inr ⟨rfl, by first | rfl | exact bI_z _⟩) rfl (Nat.le_refl _) ?_
      exact PMO.bl (q := rdO T P) (by have ew2 : nI (T P.2.1) = _ := ew; simp [rdO, rdP, rdC, thn, *]) (by have ew2 : nI (T P.2.1) = _ := ew; simp [rdO, rdP, rdC, thn, bI, *]) hO9 ((hF1.tr hF8).tr hF9)
    by_cases k30_108 : w = 108
    · subst k30_108
      refine x_tableIn (off := 98) (tgt := 128) dX3_readOrder_30 (by decide) (by decide) rfl (by decide) ?_
      refine x_aload_n dX3_readOrder_128 rfl ?_
      refine x_dup dX3_readOrder_129 rfl ?_
      refine x_get dX3_readOrder_130 fX3_19 hO1.ob rfl ?_
      refine x_iconst (v := 1) dX3_readOrder_133 rfl ?_
      refine x_iadd dX3_readOrder_134 ?_
      refine p_put (j := 2) (pAt (pKd P (T P.2.1)) (P.2.1 + 1)) dX3_readOrder_135 fX3_19 hO1 rfl rfl (Nat.le_of_ble_eq_true rfl) (by show _ = _; rw [nI_1]; rfl) (fun h10 hO10 hF10 => ?_)
      refine x_aload_n dX3_readOrder_138 rfl ?_
      refine c_VP dX3_readOrder_139 kX3_readFirst iX3_readFirst q600 (t_readFirst _ hO10 (show POkP (pAt (pKd P (T P.2.1)) (P.2.1 + 1)) from ⟨hP.1, lt_of_nle (by have := hP.1; have := hP.2; omega) c8⟩)) hO10.ob rfl rfl rfl (Nat.le_of_ble_eq_true rfl) ⟨Nat.le_refl _, Nat.le_refl _⟩ (fun h11 hO11 hF11 => ?_)
      refine x_iret dX3_readOrder_142 (Or.inr ⟨rfl, by first | rfl | exact bI_z _⟩) rfl (Nat.le_refl _) ?_
      exact PMO.bl (q := rdO T P) (by have ew2 : nI (T P.2.1) = _ := ew; simp [rdO, rdP, rdC, thn, *]) (by have ew2 : nI (T P.2.1) = _ := ew; simp [rdO, rdP, rdC, thn, bI, *]) hO11 ((hF1.tr hF10).tr hF11)
    by_cases k30_110 : w = 110
    · subst k30_110
      refine x_tableIn (off := 98) (tgt := 128) dX3_readOrder_30 (by decide) (by decide) rfl (by decide) ?_
      refine x_aload_n dX3_readOrder_128 rfl ?_
      refine x_dup dX3_readOrder_129 rfl ?_
      refine x_get dX3_readOrder_130 fX3_19 hO1.ob rfl ?_
      refine x_iconst (v := 1) dX3_readOrder_133 rfl ?_
      refine x_iadd dX3_readOrder_134 ?_
      refine p_put (j := 2) (pAt (pKd P (T P.2.1)) (P.2.1 + 1)) dX3_readOrder_135 fX3_19 hO1 rfl rfl (Nat.le_of_ble_eq_true rfl) (by show _ = _; rw [nI_1]; rfl) (fun h12 hO12 hF12 => ?_)
      refine x_aload_n dX3_readOrder_138 rfl ?_
      refine c_VP dX3_readOrder_139 kX3_readFirst iX3_readFirst q600 (t_readFirst _ hO12 (show POkP (pAt (pKd P (T P.2.1)) (P.2.1 + 1)) from ⟨hP.1, lt_of_nle (by have := hP.1; have := hP.2; omega) c8⟩)) hO12.ob rfl rfl rfl (Nat.le_of_ble_eq_true rfl) ⟨Nat.le_refl _, Nat.le_refl _⟩ (fun h13 hO13 hF13 => ?_)
      refine x_iret dX3_readOrder_142 (Or.inr ⟨rfl, by first | rfl | exact bI_z _⟩) rfl (Nat.le_refl _) ?_
      exact PMO.bl (q := rdO T P) (by have ew2 : nI (T P.2.1) = _ := ew; simp [rdO, rdP, rdC, thn, *]) (by have ew2 : nI (T P.2.1) = _ := ew; simp [rdO, rdP, rdC, thn, bI, *]) hO13 ((hF1.tr hF12).tr hF13)
    by_cases k30_112 : w = 112
    · subst k30_112
      refine x_tableIn (off := 113) (tgt := 143) dX3_readOrder_30 (by decide) (by decide) rfl (by decide) ?_
      refine x_aload_n dX3_readOrder_143 rfl ?_
      refine x_dup dX3_readOrder_144 rfl ?_
      refine x_get dX3_readOrder_145 fX3_19 hO1.ob rfl ?_
      refine x_iconst (v := 1) dX3_readOrder_148 rfl ?_
      refine x_iadd dX3_readOrder_149 ?_
      refine p_put (j := 2) (pAt (pKd P (T P.2.1)) (P.2.1 + 1)) dX3_readOrder_150 fX3_19 hO1 rfl rfl (Nat.le_of_ble_eq_true rfl) (by show _ = _; rw [nI_1]; rfl) (fun h14 hO14 hF14 => ?_)
      refine x_aload_n dX3_readOrder_153 rfl ?_
      refine c_VP dX3_readOrder_154 kX3_readFirst iX3_readFirst q600 (t_readFirst _ hO14 (show POkP (pAt (pKd P (T P.2.1)) (P.2.1 + 1)) from ⟨hP.1, lt_of_nle (by have := hP.1; have := hP.2; omega) c8⟩)) hO14.ob rfl rfl rfl (Nat.le_of_ble_eq_true rfl) ⟨Nat.le_refl _, Nat.le_refl _⟩ (fun h15 hO15 hF15 => ?_)
      refine x_if_eq (tgt := 180) dX3_readOrder_157 (by decide) (fun c157 => ?_) (fun c157 => ?_)
      · have c157 := bI_eq c157
        refine x_iconst (v := 0) dX3_readOrder_180 rfl ?_
        refine x_iret dX3_readOrder_181 (Or.inr ⟨rfl, by first | rfl | exact bI_z _⟩) rfl (Nat.le_refl _) ?_
        exact PMO.bl (q := rdO T P) (by have ew2 : nI (T P.2.1) = _ := ew; simp [rdO, rdP, rdC, thn, *]) (by have ew2 : nI (T P.2.1) = _ := ew; simp [rdO, rdP, rdC, thn, bI, *]) hO15 ((hF1.tr hF14).tr hF15)
      · have c157 := bI_ne c157
        refine x_aload_n dX3_readOrder_160 rfl ?_
        refine x_bipush (v := 43) dX3_readOrder_161 rfl ?_
        refine c_VP dX3_readOrder_163 kX3_readSign iX3_readSign q612 (t_readSign _ hO15 (rdF1_ok T (show POkP (pAt (pKd P (T P.2.1)) (P.2.1 + 1)) from ⟨hP.1, lt_of_nle (by have := hP.1; have := hP.2; omega) c8⟩)).1 43) hO15.ob rfl rfl rfl (Nat.le_of_ble_eq_true rfl) ⟨Nat.le_refl _, Nat.le_refl _⟩ (fun h16 hO16 hF16 => ?_)
        refine x_if_eq (tgt := 180) dX3_readOrder_166 (by decide) (fun c166 => ?_) (fun c166 => ?_)
        · have c166 := bI_eq c166
          refine x_iconst (v := 0) dX3_readOrder_180 rfl ?_
          refine x_iret dX3_readOrder_181 (Or.inr ⟨rfl, by first | rfl | exact bI_z _⟩) rfl (Nat.le_refl _) ?_
          exact PMO.bl (q := rdO T P) (by have ew2 : nI (T P.2.1) = _ := ew; simp [rdO, rdP, rdC, thn, *]) (by have ew2 : nI (T P.2.1) = _ := ew; simp [rdO, rdP, rdC, thn, bI, *]) hO16 (((hF1.tr hF14).tr hF15).tr hF16)
        · have c166 := bI_ne c166
          refine x_aload_n dX3_readOrder_169 rfl ?_
          refine c_VP dX3_readOrder_170 kX3_readSecond iX3_readSecond q616 (t_readSecond _ hO16 (rdS_ok T 43 (rdF1_ok T (show POkP (pAt (pKd P (T P.2.1)) (P.2.1 + 1)) from ⟨hP.1, lt_of_nle (by have := hP.1; have := hP.2; omega) c8⟩)).1).1) hO16.ob rfl rfl rfl (Nat.le_of_ble_eq_true rfl) ⟨Nat.le_refl _, Nat.le_refl _⟩ (fun h17 hO17 hF17 => ?_)
          refine x_if_eq (tgt := 180) dX3_readOrder_173 (by decide) (fun c173 => ?_) (fun c173 => ?_)
          · have c173 := bI_eq c173
            refine x_iconst (v := 0) dX3_readOrder_180 rfl ?_
            refine x_iret dX3_readOrder_181 (Or.inr ⟨rfl, by first | rfl | exact bI_z _⟩) rfl (Nat.le_refl _) ?_
            exact PMO.bl (q := rdO T P) (by have ew2 : nI (T P.2.1) = _ := ew; simp [rdO, rdP, rdC, thn, *]) (by have ew2 : nI (T P.2.1) = _ := ew; simp [rdO, rdP, rdC, thn, bI, *]) hO17 ((((hF1.tr hF14).tr hF15).tr hF16).tr hF17)
          · have c173 := bI_ne c173
            refine x_iconst (v := 1) dX3_readOrder_176 rfl ?_
            refine x_goto (tgt := 181) dX3_readOrder_177 (by decide) ?_
            refine x_iret dX3_readOrder_181 (Or.inr ⟨rfl, by first | rfl | exact bI_z _⟩) rfl (Nat.le_refl _) ?_
            exact PMO.bl (q := rdO T P) (by have ew2 : nI (T P.2.1) = _ := ew; simp [rdO, rdP, rdC, thn, *]) (by have ew2 : nI (T P.2.1) = _ := ew; simp [rdO, rdP, rdC, thn, bI, *]) hO17 ((((hF1.tr hF14).tr hF15).tr hF16).tr hF17)
    by_cases k30_115 : w = 115
    · subst k30_115
      refine x_tableIn (off := 98) (tgt := 128) dX3_readOrder_30 (by decide) (by decide) rfl (by decide) ?_
      refine x_aload_n dX3_readOrder_128 rfl ?_
      refine x_dup dX3_readOrder_129 rfl ?_
      refine x_get dX3_readOrder_130 fX3_19 hO1.ob rfl ?_
      refine x_iconst (v := 1) dX3_readOrder_133 rfl ?_
      refine x_iadd dX3_readOrder_134 ?_
      refine p_put (j := 2) (pAt (pKd P (T P.2.1)) (P.2.1 + 1)) dX3_readOrder_135 fX3_19 hO1 rfl rfl (Nat.le_of_ble_eq_true rfl) (by show _ = _; rw [nI_1]; rfl) (fun h18 hO18 hF18 => ?_)
      refine x_aload_n dX3_readOrder_138 rfl ?_
      refine c_VP dX3_readOrder_139 kX3_readFirst iX3_readFirst q600 (t_readFirst _ hO18 (show POkP (pAt (pKd P (T P.2.1)) (P.2.1 + 1)) from ⟨hP.1, lt_of_nle (by have := hP.1; have := hP.2; omega) c8⟩)) hO18.ob rfl rfl rfl (Nat.le_of_ble_eq_true rfl) ⟨Nat.le_refl _, Nat.le_refl _⟩ (fun h19 hO19 hF19 => ?_)
      refine x_iret dX3_readOrder_142 (Or.inr ⟨rfl, by first | rfl | exact bI_z _⟩) rfl (Nat.le_refl _) ?_
      exact PMO.bl (q := rdO T P) (by have ew2 : nI (T P.2.1) = _ := ew; simp [rdO, rdP, rdC, thn, *]) (by have ew2 : nI (T P.2.1) = _ := ew; simp [rdO, rdP, rdC, thn, bI, *]) hO19 ((hF1.tr hF18).tr hF19)
    by_cases k30_116 : w = 116
    · subst k30_116
      refine x_tableIn (off := 98) (tgt := 128) dX3_readOrder_30 (by decide) (by decide) rfl (by decide) ?_
      refine x_aload_n dX3_readOrder_128 rfl ?_
      refine x_dup dX3_readOrder_129 rfl ?_
      refine x_get dX3_readOrder_130 fX3_19 hO1.ob rfl ?_
      refine x_iconst (v := 1) dX3_readOrder_133 rfl ?_
      refine x_iadd dX3_readOrder_134 ?_
      refine p_put (j := 2) (pAt (pKd P (T P.2.1)) (P.2.1 + 1)) dX3_readOrder_135 fX3_19 hO1 rfl rfl (Nat.le_of_ble_eq_true rfl) (by show _ = _; rw [nI_1]; rfl) (fun h20 hO20 hF20 => ?_)
      refine x_aload_n dX3_readOrder_138 rfl ?_
      refine c_VP dX3_readOrder_139 kX3_readFirst iX3_readFirst q600 (t_readFirst _ hO20 (show POkP (pAt (pKd P (T P.2.1)) (P.2.1 + 1)) from ⟨hP.1, lt_of_nle (by have := hP.1; have := hP.2; omega) c8⟩)) hO20.ob rfl rfl rfl (Nat.le_of_ble_eq_true rfl) ⟨Nat.le_refl _, Nat.le_refl _⟩ (fun h21 hO21 hF21 => ?_)
      refine x_iret dX3_readOrder_142 (Or.inr ⟨rfl, by first | rfl | exact bI_z _⟩) rfl (Nat.le_refl _) ?_
      exact PMO.bl (q := rdO T P) (by have ew2 : nI (T P.2.1) = _ := ew; simp [rdO, rdP, rdC, thn, *]) (by have ew2 : nI (T P.2.1) = _ := ew; simp [rdO, rdP, rdC, thn, bI, *]) hO21 ((hF1.tr hF20).tr hF21)
    by_cases k30_119 : w = 119
    · subst k30_119
      refine x_tableIn (off := 98) (tgt := 128) dX3_readOrder_30 (by decide) (by decide) rfl (by decide) ?_
      refine x_aload_n dX3_readOrder_128 rfl ?_
      refine x_dup dX3_readOrder_129 rfl ?_
      refine x_get dX3_readOrder_130 fX3_19 hO1.ob rfl ?_
      refine x_iconst (v := 1) dX3_readOrder_133 rfl ?_
      refine x_iadd dX3_readOrder_134 ?_
      refine p_put (j := 2) (pAt (pKd P (T P.2.1)) (P.2.1 + 1)) dX3_readOrder_135 fX3_19 hO1 rfl rfl (Nat.le_of_ble_eq_true rfl) (by show _ = _; rw [nI_1]; rfl) (fun h22 hO22 hF22 => ?_)
      refine x_aload_n dX3_readOrder_138 rfl ?_
      refine c_VP dX3_readOrder_139 kX3_readFirst iX3_readFirst q600 (t_readFirst _ hO22 (show POkP (pAt (pKd P (T P.2.1)) (P.2.1 + 1)) from ⟨hP.1, lt_of_nle (by have := hP.1; have := hP.2; omega) c8⟩)) hO22.ob rfl rfl rfl (Nat.le_of_ble_eq_true rfl) ⟨Nat.le_refl _, Nat.le_refl _⟩ (fun h23 hO23 hF23 => ?_)
      refine x_iret dX3_readOrder_142 (Or.inr ⟨rfl, by first | rfl | exact bI_z _⟩) rfl (Nat.le_refl _) ?_
      exact PMO.bl (q := rdO T P) (by have ew2 : nI (T P.2.1) = _ := ew; simp [rdO, rdP, rdC, thn, *]) (by have ew2 : nI (T P.2.1) = _ := ew; simp [rdO, rdP, rdC, thn, bI, *]) hO23 ((hF1.tr hF22).tr hF23)
    have dft : Ev st (d + 4) yX3_readOrder cX3_readOrder 1 (some .boolean) (z, h) 0 0 (PMO (some (.int (bI (rdO T P).1))) z a h T (rdO T P).2) 237 [.ref a] [] (z, h1) 0 0 := by
      refine x_iconst (v := 0) dX3_readOrder_237 rfl ?_
      refine x_iret dX3_readOrder_238 (Or.inr ⟨rfl, by first | rfl | exact bI_z _⟩) rfl (Nat.le_refl _) ?_
      exact PMO.bl (q := rdO T P) (by have ew2 : nI (T P.2.1) = _ := ew; simp [rdO, rdP, rdC, thn, *]) (by have ew2 : nI (T P.2.1) = _ := ew; simp [rdO, rdP, rdC, thn, bI, *]) hO1 hF1
    by_cases k30_101 : w = 101
    · subst k30_101
      exact x_tableIn (off := 207) (tgt := 237) dX3_readOrder_30 (by decide) (by decide) rfl (by decide) dft
    by_cases k30_102 : w = 102
    · subst k30_102
      exact x_tableIn (off := 207) (tgt := 237) dX3_readOrder_30 (by decide) (by decide) rfl (by decide) dft
    by_cases k30_103 : w = 103
    · subst k30_103
      exact x_tableIn (off := 207) (tgt := 237) dX3_readOrder_30 (by decide) (by decide) rfl (by decide) dft
    by_cases k30_104 : w = 104
    · subst k30_104
      exact x_tableIn (off := 207) (tgt := 237) dX3_readOrder_30 (by decide) (by decide) rfl (by decide) dft
    by_cases k30_105 : w = 105
    · subst k30_105
      exact x_tableIn (off := 207) (tgt := 237) dX3_readOrder_30 (by decide) (by decide) rfl (by decide) dft
    by_cases k30_106 : w = 106
    · subst k30_106
      exact x_tableIn (off := 207) (tgt := 237) dX3_readOrder_30 (by decide) (by decide) rfl (by decide) dft
    by_cases k30_107 : w = 107
    · subst k30_107
      exact x_tableIn (off := 207) (tgt := 237) dX3_readOrder_30 (by decide) (by decide) rfl (by decide) dft
    by_cases k30_109 : w = 109
    · subst k30_109
      exact x_tableIn (off := 207) (tgt := 237) dX3_readOrder_30 (by decide) (by decide) rfl (by decide) dft
    by_cases k30_111 : w = 111
    · subst k30_111
      exact x_tableIn (off := 207) (tgt := 237) dX3_readOrder_30 (by decide) (by decide) rfl (by decide) dft
    by_cases k30_113 : w = 113
    · subst k30_113
      exact x_tableIn (off := 207) (tgt := 237) dX3_readOrder_30 (by decide) (by decide) rfl (by decide) dft
    by_cases k30_114 : w = 114
    · subst k30_114
      exact x_tableIn (off := 207) (tgt := 237) dX3_readOrder_30 (by decide) (by decide) rfl (by decide) dft
    by_cases k30_117 : w = 117
    · subst k30_117
      exact x_tableIn (off := 207) (tgt := 237) dX3_readOrder_30 (by decide) (by decide) rfl (by decide) dft
    by_cases k30_118 : w = 118
    · subst k30_118
      exact x_tableIn (off := 207) (tgt := 237) dX3_readOrder_30 (by decide) (by decide) rfl (by decide) dft
    exact x_tableOut (tgt := 237) dX3_readOrder_30 (sw_out fun n h1 h2 => by rcases (show n = 99 ∨ n = 100 ∨ n = 101 ∨ n = 102 ∨ n = 103 ∨ n = 104 ∨ n = 105 ∨ n = 106 ∨ n = 107 ∨ n = 108 ∨ n = 109 ∨ n = 110 ∨ n = 111 ∨ n = 112 ∨ n = 113 ∨ n = 114 ∨ n = 115 ∨ n = 116 ∨ n = 117 ∨ n = 118 ∨ n = 119 by omega) with rfl | rfl | rfl | rfl | rfl | rfl | rfl | rfl | rfl | rfl | rfl | rfl | rfl | rfl | rfl | rfl | rfl | rfl | rfl | rfl | rfl; exact k30_99; exact k30_100; exact k30_101; exact k30_102; exact k30_103; exact k30_104; exact k30_105; exact k30_106; exact k30_107; exact k30_108; exact k30_109; exact k30_110; exact k30_111; exact k30_112; exact k30_113; exact k30_114; exact k30_115; exact k30_116; exact k30_117; exact k30_118; exact k30_119) (by decide) dft
  · refine x_iconst (v := 0) dX3_readOrder_11 rfl ?_
    refine x_iret dX3_readOrder_12 (Or.inr ⟨rfl, by first | rfl | exact bI_z _⟩) rfl (Nat.le_refl _) ?_
    have c8 := Int32.not_lt.mp c8
    exact PMO.bl (q := rdO T P) (by simp [rdO, *]) (by simp [rdO, bI, *]) H Fr.rf
