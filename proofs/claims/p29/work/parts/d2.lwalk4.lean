/-! HELPERS OF THE LAW: what is refused is refused -/

set_option maxRecDepth 100000 in
set_option maxHeartbeats 8000000 in
theorem t_refusesAny {st : Nat → Nat} (d : Nat) {z : Nat} {h : Nat → Option va_E} {x : Nat} {σ τ : Sg} {n : Nat} {sl : Nat → Sg} {sv : Nat → Int32} (hX : XS h x σ n τ sl sv) {X : Int32} {a : Nat} (ha : a < 2 ^ 31) (eX : X = nI a) : CT st (d + 8) yL_refusesAny cL_refusesAny 7 (some .boolean) [.ref x, .int X] (z, h) 0 0 (XQ 1 z x σ n τ sl sv) := by
  refine CT.of (lv := [.ref x, .int X, .null, .null, .null, .null, .null]) (by decide) (Nat.le_of_ble_eq_true rfl) rfl rfl ?_
  have hQ := hX.q
  have bL := badL_no hQ ha eX
  have bC := badC_no hQ ha eX
  have bH := badH_no ha eX
  have aB := anyB_in hQ.2.1.lok
  have cl0 : ¬ nI (nCl σ) = 0 → 0 < nCl σ := fun q => Nat.pos_of_ne_zero fun e => q (by rw [e]; rfl)
  have j25 : Ev st (d + 8) yL_refusesAny cL_refusesAny 7 (some .boolean) (z, h) 0 0 (XQ 1 z x σ n τ sl sv) 25 [.ref x, .int X, .null, .null, .null, .null, .null] [.int (badL σ X)] (z, h) 0 0 := by
    refine e_isd_n (b := badL σ X) (lv2 := [.ref x, .int X, .int (badL σ X), .null, .null, .null, .null]) dL_refusesAny_25 (Nat.le_of_ble_eq_true rfl) rfl rfl rfl ?_
    have j51 : Ev st (d + 8) yL_refusesAny cL_refusesAny 7 (some .boolean) (z, h) 0 0 (XQ 1 z x σ n τ sl sv) 51 [.ref x, .int X, .int (badL σ X), .null, .null, .null, .null] [.int (badC σ X)] (z, h) 0 0 := by
      refine e_isd_n (b := badC σ X) (lv2 := [.ref x, .int X, .int (badL σ X), .int (badC σ X), .null, .null, .null]) dL_refusesAny_51 (Nat.le_of_ble_eq_true rfl) rfl rfl rfl ?_
      have j74 : Ev st (d + 8) yL_refusesAny cL_refusesAny 7 (some .boolean) (z, h) 0 0 (XQ 1 z x σ n τ sl sv) 74 [.ref x, .int X, .int (badL σ X), .int (badC σ X), .null, .null, .null] [.int (badH X)] (z, h) 0 0 := by
        refine e_isd (b := badH X) (lv2 := [.ref x, .int X, .int (badL σ X), .int (badC σ X), .int (badH X), .null, .null]) dL_refusesAny_74 (Nat.le_of_ble_eq_true rfl) rfl rfl rfl ?_
        have j89 : Ev st (d + 8) yL_refusesAny cL_refusesAny 7 (some .boolean) (z, h) 0 0 (XQ 1 z x σ n τ sl sv) 89 [.ref x, .int X, .int (badL σ X), .int (badC σ X), .int (badH X), .null, .null] [.int (anyB σ)] (z, h) 0 0 := by
          refine e_isd (b := anyB σ) (lv2 := [.ref x, .int X, .int (badL σ X), .int (badC σ X), .int (badH X), .int (anyB σ), .null]) dL_refusesAny_89 (Nat.le_of_ble_eq_true rfl) rfl rfl rfl ?_
          refine x_aload_n dL_refusesAny_91 rfl ?_
          have j103 : Ev st (d + 8) yL_refusesAny cL_refusesAny 7 (some .boolean) (z, h) 0 0 (XQ 1 z x σ n τ sl sv) 103 [.ref x, .int X, .int (badL σ X), .int (badC σ X), .int (badH X), .int (anyB σ), .null] [.int (pv X (-1) 5), .ref x] (z, h) 0 0 := by
            refine x_iconst (v := 5) dL_refusesAny_103 rfl ?_
            refine l_xq dL_refusesAny_104 kX4_set iX4_set q445 hX (ct_no hX (fun _ _ _ a1 a2 a3 => x_set (d + 1) a1 a2 a3 _ _) ((ra_set σ X).1) (by decide)) rfl rfl rfl (Nat.le_of_ble_eq_true rfl) ⟨Nat.le_refl _, Nat.le_refl _⟩ (fun h1 hX1 => ?_)
            refine x_bipush (v := (-2)) dL_refusesAny_107 rfl ?_
            refine x_icmp_ne (tgt := 538) dL_refusesAny_109 (by decide) (fun c => absurd (by rfl) c) (fun _ => ?_)
            refine x_aload_n dL_refusesAny_112 rfl ?_
            refine x_iconst (v := 0) dL_refusesAny_113 rfl ?_
            have j127 : Ev st (d + 8) yL_refusesAny cL_refusesAny 7 (some .boolean) (z, h) 0 0 (XQ 1 z x σ n τ sl sv) 127 [.ref x, .int X, .int (badL σ X), .int (badC σ X), .int (badH X), .int (anyB σ), .null] [.int (pv X 0 401), .int 0, .ref x] (z, h1) 0 0 := by
              refine l_xq dL_refusesAny_127 kX4_set iX4_set q445 hX1 (ct_no hX1 (fun _ _ _ a1 a2 a3 => x_set (d + 1) a1 a2 a3 _ _) ((ra_set σ X).2.1) (by decide)) rfl rfl rfl (Nat.le_of_ble_eq_true rfl) ⟨Nat.le_refl _, Nat.le_refl _⟩ (fun h2 hX2 => ?_)
              refine x_bipush (v := (-2)) dL_refusesAny_130 rfl ?_
              refine x_icmp_ne (tgt := 538) dL_refusesAny_132 (by decide) (fun c => absurd (by rfl) c) (fun _ => ?_)
              refine x_aload_n dL_refusesAny_135 rfl ?_
              refine x_iconst (v := 1) dL_refusesAny_136 rfl ?_
              have j149 : Ev st (d + 8) yL_refusesAny cL_refusesAny 7 (some .boolean) (z, h) 0 0 (XQ 1 z x σ n τ sl sv) 149 [.ref x, .int X, .int (badL σ X), .int (badC σ X), .int (badH X), .int (anyB σ), .null] [.int (pv X 0 101), .int 1, .ref x] (z, h2) 0 0 := by
                refine l_xq dL_refusesAny_149 kX4_set iX4_set q445 hX2 (ct_no hX2 (fun _ _ _ a1 a2 a3 => x_set (d + 1) a1 a2 a3 _ _) ((ra_set σ X).2.2.1) (by decide)) rfl rfl rfl (Nat.le_of_ble_eq_true rfl) ⟨Nat.le_refl _, Nat.le_refl _⟩ (fun h3 hX3 => ?_)
                refine x_bipush (v := (-2)) dL_refusesAny_152 rfl ?_
                refine x_icmp_ne (tgt := 538) dL_refusesAny_154 (by decide) (fun c => absurd (by rfl) c) (fun _ => ?_)
                refine x_aload_n dL_refusesAny_157 rfl ?_
                refine x_iconst (v := 2) dL_refusesAny_158 rfl ?_
                have j172 : Ev st (d + 8) yL_refusesAny cL_refusesAny 7 (some .boolean) (z, h) 0 0 (XQ 1 z x σ n τ sl sv) 172 [.ref x, .int X, .int (badL σ X), .int (badC σ X), .int (badH X), .int (anyB σ), .null] [.int (pv X 0 201), .int 2, .ref x] (z, h3) 0 0 := by
                  refine l_xq dL_refusesAny_172 kX4_set iX4_set q445 hX3 (ct_no hX3 (fun _ _ _ a1 a2 a3 => x_set (d + 1) a1 a2 a3 _ _) ((ra_set σ X).2.2.2.1) (by decide)) rfl rfl rfl (Nat.le_of_ble_eq_true rfl) ⟨Nat.le_refl _, Nat.le_refl _⟩ (fun h4 hX4 => ?_)
                  refine x_bipush (v := (-2)) dL_refusesAny_175 rfl ?_
                  refine x_icmp_ne (tgt := 538) dL_refusesAny_177 (by decide) (fun c => absurd (by rfl) c) (fun _ => ?_)
                  refine x_aload_n dL_refusesAny_180 rfl ?_
                  refine x_iconst (v := 3) dL_refusesAny_181 rfl ?_
                  have j195 : Ev st (d + 8) yL_refusesAny cL_refusesAny 7 (some .boolean) (z, h) 0 0 (XQ 1 z x σ n τ sl sv) 195 [.ref x, .int X, .int (badL σ X), .int (badC σ X), .int (badH X), .int (anyB σ), .null] [.int (pv X (-1) 401), .int 3, .ref x] (z, h4) 0 0 := by
                    refine l_xq dL_refusesAny_195 kX4_set iX4_set q445 hX4 (ct_no hX4 (fun _ _ _ a1 a2 a3 => x_set (d + 1) a1 a2 a3 _ _) ((ra_set σ X).2.2.2.2.1) (by decide)) rfl rfl rfl (Nat.le_of_ble_eq_true rfl) ⟨Nat.le_refl _, Nat.le_refl _⟩ (fun h5 hX5 => ?_)
                    refine x_bipush (v := (-2)) dL_refusesAny_198 rfl ?_
                    refine x_icmp_ne (tgt := 538) dL_refusesAny_200 (by decide) (fun c => absurd (by rfl) c) (fun _ => ?_)
                    refine x_aload_n dL_refusesAny_203 rfl ?_
                    refine x_iconst (v := 4) dL_refusesAny_204 rfl ?_
                    have j217 : Ev st (d + 8) yL_refusesAny cL_refusesAny 7 (some .boolean) (z, h) 0 0 (XQ 1 z x σ n τ sl sv) 217 [.ref x, .int X, .int (badL σ X), .int (badC σ X), .int (badH X), .int (anyB σ), .null] [.int (pv X (-1) 51), .int 4, .ref x] (z, h5) 0 0 := by
                      refine l_xq dL_refusesAny_217 kX4_set iX4_set q445 hX5 (ct_no hX5 (fun _ _ _ a1 a2 a3 => x_set (d + 1) a1 a2 a3 _ _) ((ra_set σ X).2.2.2.2.2) (by decide)) rfl rfl rfl (Nat.le_of_ble_eq_true rfl) ⟨Nat.le_refl _, Nat.le_refl _⟩ (fun h6 hX6 => ?_)
                      refine x_bipush (v := (-2)) dL_refusesAny_220 rfl ?_
                      refine x_icmp_ne (tgt := 538) dL_refusesAny_222 (by decide) (fun c => absurd (by rfl) c) (fun _ => ?_)
                      refine x_aload_n dL_refusesAny_225 rfl ?_
                      have j239 : Ev st (d + 8) yL_refusesAny cL_refusesAny 7 (some .boolean) (z, h) 0 0 (XQ 1 z x σ n τ sl sv) 239 [.ref x, .int X, .int (badL σ X), .int (badC σ X), .int (badH X), .int (anyB σ), .null] [.int (pv X 0 10000), .ref x] (z, h6) 0 0 := by
                        refine l_xq dL_refusesAny_239 kX4_lot iX4_lot q457 hX6 (ct_no hX6 (fun _ _ _ a1 a2 a3 => x_lot (d + 1) a1 a2 a3 _) (ra_lot σ X) (by decide)) rfl rfl rfl (Nat.le_of_ble_eq_true rfl) ⟨Nat.le_refl _, Nat.le_refl _⟩ (fun h7 hX7 => ?_)
                        refine x_bipush (v := (-2)) dL_refusesAny_242 rfl ?_
                        refine x_icmp_ne (tgt := 538) dL_refusesAny_244 (by decide) (fun c => absurd (by rfl) c) (fun _ => ?_)
                        have j267 : ∀ (g267 : Nat → Option va_E), XS g267 x σ n τ sl sv → Ev st (d + 8) yL_refusesAny cL_refusesAny 7 (some .boolean) (z, h) 0 0 (XQ 1 z x σ n τ sl sv) 267 [.ref x, .int X, .int (badL σ X), .int (badC σ X), .int (badH X), .int (anyB σ), .null] [] (z, g267) 0 0 := fun g267 hG267 => by
                          refine x_aload_n dL_refusesAny_267 rfl ?_
                          refine x_iload_n dL_refusesAny_268 rfl ?_
                          refine l_xq dL_refusesAny_269 kX4_notice iX4_notice q465 hG267 (ct_no hG267 (fun _ _ _ a1 a2 a3 => x_notice (d + 1) a1 a2 a3 _) (ra_notice bL) (by decide)) rfl rfl rfl (Nat.le_of_ble_eq_true rfl) ⟨Nat.le_refl _, Nat.le_refl _⟩ (fun h8 hX8 => ?_)
                          refine x_iconst (v := (-1)) dL_refusesAny_272 rfl ?_
                          refine x_icmp_ne (tgt := 538) dL_refusesAny_273 (by decide) (fun c => absurd (by rfl) c) (fun _ => ?_)
                          refine x_aload_n dL_refusesAny_276 rfl ?_
                          refine x_iload dL_refusesAny_277 rfl ?_
                          refine x_iconst (v := 0) dL_refusesAny_279 rfl ?_
                          refine x_bipush (v := 9) dL_refusesAny_280 rfl ?_
                          refine l_xq dL_refusesAny_282 kX4_claim iX4_claim q473 hX8 (ct_no hX8 (fun _ _ _ a1 a2 a3 => x_claim (d + 1) a1 a2 a3 _ _ _) (ra_claimH bH) (by decide)) rfl rfl rfl (Nat.le_of_ble_eq_true rfl) ⟨Nat.le_refl _, Nat.le_refl _⟩ (fun h9 hX9 => ?_)
                          refine x_iconst (v := (-1)) dL_refusesAny_285 rfl ?_
                          refine x_icmp_ne (tgt := 538) dL_refusesAny_286 (by decide) (fun c => absurd (by rfl) c) (fun _ => ?_)
                          refine x_aload_n dL_refusesAny_289 rfl ?_
                          refine x_iconst (v := 0) dL_refusesAny_290 rfl ?_
                          refine x_iload_n dL_refusesAny_291 rfl ?_
                          refine x_bipush (v := 9) dL_refusesAny_292 rfl ?_
                          refine l_xq dL_refusesAny_294 kX4_claim iX4_claim q473 hX9 (ct_no hX9 (fun _ _ _ a1 a2 a3 => x_claim (d + 1) a1 a2 a3 _ _ _) (ra_claimL bL) (by decide)) rfl rfl rfl (Nat.le_of_ble_eq_true rfl) ⟨Nat.le_refl _, Nat.le_refl _⟩ (fun h10 hX10 => ?_)
                          refine x_iconst (v := (-1)) dL_refusesAny_297 rfl ?_
                          refine x_icmp_ne (tgt := 538) dL_refusesAny_298 (by decide) (fun c => absurd (by rfl) c) (fun _ => ?_)
                          have j348 : ∀ (g348 : Nat → Option va_E), XS g348 x σ n τ sl sv → Ev st (d + 8) yL_refusesAny cL_refusesAny 7 (some .boolean) (z, h) 0 0 (XQ 1 z x σ n τ sl sv) 348 [.ref x, .int X, .int (badL σ X), .int (badC σ X), .int (badH X), .int (anyB σ), .null] [] (z, g348) 0 0 := fun g348 hG348 => by
                            refine x_aload_n dL_refusesAny_348 rfl ?_
                            refine x_iload_n dL_refusesAny_349 rfl ?_
                            refine x_iconst (v := 0) dL_refusesAny_350 rfl ?_
                            refine l_xq dL_refusesAny_351 kX4_prove iX4_prove q489 hG348 (ct_no hG348 (fun _ _ _ a1 a2 a3 => x_prove (d + 1) a1 a2 a3 _ _) (ra_prove bC) (by decide)) rfl rfl rfl (Nat.le_of_ble_eq_true rfl) ⟨Nat.le_refl _, Nat.le_refl _⟩ (fun h11 hX11 => ?_)
                            refine x_iconst (v := (-1)) dL_refusesAny_354 rfl ?_
                            refine x_icmp_ne (tgt := 538) dL_refusesAny_355 (by decide) (fun c => absurd (by rfl) c) (fun _ => ?_)
                            refine x_aload_n dL_refusesAny_358 rfl ?_
                            refine x_iload_n dL_refusesAny_359 rfl ?_
                            refine l_xq dL_refusesAny_360 kX4_decide iX4_decide q498 hX11 (ct_no hX11 (fun _ _ _ a1 a2 a3 => x_decide (d + 1) a1 a2 a3 _) (ra_decide bC) (by decide)) rfl rfl rfl (Nat.le_of_ble_eq_true rfl) ⟨Nat.le_refl _, Nat.le_refl _⟩ (fun h12 hX12 => ?_)
                            refine x_iconst (v := (-1)) dL_refusesAny_363 rfl ?_
                            refine x_icmp_ne (tgt := 538) dL_refusesAny_364 (by decide) (fun c => absurd (by rfl) c) (fun _ => ?_)
                            refine x_aload_n dL_refusesAny_367 rfl ?_
                            refine x_iload_n dL_refusesAny_368 rfl ?_
                            refine l_xq dL_refusesAny_369 kX4_withdraw iX4_withdraw q506 hX12 (ct_no hX12 (fun _ _ _ a1 a2 a3 => x_withdraw (d + 1) a1 a2 a3 _) (ra_withdraw bC) (by decide)) rfl rfl rfl (Nat.le_of_ble_eq_true rfl) ⟨Nat.le_refl _, Nat.le_refl _⟩ (fun h13 hX13 => ?_)
                            refine x_iconst (v := (-1)) dL_refusesAny_372 rfl ?_
                            refine x_icmp_ne (tgt := 538) dL_refusesAny_373 (by decide) (fun c => absurd (by rfl) c) (fun _ => ?_)
                            refine x_aload_n dL_refusesAny_376 rfl ?_
                            refine x_iload_n dL_refusesAny_377 rfl ?_
                            refine l_xq dL_refusesAny_378 kX4_settle iX4_settle q518 hX13 (ct_no hX13 (fun _ _ _ a1 a2 a3 => x_settle (d + 1) a1 a2 a3 _) (ra_settle bL) (by decide)) rfl rfl rfl (Nat.le_of_ble_eq_true rfl) ⟨Nat.le_refl _, Nat.le_refl _⟩ (fun h14 hX14 => ?_)
                            refine x_iconst (v := (-1)) dL_refusesAny_381 rfl ?_
                            refine x_icmp_ne (tgt := 538) dL_refusesAny_382 (by decide) (fun c => absurd (by rfl) c) (fun _ => ?_)
                            have j489 : ∀ (g489 : Nat → Option va_E), XS g489 x σ n τ sl sv → Ev st (d + 8) yL_refusesAny cL_refusesAny 7 (some .boolean) (z, h) 0 0 (XQ 1 z x σ n τ sl sv) 489 [.ref x, .int X, .int (badL σ X), .int (badC σ X), .int (badH X), .int (anyB σ), .null] [] (z, g489) 0 0 := fun g489 hG489 => by
                              refine x_aload_n dL_refusesAny_489 rfl ?_
                              have j503 : Ev st (d + 8) yL_refusesAny cL_refusesAny 7 (some .boolean) (z, h) 0 0 (XQ 1 z x σ n τ sl sv) 503 [.ref x, .int X, .int (badL σ X), .int (badC σ X), .int (badH X), .int (anyB σ), .null] [.int (pv X 0 401), .ref x] (z, g489) 0 0 := by
                                refine l_xq dL_refusesAny_503 kX4_pass iX4_pass q546 hG489 (ct_no hG489 (fun _ _ _ a1 a2 a3 => x_pass (d + 1) a1 a2 a3 _) (ra_pass σ X) (by decide)) rfl rfl rfl (Nat.le_of_ble_eq_true rfl) ⟨Nat.le_refl _, Nat.le_refl _⟩ (fun h15 hX15 => ?_)
                                refine x_bipush (v := (-2)) dL_refusesAny_506 rfl ?_
                                refine x_icmp_ne (tgt := 538) dL_refusesAny_508 (by decide) (fun c => absurd (by rfl) c) (fun _ => ?_)
                                refine x_aload_n dL_refusesAny_511 rfl ?_
                                refine x_iconst (v := 0) dL_refusesAny_512 rfl ?_
                                refine l_cn (v := nI (dN σ)) dL_refusesAny_513 q201 hX15 (Nat.le_of_ble_eq_true rfl) ⟨Nat.le_refl _, Nat.le_refl _⟩ (fun _ _ => xn_0 hX15.q _ _) ?_
                                refine x_sipush (v := 9600) dL_refusesAny_516 rfl ?_
                                refine x_icmp_lt (tgt := 534) dL_refusesAny_519 (by decide) (fun c519 => ?_) (fun c519 => ?_)
                                · refine x_iconst (v := 1) dL_refusesAny_534 rfl ?_
                                  refine x_goto (tgt := 539) dL_refusesAny_535 (by decide) ?_
                                  refine e_isd (b := 1) (lv2 := [.ref x, .int X, .int (badL σ X), .int (badC σ X), .int (badH X), .int (anyB σ), .int 1]) dL_refusesAny_539 (Nat.le_of_ble_eq_true rfl) rfl rfl rfl ?_
                                  refine x_iload dL_refusesAny_541 rfl ?_
                                  refine x_if_eq (tgt := 828) dL_refusesAny_543 (by decide) (fun c => absurd c (by decide)) (fun _ => ?_)
                                  refine x_aload_n dL_refusesAny_546 rfl ?_
                                  refine x_iload_n dL_refusesAny_547 rfl ?_
                                  refine x_bipush (v := 99) dL_refusesAny_548 rfl ?_
                                  refine l_rd (v := (-1)) dL_refusesAny_550 kX4_of iX4_of q309 hX15 (fun _ _ _ a1 a2 a3 => x_of _ a1 a2 a3 _ _) rfl rfl rfl (Nat.le_of_ble_eq_true rfl) ⟨Nat.le_refl _, Nat.le_refl _⟩ ((ra_of bL).1) ?_
                                  refine x_iconst (v := (-1)) dL_refusesAny_553 rfl ?_
                                  refine x_icmp_ne (tgt := 828) dL_refusesAny_554 (by decide) (fun c => absurd (by rfl) c) (fun _ => ?_)
                                  have j619 : ∀ (g619 : Nat → Option va_E), XS g619 x σ n τ sl sv → Ev st (d + 8) yL_refusesAny cL_refusesAny 7 (some .boolean) (z, h) 0 0 (XQ 1 z x σ n τ sl sv) 619 [.ref x, .int X, .int (badL σ X), .int (badC σ X), .int (badH X), .int (anyB σ), .int 1] [] (z, g619) 0 0 := fun g619 hG619 => by
                                    refine x_aload_n dL_refusesAny_619 rfl ?_
                                    refine x_iload_n dL_refusesAny_620 rfl ?_
                                    refine x_bipush (v := 99) dL_refusesAny_621 rfl ?_
                                    refine l_rd (v := (-1)) dL_refusesAny_623 kX4_ofClaim iX4_ofClaim q364 hG619 (fun _ _ _ a1 a2 a3 => x_ofClaim _ a1 a2 a3 _ _) rfl rfl rfl (Nat.le_of_ble_eq_true rfl) ⟨Nat.le_refl _, Nat.le_refl _⟩ (ra_ofC bC) ?_
                                    refine x_iconst (v := (-1)) dL_refusesAny_626 rfl ?_
                                    refine x_icmp_ne (tgt := 828) dL_refusesAny_627 (by decide) (fun c => absurd (by rfl) c) (fun _ => ?_)
                                    have j660 : ∀ (g660 : Nat → Option va_E), XS g660 x σ n τ sl sv → Ev st (d + 8) yL_refusesAny cL_refusesAny 7 (some .boolean) (z, h) 0 0 (XQ 1 z x σ n τ sl sv) 660 [.ref x, .int X, .int (badL σ X), .int (badC σ X), .int (badH X), .int (anyB σ), .int 1] [] (z, g660) 0 0 := fun g660 hG660 => by
                                      refine x_aload_n dL_refusesAny_660 rfl ?_
                                      refine x_iload dL_refusesAny_661 rfl ?_
                                      refine x_bipush (v := 9) dL_refusesAny_663 rfl ?_
                                      refine l_rd (v := (-1)) dL_refusesAny_665 kX4_heir iX4_heir q340 hG660 (fun _ _ _ a1 a2 a3 => x_heir _ a1 a2 a3 _ _) rfl rfl rfl (Nat.le_of_ble_eq_true rfl) ⟨Nat.le_refl _, Nat.le_refl _⟩ (ra_heir bH) ?_
                                      refine x_iconst (v := (-1)) dL_refusesAny_668 rfl ?_
                                      refine x_icmp_ne (tgt := 828) dL_refusesAny_669 (by decide) (fun c => absurd (by rfl) c) (fun _ => ?_)
                                      refine x_aload_n dL_refusesAny_672 rfl ?_
                                      refine x_iconst (v := 0) dL_refusesAny_673 rfl ?_
                                      have j685 : Ev st (d + 8) yL_refusesAny cL_refusesAny 7 (some .boolean) (z, h) 0 0 (XQ 1 z x σ n τ sl sv) 685 [.ref x, .int X, .int (badL σ X), .int (badC σ X), .int (badH X), .int (anyB σ), .int 1] [.int (pv X (-1) 4), .int 0, .ref x] (z, g660) 0 0 := by
                                        refine l_rd (v := (-2)) dL_refusesAny_685 kX4_heir iX4_heir q340 hG660 (fun _ _ _ a1 a2 a3 => x_heir _ a1 a2 a3 _ _) rfl rfl rfl (Nat.le_of_ble_eq_true rfl) ⟨Nat.le_refl _, Nat.le_refl _⟩ ((ra_misc X).1) ?_
                                        refine x_bipush (v := (-2)) dL_refusesAny_688 rfl ?_
                                        refine x_icmp_ne (tgt := 828) dL_refusesAny_690 (by decide) (fun c => absurd (by rfl) c) (fun _ => ?_)
                                        refine x_aload_n dL_refusesAny_693 rfl ?_
                                        have j706 : Ev st (d + 8) yL_refusesAny cL_refusesAny 7 (some .boolean) (z, h) 0 0 (XQ 1 z x σ n τ sl sv) 706 [.ref x, .int X, .int (badL σ X), .int (badC σ X), .int (badH X), .int (anyB σ), .int 1] [.int (pv X (-1) 21), .ref x] (z, g660) 0 0 := by
                                          refine l_cn (v := (-2)) dL_refusesAny_706 q201 hG660 (Nat.le_of_ble_eq_true rfl) ⟨Nat.le_refl _, Nat.le_refl _⟩ (fun _ _ => (ra_misc X).2.1 _ _) ?_
                                          refine x_bipush (v := (-2)) dL_refusesAny_709 rfl ?_
                                          refine x_icmp_ne (tgt := 828) dL_refusesAny_711 (by decide) (fun c => absurd (by rfl) c) (fun _ => ?_)
                                          refine x_aload_n dL_refusesAny_714 rfl ?_
                                          refine x_iload_n dL_refusesAny_715 rfl ?_
                                          refine l_rd (v := (-1)) dL_refusesAny_716 kX4_why iX4_why q379 hG660 (fun _ _ _ a1 a2 a3 => x_why _ a1 a2 a3 _) rfl rfl rfl (Nat.le_of_ble_eq_true rfl) ⟨Nat.le_refl _, Nat.le_refl _⟩ ((ra_of bL).2.1) ?_
                                          refine x_iconst (v := (-1)) dL_refusesAny_719 rfl ?_
                                          refine x_icmp_ne (tgt := 828) dL_refusesAny_720 (by decide) (fun c => absurd (by rfl) c) (fun _ => ?_)
                                          refine x_aload_n dL_refusesAny_723 rfl ?_
                                          refine x_iload_n dL_refusesAny_724 rfl ?_
                                          refine l_rd (v := (-1)) dL_refusesAny_725 kX4_fallsIn iX4_fallsIn q391 hG660 (fun _ _ _ a1 a2 a3 => x_fallsIn _ a1 a2 a3 _) rfl rfl rfl (Nat.le_of_ble_eq_true rfl) ⟨Nat.le_refl _, Nat.le_refl _⟩ ((ra_of bL).2.2.1) ?_
                                          refine x_iconst (v := (-1)) dL_refusesAny_728 rfl ?_
                                          refine x_icmp_ne (tgt := 828) dL_refusesAny_729 (by decide) (fun c => absurd (by rfl) c) (fun _ => ?_)
                                          refine x_aload_n dL_refusesAny_732 rfl ?_
                                          refine x_iload_n dL_refusesAny_733 rfl ?_
                                          refine x_iconst (v := 0) dL_refusesAny_734 rfl ?_
                                          refine x_bipush (v := 9) dL_refusesAny_735 rfl ?_
                                          refine l_rd (v := (-1)) dL_refusesAny_737 kX4_share iX4_share q572 hG660 (fun _ _ _ a1 a2 a3 => x_share _ a1 a2 a3 _ _ _) rfl rfl rfl (Nat.le_of_ble_eq_true rfl) ⟨Nat.le_refl _, Nat.le_refl _⟩ ((ra_of bL).2.2.2) ?_
                                          refine x_iconst (v := (-1)) dL_refusesAny_740 rfl ?_
                                          refine x_icmp_ne (tgt := 828) dL_refusesAny_741 (by decide) (fun c => absurd (by rfl) c) (fun _ => ?_)
                                          refine x_aload_n dL_refusesAny_744 rfl ?_
                                          have j756 : Ev st (d + 8) yL_refusesAny cL_refusesAny 7 (some .boolean) (z, h) 0 0 (XQ 1 z x σ n τ sl sv) 756 [.ref x, .int X, .int (badL σ X), .int (badC σ X), .int (badH X), .int (anyB σ), .int 1] [.int (pv X (-1) 2), .ref x] (z, g660) 0 0 := by
                                            refine l_rd (v := (-2)) dL_refusesAny_756 kX4_nextFall iX4_nextFall q411 hG660 (fun _ _ _ a1 a2 a3 => x_nextFall _ a1 a2 a3 _) rfl rfl rfl (Nat.le_of_ble_eq_true rfl) ⟨Nat.le_refl _, Nat.le_refl _⟩ ((ra_misc X).2.2.1) ?_
                                            refine x_bipush (v := (-2)) dL_refusesAny_759 rfl ?_
                                            refine x_icmp_ne (tgt := 828) dL_refusesAny_761 (by decide) (fun c => absurd (by rfl) c) (fun _ => ?_)
                                            refine x_aload_n dL_refusesAny_764 rfl ?_
                                            have j776 : Ev st (d + 8) yL_refusesAny cL_refusesAny 7 (some .boolean) (z, h) 0 0 (XQ 1 z x σ n τ sl sv) 776 [.ref x, .int X, .int (badL σ X), .int (badC σ X), .int (badH X), .int (anyB σ), .int 1] [.int (pv X (-1) 2), .ref x] (z, g660) 0 0 := by
                                              refine l_rd (v := (-2)) dL_refusesAny_776 kX4_nextLapse iX4_nextLapse q423 hG660 (fun _ _ _ a1 a2 a3 => x_nextLapse _ a1 a2 a3 _) rfl rfl rfl (Nat.le_of_ble_eq_true rfl) ⟨Nat.le_refl _, Nat.le_refl _⟩ ((ra_misc X).2.2.2.1) ?_
                                              refine x_bipush (v := (-2)) dL_refusesAny_779 rfl ?_
                                              refine x_icmp_ne (tgt := 828) dL_refusesAny_781 (by decide) (fun c => absurd (by rfl) c) (fun _ => ?_)
                                              refine x_aload_n dL_refusesAny_784 rfl ?_
                                              have j796 : Ev st (d + 8) yL_refusesAny cL_refusesAny 7 (some .boolean) (z, h) 0 0 (XQ 1 z x σ n τ sl sv) 796 [.ref x, .int X, .int (badL σ X), .int (badC σ X), .int (badH X), .int (anyB σ), .int 1] [.int (pv X (-1) 2), .ref x] (z, g660) 0 0 := by
                                                refine l_xq dL_refusesAny_796 kX4_save iX4_save q270 hG660 (ct_saveX (d + 3) hG660 ((ra_misc (σ := σ) X).2.2.2.2)) rfl rfl rfl (Nat.le_of_ble_eq_true rfl) ⟨Nat.le_refl _, Nat.le_refl _⟩ (fun h16 hX16 => ?_)
                                                refine x_bipush (v := (-2)) dL_refusesAny_799 rfl ?_
                                                refine x_icmp_ne (tgt := 828) dL_refusesAny_801 (by decide) (fun c => absurd (by rfl) c) (fun _ => ?_)
                                                refine x_aload_n dL_refusesAny_804 rfl ?_
                                                have j816 : Ev st (d + 8) yL_refusesAny cL_refusesAny 7 (some .boolean) (z, h) 0 0 (XQ 1 z x σ n τ sl sv) 816 [.ref x, .int X, .int (badL σ X), .int (badC σ X), .int (badH X), .int (anyB σ), .int 1] [.int (pv X (-1) 2), .ref x] (z, h16) 0 0 := by
                                                  refine l_xq dL_refusesAny_816 kX4_restore iX4_restore q274 hX16 (ct_restX (d + 2) hX16 ((ra_misc (σ := σ) X).2.2.2.2)) rfl rfl rfl (Nat.le_of_ble_eq_true rfl) ⟨Nat.le_refl _, Nat.le_refl _⟩ (fun h17 hX17 => ?_)
                                                  refine x_bipush (v := (-2)) dL_refusesAny_819 rfl ?_
                                                  refine x_icmp_ne (tgt := 828) dL_refusesAny_821 (by decide) (fun c => absurd (by rfl) c) (fun _ => ?_)
                                                  refine x_iconst (v := 1) dL_refusesAny_824 rfl ?_
                                                  refine x_goto (tgt := 829) dL_refusesAny_825 (by decide) ?_
                                                  refine e_isd (b := 1) (lv2 := [.ref x, .int X, .int (badL σ X), .int (badC σ X), .int (badH X), .int (anyB σ), .int 1]) dL_refusesAny_829 (Nat.le_of_ble_eq_true rfl) rfl rfl rfl ?_
                                                  refine x_iload dL_refusesAny_831 rfl ?_
                                                  refine x_if_eq (tgt := 863) dL_refusesAny_833 (by decide) (fun c => absurd c (by decide)) (fun _ => ?_)
                                                  refine x_aload_n dL_refusesAny_836 rfl ?_
                                                  refine l_xq dL_refusesAny_837 kX4_wipe iX4_wipe q580 hX17 (ct_wipe (d + 5) hX17) rfl rfl rfl (Nat.le_of_ble_eq_true rfl) ⟨Nat.le_refl _, Nat.le_refl _⟩ (fun h18 hX18 => ?_)
                                                  refine x_if_ne (tgt := 863) dL_refusesAny_840 (by decide) (fun c => absurd (by decide) c) (fun _ => ?_)
                                                  refine x_aload_n dL_refusesAny_843 rfl ?_
                                                  refine l_xq dL_refusesAny_844 kX4_carryOut iX4_carryOut q588 hX18 (ct_carry d hX18) rfl rfl rfl (Nat.le_of_ble_eq_true rfl) ⟨Nat.le_refl _, Nat.le_refl _⟩ (fun h19 hX19 => ?_)
                                                  refine x_bipush (v := (-3)) dL_refusesAny_847 rfl ?_
                                                  refine x_icmp_ne (tgt := 863) dL_refusesAny_849 (by decide) (fun c => absurd (by rfl) c) (fun _ => ?_)
                                                  refine x_aload_n dL_refusesAny_852 rfl ?_
                                                  refine l_xq dL_refusesAny_853 kX4_fault iX4_fault q630 hX19 (ct_fault (d + 1) hX19) rfl rfl rfl (Nat.le_of_ble_eq_true rfl) ⟨Nat.le_refl _, Nat.le_refl _⟩ (fun h20 hX20 => ?_)
                                                  refine x_if_ne (tgt := 863) dL_refusesAny_856 (by decide) (fun c => absurd (by decide) c) (fun _ => ?_)
                                                  refine x_iconst (v := 1) dL_refusesAny_859 rfl ?_
                                                  refine x_goto (tgt := 864) dL_refusesAny_860 (by decide) ?_
                                                  refine x_iret dL_refusesAny_864 (Or.inr ⟨rfl, rfl⟩) rfl (Nat.le_refl _) ?_
                                                  exact ⟨rfl, _, rfl, hX20⟩
                                                refine x_iload_n dL_refusesAny_805 rfl ?_
                                                refine x_iconst (v := 2) dL_refusesAny_806 rfl ?_
                                                refine x_irem dL_refusesAny_807 (by decide) ?_
                                                refine x_if_ne (tgt := 815) dL_refusesAny_808 (by decide) (fun c808 => ?_) (fun c808 => ?_)
                                                · refine x_iconst (v := 2) dL_refusesAny_815 rfl ?_
                                                  exact e_top (b := pv X (-1) 2) (by first | exact (if_neg c808).symm | exact (if_pos c808).symm) j816
                                                · refine x_iconst (v := (-1)) dL_refusesAny_811 rfl ?_
                                                  refine x_goto (tgt := 816) dL_refusesAny_812 (by decide) ?_
                                                  exact e_top (b := pv X (-1) 2) (by first | exact (if_neg c808).symm | exact (if_pos c808).symm) j816
                                              refine x_iload_n dL_refusesAny_785 rfl ?_
                                              refine x_iconst (v := 2) dL_refusesAny_786 rfl ?_
                                              refine x_irem dL_refusesAny_787 (by decide) ?_
                                              refine x_if_ne (tgt := 795) dL_refusesAny_788 (by decide) (fun c788 => ?_) (fun c788 => ?_)
                                              · refine x_iconst (v := 2) dL_refusesAny_795 rfl ?_
                                                exact e_top (b := pv X (-1) 2) (by first | exact (if_neg c788).symm | exact (if_pos c788).symm) j796
                                              · refine x_iconst (v := (-1)) dL_refusesAny_791 rfl ?_
                                                refine x_goto (tgt := 796) dL_refusesAny_792 (by decide) ?_
                                                exact e_top (b := pv X (-1) 2) (by first | exact (if_neg c788).symm | exact (if_pos c788).symm) j796
                                            refine x_iload_n dL_refusesAny_765 rfl ?_
                                            refine x_iconst (v := 2) dL_refusesAny_766 rfl ?_
                                            refine x_irem dL_refusesAny_767 (by decide) ?_
                                            refine x_if_ne (tgt := 775) dL_refusesAny_768 (by decide) (fun c768 => ?_) (fun c768 => ?_)
                                            · refine x_iconst (v := 2) dL_refusesAny_775 rfl ?_
                                              exact e_top (b := pv X (-1) 2) (by first | exact (if_neg c768).symm | exact (if_pos c768).symm) j776
                                            · refine x_iconst (v := (-1)) dL_refusesAny_771 rfl ?_
                                              refine x_goto (tgt := 776) dL_refusesAny_772 (by decide) ?_
                                              exact e_top (b := pv X (-1) 2) (by first | exact (if_neg c768).symm | exact (if_pos c768).symm) j776
                                          refine x_iload_n dL_refusesAny_745 rfl ?_
                                          refine x_iconst (v := 2) dL_refusesAny_746 rfl ?_
                                          refine x_irem dL_refusesAny_747 (by decide) ?_
                                          refine x_if_ne (tgt := 755) dL_refusesAny_748 (by decide) (fun c748 => ?_) (fun c748 => ?_)
                                          · refine x_iconst (v := 2) dL_refusesAny_755 rfl ?_
                                            exact e_top (b := pv X (-1) 2) (by first | exact (if_neg c748).symm | exact (if_pos c748).symm) j756
                                          · refine x_iconst (v := (-1)) dL_refusesAny_751 rfl ?_
                                            refine x_goto (tgt := 756) dL_refusesAny_752 (by decide) ?_
                                            exact e_top (b := pv X (-1) 2) (by first | exact (if_neg c748).symm | exact (if_pos c748).symm) j756
                                        refine x_iload_n dL_refusesAny_694 rfl ?_
                                        refine x_iconst (v := 2) dL_refusesAny_695 rfl ?_
                                        refine x_irem dL_refusesAny_696 (by decide) ?_
                                        refine x_if_ne (tgt := 704) dL_refusesAny_697 (by decide) (fun c697 => ?_) (fun c697 => ?_)
                                        · refine x_bipush (v := 21) dL_refusesAny_704 rfl ?_
                                          exact e_top (b := pv X (-1) 21) (by first | exact (if_neg c697).symm | exact (if_pos c697).symm) j706
                                        · refine x_iconst (v := (-1)) dL_refusesAny_700 rfl ?_
                                          refine x_goto (tgt := 706) dL_refusesAny_701 (by decide) ?_
                                          exact e_top (b := pv X (-1) 21) (by first | exact (if_neg c697).symm | exact (if_pos c697).symm) j706
                                      refine x_iload_n dL_refusesAny_674 rfl ?_
                                      refine x_iconst (v := 2) dL_refusesAny_675 rfl ?_
                                      refine x_irem dL_refusesAny_676 (by decide) ?_
                                      refine x_if_ne (tgt := 684) dL_refusesAny_677 (by decide) (fun c677 => ?_) (fun c677 => ?_)
                                      · refine x_iconst (v := 4) dL_refusesAny_684 rfl ?_
                                        exact e_top (b := pv X (-1) 4) (by first | exact (if_neg c677).symm | exact (if_pos c677).symm) j685
                                      · refine x_iconst (v := (-1)) dL_refusesAny_680 rfl ?_
                                        refine x_goto (tgt := 685) dL_refusesAny_681 (by decide) ?_
                                        exact e_top (b := pv X (-1) 4) (by first | exact (if_neg c677).symm | exact (if_pos c677).symm) j685
                                    refine x_aload_n dL_refusesAny_630 rfl ?_
                                    refine x_iconst (v := 2) dL_refusesAny_631 rfl ?_
                                    refine l_cn (v := nI (nCl σ)) dL_refusesAny_632 q201 hG619 (Nat.le_of_ble_eq_true rfl) ⟨Nat.le_refl _, Nat.le_refl _⟩ (fun _ _ => xn_2 hG619.q _ _) ?_
                                    refine x_if_eq (tgt := 660) dL_refusesAny_635 (by decide) (fun c635 => ?_) (fun c635 => ?_)
                                    · exact (j660 _ hG619)
                                    · refine x_aload_n dL_refusesAny_638 rfl ?_
                                      refine x_iconst (v := 0) dL_refusesAny_639 rfl ?_
                                      have j652 : Ev st (d + 8) yL_refusesAny cL_refusesAny 7 (some .boolean) (z, h) 0 0 (XQ 1 z x σ n τ sl sv) 652 [.ref x, .int X, .int (badL σ X), .int (badC σ X), .int (badH X), .int (anyB σ), .int 1] [.int (pv X (-1) 7), .int 0, .ref x] (z, g619) 0 0 := by
                                        refine l_rd (v := (-2)) dL_refusesAny_652 kX4_ofClaim iX4_ofClaim q364 hG619 (fun _ _ _ a1 a2 a3 => x_ofClaim _ a1 a2 a3 _ _) rfl rfl rfl (Nat.le_of_ble_eq_true rfl) ⟨Nat.le_refl _, Nat.le_refl _⟩ ((ra_prove0 hQ (cl0 (by first | exact c390 | exact c635)) X).2) ?_
                                        refine x_bipush (v := (-2)) dL_refusesAny_655 rfl ?_
                                        refine x_icmp_ne (tgt := 828) dL_refusesAny_657 (by decide) (fun c => absurd (by rfl) c) (fun _ => ?_)
                                        exact (j660 _ hG619)
                                      refine x_iload_n dL_refusesAny_640 rfl ?_
                                      refine x_iconst (v := 2) dL_refusesAny_641 rfl ?_
                                      refine x_irem dL_refusesAny_642 (by decide) ?_
                                      refine x_if_ne (tgt := 650) dL_refusesAny_643 (by decide) (fun c643 => ?_) (fun c643 => ?_)
                                      · refine x_bipush (v := 7) dL_refusesAny_650 rfl ?_
                                        exact e_top (b := pv X (-1) 7) (by first | exact (if_neg c643).symm | exact (if_pos c643).symm) j652
                                      · refine x_iconst (v := (-1)) dL_refusesAny_646 rfl ?_
                                        refine x_goto (tgt := 652) dL_refusesAny_647 (by decide) ?_
                                        exact e_top (b := pv X (-1) 7) (by first | exact (if_neg c643).symm | exact (if_pos c643).symm) j652
                                  refine x_iload dL_refusesAny_557 rfl ?_
                                  refine x_if_eq (tgt := 619) dL_refusesAny_559 (by decide) (fun c559 => ?_) (fun c559 => ?_)
                                  · exact (j619 _ hX15)
                                  · refine x_aload_n dL_refusesAny_562 rfl ?_
                                    refine x_iconst (v := 0) dL_refusesAny_563 rfl ?_
                                    have j576 : Ev st (d + 8) yL_refusesAny cL_refusesAny 7 (some .boolean) (z, h) 0 0 (XQ 1 z x σ n τ sl sv) 576 [.ref x, .int X, .int (badL σ X), .int (badC σ X), .int (badH X), .int (anyB σ), .int 1] [.int (pv X (-1) 7), .int 0, .ref x] (z, h15) 0 0 := by
                                      refine l_rd (v := (-2)) dL_refusesAny_576 kX4_of iX4_of q309 hX15 (fun _ _ _ a1 a2 a3 => x_of _ a1 a2 a3 _ _) rfl rfl rfl (Nat.le_of_ble_eq_true rfl) ⟨Nat.le_refl _, Nat.le_refl _⟩ ((ra_of0 hQ (aB.2.2 (by first | exact c303 | exact c559)) X).1) ?_
                                      refine x_bipush (v := (-2)) dL_refusesAny_579 rfl ?_
                                      refine x_icmp_ne (tgt := 828) dL_refusesAny_581 (by decide) (fun c => absurd (by rfl) c) (fun _ => ?_)
                                      refine x_aload_n dL_refusesAny_584 rfl ?_
                                      refine x_iconst (v := 0) dL_refusesAny_585 rfl ?_
                                      refine x_iload dL_refusesAny_586 rfl ?_
                                      refine x_bipush (v := 9) dL_refusesAny_588 rfl ?_
                                      refine l_rd (v := (-1)) dL_refusesAny_590 kX4_share iX4_share q572 hX15 (fun _ _ _ a1 a2 a3 => x_share _ a1 a2 a3 _ _ _) rfl rfl rfl (Nat.le_of_ble_eq_true rfl) ⟨Nat.le_refl _, Nat.le_refl _⟩ (ra_share0 hQ (aB.2.2 (by first | exact c303 | exact c559)) bH) ?_
                                      refine x_iconst (v := (-1)) dL_refusesAny_593 rfl ?_
                                      refine x_icmp_ne (tgt := 828) dL_refusesAny_594 (by decide) (fun c => absurd (by rfl) c) (fun _ => ?_)
                                      refine x_aload_n dL_refusesAny_597 rfl ?_
                                      refine x_iconst (v := 0) dL_refusesAny_598 rfl ?_
                                      refine x_iconst (v := 0) dL_refusesAny_599 rfl ?_
                                      have j611 : Ev st (d + 8) yL_refusesAny cL_refusesAny 7 (some .boolean) (z, h) 0 0 (XQ 1 z x σ n τ sl sv) 611 [.ref x, .int X, .int (badL σ X), .int (badC σ X), .int (badH X), .int (anyB σ), .int 1] [.int (pv X (-1) 2), .int 0, .int 0, .ref x] (z, h15) 0 0 := by
                                        refine l_rd (v := (-2)) dL_refusesAny_611 kX4_share iX4_share q572 hX15 (fun _ _ _ a1 a2 a3 => x_share _ a1 a2 a3 _ _ _) rfl rfl rfl (Nat.le_of_ble_eq_true rfl) ⟨Nat.le_refl _, Nat.le_refl _⟩ ((ra_of0 hQ (aB.2.2 (by first | exact c303 | exact c559)) X).2) ?_
                                        refine x_bipush (v := (-2)) dL_refusesAny_614 rfl ?_
                                        refine x_icmp_ne (tgt := 828) dL_refusesAny_616 (by decide) (fun c => absurd (by rfl) c) (fun _ => ?_)
                                        exact (j619 _ hX15)
                                      refine x_iload_n dL_refusesAny_600 rfl ?_
                                      refine x_iconst (v := 2) dL_refusesAny_601 rfl ?_
                                      refine x_irem dL_refusesAny_602 (by decide) ?_
                                      refine x_if_ne (tgt := 610) dL_refusesAny_603 (by decide) (fun c603 => ?_) (fun c603 => ?_)
                                      · refine x_iconst (v := 2) dL_refusesAny_610 rfl ?_
                                        exact e_top (b := pv X (-1) 2) (by first | exact (if_neg c603).symm | exact (if_pos c603).symm) j611
                                      · refine x_iconst (v := (-1)) dL_refusesAny_606 rfl ?_
                                        refine x_goto (tgt := 611) dL_refusesAny_607 (by decide) ?_
                                        exact e_top (b := pv X (-1) 2) (by first | exact (if_neg c603).symm | exact (if_pos c603).symm) j611
                                    refine x_iload_n dL_refusesAny_564 rfl ?_
                                    refine x_iconst (v := 2) dL_refusesAny_565 rfl ?_
                                    refine x_irem dL_refusesAny_566 (by decide) ?_
                                    refine x_if_ne (tgt := 574) dL_refusesAny_567 (by decide) (fun c567 => ?_) (fun c567 => ?_)
                                    · refine x_bipush (v := 7) dL_refusesAny_574 rfl ?_
                                      exact e_top (b := pv X (-1) 7) (by first | exact (if_neg c567).symm | exact (if_pos c567).symm) j576
                                    · refine x_iconst (v := (-1)) dL_refusesAny_570 rfl ?_
                                      refine x_goto (tgt := 576) dL_refusesAny_571 (by decide) ?_
                                      exact e_top (b := pv X (-1) 7) (by first | exact (if_neg c567).symm | exact (if_pos c567).symm) j576
                                · refine x_aload_n dL_refusesAny_522 rfl ?_
                                  refine x_sipush (v := 400) dL_refusesAny_523 rfl ?_
                                  refine l_xq dL_refusesAny_526 kX4_pass iX4_pass q546 hX15 (ct_no hX15 (fun _ _ _ a1 a2 a3 => x_pass (d + 1) a1 a2 a3 _) (ra_pass9 hQ c519) (by decide)) rfl rfl rfl (Nat.le_of_ble_eq_true rfl) ⟨Nat.le_refl _, Nat.le_refl _⟩ (fun h21 hX21 => ?_)
                                  refine x_bipush (v := (-5)) dL_refusesAny_529 rfl ?_
                                  refine x_icmp_ne (tgt := 538) dL_refusesAny_531 (by decide) (fun c => absurd (by rfl) c) (fun _ => ?_)
                                  refine x_iconst (v := 1) dL_refusesAny_534 rfl ?_
                                  refine x_goto (tgt := 539) dL_refusesAny_535 (by decide) ?_
                                  refine e_isd (b := 1) (lv2 := [.ref x, .int X, .int (badL σ X), .int (badC σ X), .int (badH X), .int (anyB σ), .int 1]) dL_refusesAny_539 (Nat.le_of_ble_eq_true rfl) rfl rfl rfl ?_
                                  refine x_iload dL_refusesAny_541 rfl ?_
                                  refine x_if_eq (tgt := 828) dL_refusesAny_543 (by decide) (fun c => absurd c (by decide)) (fun _ => ?_)
                                  refine x_aload_n dL_refusesAny_546 rfl ?_
                                  refine x_iload_n dL_refusesAny_547 rfl ?_
                                  refine x_bipush (v := 99) dL_refusesAny_548 rfl ?_
                                  refine l_rd (v := (-1)) dL_refusesAny_550 kX4_of iX4_of q309 hX21 (fun _ _ _ a1 a2 a3 => x_of _ a1 a2 a3 _ _) rfl rfl rfl (Nat.le_of_ble_eq_true rfl) ⟨Nat.le_refl _, Nat.le_refl _⟩ ((ra_of bL).1) ?_
                                  refine x_iconst (v := (-1)) dL_refusesAny_553 rfl ?_
                                  refine x_icmp_ne (tgt := 828) dL_refusesAny_554 (by decide) (fun c => absurd (by rfl) c) (fun _ => ?_)
                                  have j619 : ∀ (g619 : Nat → Option va_E), XS g619 x σ n τ sl sv → Ev st (d + 8) yL_refusesAny cL_refusesAny 7 (some .boolean) (z, h) 0 0 (XQ 1 z x σ n τ sl sv) 619 [.ref x, .int X, .int (badL σ X), .int (badC σ X), .int (badH X), .int (anyB σ), .int 1] [] (z, g619) 0 0 := fun g619 hG619 => by
                                    refine x_aload_n dL_refusesAny_619 rfl ?_
                                    refine x_iload_n dL_refusesAny_620 rfl ?_
                                    refine x_bipush (v := 99) dL_refusesAny_621 rfl ?_
                                    refine l_rd (v := (-1)) dL_refusesAny_623 kX4_ofClaim iX4_ofClaim q364 hG619 (fun _ _ _ a1 a2 a3 => x_ofClaim _ a1 a2 a3 _ _) rfl rfl rfl (Nat.le_of_ble_eq_true rfl) ⟨Nat.le_refl _, Nat.le_refl _⟩ (ra_ofC bC) ?_
                                    refine x_iconst (v := (-1)) dL_refusesAny_626 rfl ?_
                                    refine x_icmp_ne (tgt := 828) dL_refusesAny_627 (by decide) (fun c => absurd (by rfl) c) (fun _ => ?_)
                                    have j660 : ∀ (g660 : Nat → Option va_E), XS g660 x σ n τ sl sv → Ev st (d + 8) yL_refusesAny cL_refusesAny 7 (some .boolean) (z, h) 0 0 (XQ 1 z x σ n τ sl sv) 660 [.ref x, .int X, .int (badL σ X), .int (badC σ X), .int (badH X), .int (anyB σ), .int 1] [] (z, g660) 0 0 := fun g660 hG660 => by
                                      refine x_aload_n dL_refusesAny_660 rfl ?_
                                      refine x_iload dL_refusesAny_661 rfl ?_
                                      refine x_bipush (v := 9) dL_refusesAny_663 rfl ?_
                                      refine l_rd (v := (-1)) dL_refusesAny_665 kX4_heir iX4_heir q340 hG660 (fun _ _ _ a1 a2 a3 => x_heir _ a1 a2 a3 _ _) rfl rfl rfl (Nat.le_of_ble_eq_true rfl) ⟨Nat.le_refl _, Nat.le_refl _⟩ (ra_heir bH) ?_
                                      refine x_iconst (v := (-1)) dL_refusesAny_668 rfl ?_
                                      refine x_icmp_ne (tgt := 828) dL_refusesAny_669 (by decide) (fun c => absurd (by rfl) c) (fun _ => ?_)
                                      refine x_aload_n dL_refusesAny_672 rfl ?_
                                      refine x_iconst (v := 0) dL_refusesAny_673 rfl ?_
                                      have j685 : Ev st (d + 8) yL_refusesAny cL_refusesAny 7 (some .boolean) (z, h) 0 0 (XQ 1 z x σ n τ sl sv) 685 [.ref x, .int X, .int (badL σ X), .int (badC σ X), .int (badH X), .int (anyB σ), .int 1] [.int (pv X (-1) 4), .int 0, .ref x] (z, g660) 0 0 := by
                                        refine l_rd (v := (-2)) dL_refusesAny_685 kX4_heir iX4_heir q340 hG660 (fun _ _ _ a1 a2 a3 => x_heir _ a1 a2 a3 _ _) rfl rfl rfl (Nat.le_of_ble_eq_true rfl) ⟨Nat.le_refl _, Nat.le_refl _⟩ ((ra_misc X).1) ?_
                                        refine x_bipush (v := (-2)) dL_refusesAny_688 rfl ?_
                                        refine x_icmp_ne (tgt := 828) dL_refusesAny_690 (by decide) (fun c => absurd (by rfl) c) (fun _ => ?_)
                                        refine x_aload_n dL_refusesAny_693 rfl ?_
                                        have j706 : Ev st (d + 8) yL_refusesAny cL_refusesAny 7 (some .boolean) (z, h) 0 0 (XQ 1 z x σ n τ sl sv) 706 [.ref x, .int X, .int (badL σ X), .int (badC σ X), .int (badH X), .int (anyB σ), .int 1] [.int (pv X (-1) 21), .ref x] (z, g660) 0 0 := by
                                          refine l_cn (v := (-2)) dL_refusesAny_706 q201 hG660 (Nat.le_of_ble_eq_true rfl) ⟨Nat.le_refl _, Nat.le_refl _⟩ (fun _ _ => (ra_misc X).2.1 _ _) ?_
                                          refine x_bipush (v := (-2)) dL_refusesAny_709 rfl ?_
                                          refine x_icmp_ne (tgt := 828) dL_refusesAny_711 (by decide) (fun c => absurd (by rfl) c) (fun _ => ?_)
                                          refine x_aload_n dL_refusesAny_714 rfl ?_
                                          refine x_iload_n dL_refusesAny_715 rfl ?_
                                          refine l_rd (v := (-1)) dL_refusesAny_716 kX4_why iX4_why q379 hG660 (fun _ _ _ a1 a2 a3 => x_why _ a1 a2 a3 _) rfl rfl rfl (Nat.le_of_ble_eq_true rfl) ⟨Nat.le_refl _, Nat.le_refl _⟩ ((ra_of bL).2.1) ?_
                                          refine x_iconst (v := (-1)) dL_refusesAny_719 rfl ?_
                                          refine x_icmp_ne (tgt := 828) dL_refusesAny_720 (by decide) (fun c => absurd (by rfl) c) (fun _ => ?_)
                                          refine x_aload_n dL_refusesAny_723 rfl ?_
                                          refine x_iload_n dL_refusesAny_724 rfl ?_
                                          refine l_rd (v := (-1)) dL_refusesAny_725 kX4_fallsIn iX4_fallsIn q391 hG660 (fun _ _ _ a1 a2 a3 => x_fallsIn _ a1 a2 a3 _) rfl rfl rfl (Nat.le_of_ble_eq_true rfl) ⟨Nat.le_refl _, Nat.le_refl _⟩ ((ra_of bL).2.2.1) ?_
                                          refine x_iconst (v := (-1)) dL_refusesAny_728 rfl ?_
                                          refine x_icmp_ne (tgt := 828) dL_refusesAny_729 (by decide) (fun c => absurd (by rfl) c) (fun _ => ?_)
                                          refine x_aload_n dL_refusesAny_732 rfl ?_
                                          refine x_iload_n dL_refusesAny_733 rfl ?_
                                          refine x_iconst (v := 0) dL_refusesAny_734 rfl ?_
                                          refine x_bipush (v := 9) dL_refusesAny_735 rfl ?_
                                          refine l_rd (v := (-1)) dL_refusesAny_737 kX4_share iX4_share q572 hG660 (fun _ _ _ a1 a2 a3 => x_share _ a1 a2 a3 _ _ _) rfl rfl rfl (Nat.le_of_ble_eq_true rfl) ⟨Nat.le_refl _, Nat.le_refl _⟩ ((ra_of bL).2.2.2) ?_
                                          refine x_iconst (v := (-1)) dL_refusesAny_740 rfl ?_
                                          refine x_icmp_ne (tgt := 828) dL_refusesAny_741 (by decide) (fun c => absurd (by rfl) c) (fun _ => ?_)
                                          refine x_aload_n dL_refusesAny_744 rfl ?_
                                          have j756 : Ev st (d + 8) yL_refusesAny cL_refusesAny 7 (some .boolean) (z, h) 0 0 (XQ 1 z x σ n τ sl sv) 756 [.ref x, .int X, .int (badL σ X), .int (badC σ X), .int (badH X), .int (anyB σ), .int 1] [.int (pv X (-1) 2), .ref x] (z, g660) 0 0 := by
                                            refine l_rd (v := (-2)) dL_refusesAny_756 kX4_nextFall iX4_nextFall q411 hG660 (fun _ _ _ a1 a2 a3 => x_nextFall _ a1 a2 a3 _) rfl rfl rfl (Nat.le_of_ble_eq_true rfl) ⟨Nat.le_refl _, Nat.le_refl _⟩ ((ra_misc X).2.2.1) ?_
                                            refine x_bipush (v := (-2)) dL_refusesAny_759 rfl ?_
                                            refine x_icmp_ne (tgt := 828) dL_refusesAny_761 (by decide) (fun c => absurd (by rfl) c) (fun _ => ?_)
                                            refine x_aload_n dL_refusesAny_764 rfl ?_
                                            have j776 : Ev st (d + 8) yL_refusesAny cL_refusesAny 7 (some .boolean) (z, h) 0 0 (XQ 1 z x σ n τ sl sv) 776 [.ref x, .int X, .int (badL σ X), .int (badC σ X), .int (badH X), .int (anyB σ), .int 1] [.int (pv X (-1) 2), .ref x] (z, g660) 0 0 := by
                                              refine l_rd (v := (-2)) dL_refusesAny_776 kX4_nextLapse iX4_nextLapse q423 hG660 (fun _ _ _ a1 a2 a3 => x_nextLapse _ a1 a2 a3 _) rfl rfl rfl (Nat.le_of_ble_eq_true rfl) ⟨Nat.le_refl _, Nat.le_refl _⟩ ((ra_misc X).2.2.2.1) ?_
                                              refine x_bipush (v := (-2)) dL_refusesAny_779 rfl ?_
                                              refine x_icmp_ne (tgt := 828) dL_refusesAny_781 (by decide) (fun c => absurd (by rfl) c) (fun _ => ?_)
                                              refine x_aload_n dL_refusesAny_784 rfl ?_
                                              have j796 : Ev st (d + 8) yL_refusesAny cL_refusesAny 7 (some .boolean) (z, h) 0 0 (XQ 1 z x σ n τ sl sv) 796 [.ref x, .int X, .int (badL σ X), .int (badC σ X), .int (badH X), .int (anyB σ), .int 1] [.int (pv X (-1) 2), .ref x] (z, g660) 0 0 := by
                                                refine l_xq dL_refusesAny_796 kX4_save iX4_save q270 hG660 (ct_saveX (d + 3) hG660 ((ra_misc (σ := σ) X).2.2.2.2)) rfl rfl rfl (Nat.le_of_ble_eq_true rfl) ⟨Nat.le_refl _, Nat.le_refl _⟩ (fun h22 hX22 => ?_)
                                                refine x_bipush (v := (-2)) dL_refusesAny_799 rfl ?_
                                                refine x_icmp_ne (tgt := 828) dL_refusesAny_801 (by decide) (fun c => absurd (by rfl) c) (fun _ => ?_)
                                                refine x_aload_n dL_refusesAny_804 rfl ?_
                                                have j816 : Ev st (d + 8) yL_refusesAny cL_refusesAny 7 (some .boolean) (z, h) 0 0 (XQ 1 z x σ n τ sl sv) 816 [.ref x, .int X, .int (badL σ X), .int (badC σ X), .int (badH X), .int (anyB σ), .int 1] [.int (pv X (-1) 2), .ref x] (z, h22) 0 0 := by
                                                  refine l_xq dL_refusesAny_816 kX4_restore iX4_restore q274 hX22 (ct_restX (d + 2) hX22 ((ra_misc (σ := σ) X).2.2.2.2)) rfl rfl rfl (Nat.le_of_ble_eq_true rfl) ⟨Nat.le_refl _, Nat.le_refl _⟩ (fun h23 hX23 => ?_)
                                                  refine x_bipush (v := (-2)) dL_refusesAny_819 rfl ?_
                                                  refine x_icmp_ne (tgt := 828) dL_refusesAny_821 (by decide) (fun c => absurd (by rfl) c) (fun _ => ?_)
                                                  refine x_iconst (v := 1) dL_refusesAny_824 rfl ?_
                                                  refine x_goto (tgt := 829) dL_refusesAny_825 (by decide) ?_
                                                  refine e_isd (b := 1) (lv2 := [.ref x, .int X, .int (badL σ X), .int (badC σ X), .int (badH X), .int (anyB σ), .int 1]) dL_refusesAny_829 (Nat.le_of_ble_eq_true rfl) rfl rfl rfl ?_
                                                  refine x_iload dL_refusesAny_831 rfl ?_
                                                  refine x_if_eq (tgt := 863) dL_refusesAny_833 (by decide) (fun c => absurd c (by decide)) (fun _ => ?_)
                                                  refine x_aload_n dL_refusesAny_836 rfl ?_
                                                  refine l_xq dL_refusesAny_837 kX4_wipe iX4_wipe q580 hX23 (ct_wipe (d + 5) hX23) rfl rfl rfl (Nat.le_of_ble_eq_true rfl) ⟨Nat.le_refl _, Nat.le_refl _⟩ (fun h24 hX24 => ?_)
                                                  refine x_if_ne (tgt := 863) dL_refusesAny_840 (by decide) (fun c => absurd (by decide) c) (fun _ => ?_)
                                                  refine x_aload_n dL_refusesAny_843 rfl ?_
                                                  refine l_xq dL_refusesAny_844 kX4_carryOut iX4_carryOut q588 hX24 (ct_carry d hX24) rfl rfl rfl (Nat.le_of_ble_eq_true rfl) ⟨Nat.le_refl _, Nat.le_refl _⟩ (fun h25 hX25 => ?_)
                                                  refine x_bipush (v := (-3)) dL_refusesAny_847 rfl ?_
                                                  refine x_icmp_ne (tgt := 863) dL_refusesAny_849 (by decide) (fun c => absurd (by rfl) c) (fun _ => ?_)
                                                  refine x_aload_n dL_refusesAny_852 rfl ?_
                                                  refine l_xq dL_refusesAny_853 kX4_fault iX4_fault q630 hX25 (ct_fault (d + 1) hX25) rfl rfl rfl (Nat.le_of_ble_eq_true rfl) ⟨Nat.le_refl _, Nat.le_refl _⟩ (fun h26 hX26 => ?_)
                                                  refine x_if_ne (tgt := 863) dL_refusesAny_856 (by decide) (fun c => absurd (by decide) c) (fun _ => ?_)
                                                  refine x_iconst (v := 1) dL_refusesAny_859 rfl ?_
                                                  refine x_goto (tgt := 864) dL_refusesAny_860 (by decide) ?_
                                                  refine x_iret dL_refusesAny_864 (Or.inr ⟨rfl, rfl⟩) rfl (Nat.le_refl _) ?_
                                                  exact ⟨rfl, _, rfl, hX26⟩
                                                refine x_iload_n dL_refusesAny_805 rfl ?_
                                                refine x_iconst (v := 2) dL_refusesAny_806 rfl ?_
                                                refine x_irem dL_refusesAny_807 (by decide) ?_
                                                refine x_if_ne (tgt := 815) dL_refusesAny_808 (by decide) (fun c808 => ?_) (fun c808 => ?_)
                                                · refine x_iconst (v := 2) dL_refusesAny_815 rfl ?_
                                                  exact e_top (b := pv X (-1) 2) (by first | exact (if_neg c808).symm | exact (if_pos c808).symm) j816
                                                · refine x_iconst (v := (-1)) dL_refusesAny_811 rfl ?_
                                                  refine x_goto (tgt := 816) dL_refusesAny_812 (by decide) ?_
                                                  exact e_top (b := pv X (-1) 2) (by first | exact (if_neg c808).symm | exact (if_pos c808).symm) j816
                                              refine x_iload_n dL_refusesAny_785 rfl ?_
                                              refine x_iconst (v := 2) dL_refusesAny_786 rfl ?_
                                              refine x_irem dL_refusesAny_787 (by decide) ?_
                                              refine x_if_ne (tgt := 795) dL_refusesAny_788 (by decide) (fun c788 => ?_) (fun c788 => ?_)
                                              · refine x_iconst (v := 2) dL_refusesAny_795 rfl ?_
                                                exact e_top (b := pv X (-1) 2) (by first | exact (if_neg c788).symm | exact (if_pos c788).symm) j796
                                              · refine x_iconst (v := (-1)) dL_refusesAny_791 rfl ?_
                                                refine x_goto (tgt := 796) dL_refusesAny_792 (by decide) ?_
                                                exact e_top (b := pv X (-1) 2) (by first | exact (if_neg c788).symm | exact (if_pos c788).symm) j796
                                            refine x_iload_n dL_refusesAny_765 rfl ?_
                                            refine x_iconst (v := 2) dL_refusesAny_766 rfl ?_
                                            refine x_irem dL_refusesAny_767 (by decide) ?_
                                            refine x_if_ne (tgt := 775) dL_refusesAny_768 (by decide) (fun c768 => ?_) (fun c768 => ?_)
                                            · refine x_iconst (v := 2) dL_refusesAny_775 rfl ?_
                                              exact e_top (b := pv X (-1) 2) (by first | exact (if_neg c768).symm | exact (if_pos c768).symm) j776
                                            · refine x_iconst (v := (-1)) dL_refusesAny_771 rfl ?_
                                              refine x_goto (tgt := 776) dL_refusesAny_772 (by decide) ?_
                                              exact e_top (b := pv X (-1) 2) (by first | exact (if_neg c768).symm | exact (if_pos c768).symm) j776
                                          refine x_iload_n dL_refusesAny_745 rfl ?_
                                          refine x_iconst (v := 2) dL_refusesAny_746 rfl ?_
                                          refine x_irem dL_refusesAny_747 (by decide) ?_
                                          refine x_if_ne (tgt := 755) dL_refusesAny_748 (by decide) (fun c748 => ?_) (fun c748 => ?_)
                                          · refine x_iconst (v := 2) dL_refusesAny_755 rfl ?_
                                            exact e_top (b := pv X (-1) 2) (by first | exact (if_neg c748).symm | exact (if_pos c748).symm) j756
                                          · refine x_iconst (v := (-1)) dL_refusesAny_751 rfl ?_
                                            refine x_goto (tgt := 756) dL_refusesAny_752 (by decide) ?_
                                            exact e_top (b := pv X (-1) 2) (by first | exact (if_neg c748).symm | exact (if_pos c748).symm) j756
                                        refine x_iload_n dL_refusesAny_694 rfl ?_
                                        refine x_iconst (v := 2) dL_refusesAny_695 rfl ?_
                                        refine x_irem dL_refusesAny_696 (by decide) ?_
                                        refine x_if_ne (tgt := 704) dL_refusesAny_697 (by decide) (fun c697 => ?_) (fun c697 => ?_)
                                        · refine x_bipush (v := 21) dL_refusesAny_704 rfl ?_
                                          exact e_top (b := pv X (-1) 21) (by first | exact (if_neg c697).symm | exact (if_pos c697).symm) j706
                                        · refine x_iconst (v := (-1)) dL_refusesAny_700 rfl ?_
                                          refine x_goto (tgt := 706) dL_refusesAny_701 (by decide) ?_
                                          exact e_top (b := pv X (-1) 21) (by first | exact (if_neg c697).symm | exact (if_pos c697).symm) j706
                                      refine x_iload_n dL_refusesAny_674 rfl ?_
                                      refine x_iconst (v := 2) dL_refusesAny_675 rfl ?_
                                      refine x_irem dL_refusesAny_676 (by decide) ?_
                                      refine x_if_ne (tgt := 684) dL_refusesAny_677 (by decide) (fun c677 => ?_) (fun c677 => ?_)
                                      · refine x_iconst (v := 4) dL_refusesAny_684 rfl ?_
                                        exact e_top (b := pv X (-1) 4) (by first | exact (if_neg c677).symm | exact (if_pos c677).symm) j685
                                      · refine x_iconst (v := (-1)) dL_refusesAny_680 rfl ?_
                                        refine x_goto (tgt := 685) dL_refusesAny_681 (by decide) ?_
                                        exact e_top (b := pv X (-1) 4) (by first | exact (if_neg c677).symm | exact (if_pos c677).symm) j685
                                    refine x_aload_n dL_refusesAny_630 rfl ?_
                                    refine x_iconst (v := 2) dL_refusesAny_631 rfl ?_
                                    refine l_cn (v := nI (nCl σ)) dL_refusesAny_632 q201 hG619 (Nat.le_of_ble_eq_true rfl) ⟨Nat.le_refl _, Nat.le_refl _⟩ (fun _ _ => xn_2 hG619.q _ _) ?_
                                    refine x_if_eq (tgt := 660) dL_refusesAny_635 (by decide) (fun c635 => ?_) (fun c635 => ?_)
                                    · exact (j660 _ hG619)
                                    · refine x_aload_n dL_refusesAny_638 rfl ?_
                                      refine x_iconst (v := 0) dL_refusesAny_639 rfl ?_
                                      have j652 : Ev st (d + 8) yL_refusesAny cL_refusesAny 7 (some .boolean) (z, h) 0 0 (XQ 1 z x σ n τ sl sv) 652 [.ref x, .int X, .int (badL σ X), .int (badC σ X), .int (badH X), .int (anyB σ), .int 1] [.int (pv X (-1) 7), .int 0, .ref x] (z, g619) 0 0 := by
                                        refine l_rd (v := (-2)) dL_refusesAny_652 kX4_ofClaim iX4_ofClaim q364 hG619 (fun _ _ _ a1 a2 a3 => x_ofClaim _ a1 a2 a3 _ _) rfl rfl rfl (Nat.le_of_ble_eq_true rfl) ⟨Nat.le_refl _, Nat.le_refl _⟩ ((ra_prove0 hQ (cl0 (by first | exact c390 | exact c635)) X).2) ?_
                                        refine x_bipush (v := (-2)) dL_refusesAny_655 rfl ?_
                                        refine x_icmp_ne (tgt := 828) dL_refusesAny_657 (by decide) (fun c => absurd (by rfl) c) (fun _ => ?_)
                                        exact (j660 _ hG619)
                                      refine x_iload_n dL_refusesAny_640 rfl ?_
                                      refine x_iconst (v := 2) dL_refusesAny_641 rfl ?_
                                      refine x_irem dL_refusesAny_642 (by decide) ?_
                                      refine x_if_ne (tgt := 650) dL_refusesAny_643 (by decide) (fun c643 => ?_) (fun c643 => ?_)
                                      · refine x_bipush (v := 7) dL_refusesAny_650 rfl ?_
                                        exact e_top (b := pv X (-1) 7) (by first | exact (if_neg c643).symm | exact (if_pos c643).symm) j652
                                      · refine x_iconst (v := (-1)) dL_refusesAny_646 rfl ?_
                                        refine x_goto (tgt := 652) dL_refusesAny_647 (by decide) ?_
                                        exact e_top (b := pv X (-1) 7) (by first | exact (if_neg c643).symm | exact (if_pos c643).symm) j652
                                  refine x_iload dL_refusesAny_557 rfl ?_
                                  refine x_if_eq (tgt := 619) dL_refusesAny_559 (by decide) (fun c559 => ?_) (fun c559 => ?_)
                                  · exact (j619 _ hX21)
                                  · refine x_aload_n dL_refusesAny_562 rfl ?_
                                    refine x_iconst (v := 0) dL_refusesAny_563 rfl ?_
                                    have j576 : Ev st (d + 8) yL_refusesAny cL_refusesAny 7 (some .boolean) (z, h) 0 0 (XQ 1 z x σ n τ sl sv) 576 [.ref x, .int X, .int (badL σ X), .int (badC σ X), .int (badH X), .int (anyB σ), .int 1] [.int (pv X (-1) 7), .int 0, .ref x] (z, h21) 0 0 := by
                                      refine l_rd (v := (-2)) dL_refusesAny_576 kX4_of iX4_of q309 hX21 (fun _ _ _ a1 a2 a3 => x_of _ a1 a2 a3 _ _) rfl rfl rfl (Nat.le_of_ble_eq_true rfl) ⟨Nat.le_refl _, Nat.le_refl _⟩ ((ra_of0 hQ (aB.2.2 (by first | exact c303 | exact c559)) X).1) ?_
                                      refine x_bipush (v := (-2)) dL_refusesAny_579 rfl ?_
                                      refine x_icmp_ne (tgt := 828) dL_refusesAny_581 (by decide) (fun c => absurd (by rfl) c) (fun _ => ?_)
                                      refine x_aload_n dL_refusesAny_584 rfl ?_
                                      refine x_iconst (v := 0) dL_refusesAny_585 rfl ?_
                                      refine x_iload dL_refusesAny_586 rfl ?_
                                      refine x_bipush (v := 9) dL_refusesAny_588 rfl ?_
                                      refine l_rd (v := (-1)) dL_refusesAny_590 kX4_share iX4_share q572 hX21 (fun _ _ _ a1 a2 a3 => x_share _ a1 a2 a3 _ _ _) rfl rfl rfl (Nat.le_of_ble_eq_true rfl) ⟨Nat.le_refl _, Nat.le_refl _⟩ (ra_share0 hQ (aB.2.2 (by first | exact c303 | exact c559)) bH) ?_
                                      refine x_iconst (v := (-1)) dL_refusesAny_593 rfl ?_
                                      refine x_icmp_ne (tgt := 828) dL_refusesAny_594 (by decide) (fun c => absurd (by rfl) c) (fun _ => ?_)
                                      refine x_aload_n dL_refusesAny_597 rfl ?_
                                      refine x_iconst (v := 0) dL_refusesAny_598 rfl ?_
                                      refine x_iconst (v := 0) dL_refusesAny_599 rfl ?_
                                      have j611 : Ev st (d + 8) yL_refusesAny cL_refusesAny 7 (some .boolean) (z, h) 0 0 (XQ 1 z x σ n τ sl sv) 611 [.ref x, .int X, .int (badL σ X), .int (badC σ X), .int (badH X), .int (anyB σ), .int 1] [.int (pv X (-1) 2), .int 0, .int 0, .ref x] (z, h21) 0 0 := by
                                        refine l_rd (v := (-2)) dL_refusesAny_611 kX4_share iX4_share q572 hX21 (fun _ _ _ a1 a2 a3 => x_share _ a1 a2 a3 _ _ _) rfl rfl rfl (Nat.le_of_ble_eq_true rfl) ⟨Nat.le_refl _, Nat.le_refl _⟩ ((ra_of0 hQ (aB.2.2 (by first | exact c303 | exact c559)) X).2) ?_
                                        refine x_bipush (v := (-2)) dL_refusesAny_614 rfl ?_
                                        refine x_icmp_ne (tgt := 828) dL_refusesAny_616 (by decide) (fun c => absurd (by rfl) c) (fun _ => ?_)
                                        exact (j619 _ hX21)
                                      refine x_iload_n dL_refusesAny_600 rfl ?_
                                      refine x_iconst (v := 2) dL_refusesAny_601 rfl ?_
                                      refine x_irem dL_refusesAny_602 (by decide) ?_
                                      refine x_if_ne (tgt := 610) dL_refusesAny_603 (by decide) (fun c603 => ?_) (fun c603 => ?_)
                                      · refine x_iconst (v := 2) dL_refusesAny_610 rfl ?_
                                        exact e_top (b := pv X (-1) 2) (by first | exact (if_neg c603).symm | exact (if_pos c603).symm) j611
                                      · refine x_iconst (v := (-1)) dL_refusesAny_606 rfl ?_
                                        refine x_goto (tgt := 611) dL_refusesAny_607 (by decide) ?_
                                        exact e_top (b := pv X (-1) 2) (by first | exact (if_neg c603).symm | exact (if_pos c603).symm) j611
                                    refine x_iload_n dL_refusesAny_564 rfl ?_
                                    refine x_iconst (v := 2) dL_refusesAny_565 rfl ?_
                                    refine x_irem dL_refusesAny_566 (by decide) ?_
                                    refine x_if_ne (tgt := 574) dL_refusesAny_567 (by decide) (fun c567 => ?_) (fun c567 => ?_)
                                    · refine x_bipush (v := 7) dL_refusesAny_574 rfl ?_
                                      exact e_top (b := pv X (-1) 7) (by first | exact (if_neg c567).symm | exact (if_pos c567).symm) j576
                                    · refine x_iconst (v := (-1)) dL_refusesAny_570 rfl ?_
                                      refine x_goto (tgt := 576) dL_refusesAny_571 (by decide) ?_
                                      exact e_top (b := pv X (-1) 7) (by first | exact (if_neg c567).symm | exact (if_pos c567).symm) j576
                              refine x_iload_n dL_refusesAny_490 rfl ?_
                              refine x_iconst (v := 2) dL_refusesAny_491 rfl ?_
                              refine x_irem dL_refusesAny_492 (by decide) ?_
                              refine x_if_ne (tgt := 500) dL_refusesAny_493 (by decide) (fun c493 => ?_) (fun c493 => ?_)
                              · refine x_sipush (v := 401) dL_refusesAny_500 rfl ?_
                                exact e_top (b := pv X 0 401) (by first | exact (if_neg c493).symm | exact (if_pos c493).symm) j503
                              · refine x_iconst (v := 0) dL_refusesAny_496 rfl ?_
                                refine x_goto (tgt := 503) dL_refusesAny_497 (by decide) ?_
                                exact e_top (b := pv X 0 401) (by first | exact (if_neg c493).symm | exact (if_pos c493).symm) j503
                            refine x_aload_n dL_refusesAny_385 rfl ?_
                            refine x_iconst (v := 2) dL_refusesAny_386 rfl ?_
                            refine l_cn (v := nI (nCl σ)) dL_refusesAny_387 q201 hX14 (Nat.le_of_ble_eq_true rfl) ⟨Nat.le_refl _, Nat.le_refl _⟩ (fun _ _ => xn_2 hX14.q _ _) ?_
                            refine x_if_eq (tgt := 489) dL_refusesAny_390 (by decide) (fun c390 => ?_) (fun c390 => ?_)
                            · exact (j489 _ hX14)
                            · refine x_aload_n dL_refusesAny_393 rfl ?_
                              refine x_iconst (v := 0) dL_refusesAny_394 rfl ?_
                              have j407 : Ev st (d + 8) yL_refusesAny cL_refusesAny 7 (some .boolean) (z, h) 0 0 (XQ 1 z x σ n τ sl sv) 407 [.ref x, .int X, .int (badL σ X), .int (badC σ X), .int (badH X), .int (anyB σ), .null] [.int (pv X 0 101), .int 0, .ref x] (z, h14) 0 0 := by
                                refine l_xq dL_refusesAny_407 kX4_prove iX4_prove q489 hX14 (ct_no hX14 (fun _ _ _ a1 a2 a3 => x_prove (d + 1) a1 a2 a3 _ _) ((ra_prove0 hQ (cl0 (by first | exact c390 | exact c635)) X).1) (by decide)) rfl rfl rfl (Nat.le_of_ble_eq_true rfl) ⟨Nat.le_refl _, Nat.le_refl _⟩ (fun h27 hX27 => ?_)
                                refine x_bipush (v := (-2)) dL_refusesAny_410 rfl ?_
                                refine x_icmp_ne (tgt := 538) dL_refusesAny_412 (by decide) (fun c => absurd (by rfl) c) (fun _ => ?_)
                                have j445 : ∀ (g445 : Nat → Option va_E), XS g445 x σ n τ sl sv → Ev st (d + 8) yL_refusesAny cL_refusesAny 7 (some .boolean) (z, h) 0 0 (XQ 1 z x σ n τ sl sv) 445 [.ref x, .int X, .int (badL σ X), .int (badC σ X), .int (badH X), .int (anyB σ), .null] [] (z, g445) 0 0 := fun g445 hG445 => by
                                  have j465 : ∀ (g465 : Nat → Option va_E), XS g465 x σ n τ sl sv → Ev st (d + 8) yL_refusesAny cL_refusesAny 7 (some .boolean) (z, h) 0 0 (XQ 1 z x σ n τ sl sv) 465 [.ref x, .int X, .int (badL σ X), .int (badC σ X), .int (badH X), .int (anyB σ), .null] [] (z, g465) 0 0 := fun g465 hG465 => by
                                    refine x_aload_n dL_refusesAny_465 rfl ?_
                                    refine x_iconst (v := 0) dL_refusesAny_466 rfl ?_
                                    refine x_iconst (v := 4) dL_refusesAny_467 rfl ?_
                                    refine l_rd (v := σ 9 0) dL_refusesAny_468 kX4_ofClaim iX4_ofClaim q364 hG465 (fun _ _ _ a1 a2 a3 => x_ofClaim _ a1 a2 a3 _ _) rfl rfl rfl (Nat.le_of_ble_eq_true rfl) ⟨Nat.le_refl _, Nat.le_refl _⟩ ((ofC_n hQ.2.1.cok (cl0 (by first | exact c390 | exact c635))).2.2.2.2.1) ?_
                                    refine x_if_ne (tgt := 489) dL_refusesAny_471 (by decide) (fun c471 => ?_) (fun c471 => ?_)
                                    · exact (j489 _ hG465)
                                    · refine x_aload_n dL_refusesAny_474 rfl ?_
                                      refine x_aload_n dL_refusesAny_475 rfl ?_
                                      refine x_iconst (v := 0) dL_refusesAny_476 rfl ?_
                                      refine x_iconst (v := 1) dL_refusesAny_477 rfl ?_
                                      refine l_rd (v := σ 6 0) dL_refusesAny_478 kX4_ofClaim iX4_ofClaim q364 hG465 (fun _ _ _ a1 a2 a3 => x_ofClaim _ a1 a2 a3 _ _) rfl rfl rfl (Nat.le_of_ble_eq_true rfl) ⟨Nat.le_refl _, Nat.le_refl _⟩ ((ofC_n hQ.2.1.cok (cl0 (by first | exact c390 | exact c635))).2.1) ?_
                                      refine l_xq dL_refusesAny_481 kX4_settle iX4_settle q518 hG465 (ct_no hG465 (fun _ _ _ a1 a2 a3 => x_settle (d + 1) a1 a2 a3 _) (ra_sett0 hQ (cl0 (by first | exact c390 | exact c635)) (by first | exact c471 | exact Classical.byContradiction c471)) (by decide)) rfl rfl rfl (Nat.le_of_ble_eq_true rfl) ⟨Nat.le_refl _, Nat.le_refl _⟩ (fun h28 hX28 => ?_)
                                      refine x_bipush (v := (-5)) dL_refusesAny_484 rfl ?_
                                      refine x_icmp_ne (tgt := 538) dL_refusesAny_486 (by decide) (fun c => absurd (by rfl) c) (fun _ => ?_)
                                      exact (j489 _ hX28)
                                  refine x_aload_n dL_refusesAny_445 rfl ?_
                                  refine x_iconst (v := 0) dL_refusesAny_446 rfl ?_
                                  refine x_iconst (v := 4) dL_refusesAny_447 rfl ?_
                                  refine l_rd (v := σ 9 0) dL_refusesAny_448 kX4_ofClaim iX4_ofClaim q364 hG445 (fun _ _ _ a1 a2 a3 => x_ofClaim _ a1 a2 a3 _ _) rfl rfl rfl (Nat.le_of_ble_eq_true rfl) ⟨Nat.le_refl _, Nat.le_refl _⟩ ((ofC_n hQ.2.1.cok (cl0 (by first | exact c390 | exact c635))).2.2.2.2.1) ?_
                                  refine x_iconst (v := 2) dL_refusesAny_451 rfl ?_
                                  refine x_icmp_lt (tgt := 465) dL_refusesAny_452 (by decide) (fun c452 => ?_) (fun c452 => ?_)
                                  · exact (j465 _ hG445)
                                  · refine x_aload_n dL_refusesAny_455 rfl ?_
                                    refine x_iconst (v := 0) dL_refusesAny_456 rfl ?_
                                    refine l_xq dL_refusesAny_457 kX4_withdraw iX4_withdraw q506 hG445 (ct_no hG445 (fun _ _ _ a1 a2 a3 => x_withdraw (d + 1) a1 a2 a3 _) (ra_with0 hQ (cl0 (by first | exact c390 | exact c635)) c452) (by decide)) rfl rfl rfl (Nat.le_of_ble_eq_true rfl) ⟨Nat.le_refl _, Nat.le_refl _⟩ (fun h29 hX29 => ?_)
                                    refine x_bipush (v := (-5)) dL_refusesAny_460 rfl ?_
                                    refine x_icmp_ne (tgt := 538) dL_refusesAny_462 (by decide) (fun c => absurd (by rfl) c) (fun _ => ?_)
                                    exact (j465 _ hX29)
                                refine x_aload_n dL_refusesAny_415 rfl ?_
                                refine x_iconst (v := 0) dL_refusesAny_416 rfl ?_
                                refine x_iconst (v := 4) dL_refusesAny_417 rfl ?_
                                refine l_rd (v := σ 9 0) dL_refusesAny_418 kX4_ofClaim iX4_ofClaim q364 hX27 (fun _ _ _ a1 a2 a3 => x_ofClaim _ a1 a2 a3 _ _) rfl rfl rfl (Nat.le_of_ble_eq_true rfl) ⟨Nat.le_refl _, Nat.le_refl _⟩ ((ofC_n hQ.2.1.cok (cl0 (by first | exact c390 | exact c635))).2.2.2.2.1) ?_
                                refine x_if_eq (tgt := 445) dL_refusesAny_421 (by decide) (fun c421 => ?_) (fun c421 => ?_)
                                · exact (j445 _ hX27)
                                · refine x_aload_n dL_refusesAny_424 rfl ?_
                                  refine x_iconst (v := 0) dL_refusesAny_425 rfl ?_
                                  refine x_iconst (v := 5) dL_refusesAny_426 rfl ?_
                                  refine l_xq dL_refusesAny_427 kX4_prove iX4_prove q489 hX27 (ct_no hX27 (fun _ _ _ a1 a2 a3 => x_prove (d + 1) a1 a2 a3 _ _) ((ra_pr0 hQ (cl0 (by first | exact c390 | exact c635)) c421).1) (by decide)) rfl rfl rfl (Nat.le_of_ble_eq_true rfl) ⟨Nat.le_refl _, Nat.le_refl _⟩ (fun h30 hX30 => ?_)
                                  refine x_bipush (v := (-5)) dL_refusesAny_430 rfl ?_
                                  refine x_icmp_ne (tgt := 538) dL_refusesAny_432 (by decide) (fun c => absurd (by rfl) c) (fun _ => ?_)
                                  refine x_aload_n dL_refusesAny_435 rfl ?_
                                  refine x_iconst (v := 0) dL_refusesAny_436 rfl ?_
                                  refine l_xq dL_refusesAny_437 kX4_decide iX4_decide q498 hX30 (ct_no hX30 (fun _ _ _ a1 a2 a3 => x_decide (d + 1) a1 a2 a3 _) ((ra_pr0 hQ (cl0 (by first | exact c390 | exact c635)) c421).2) (by decide)) rfl rfl rfl (Nat.le_of_ble_eq_true rfl) ⟨Nat.le_refl _, Nat.le_refl _⟩ (fun h31 hX31 => ?_)
                                  refine x_bipush (v := (-5)) dL_refusesAny_440 rfl ?_
                                  refine x_icmp_ne (tgt := 538) dL_refusesAny_442 (by decide) (fun c => absurd (by rfl) c) (fun _ => ?_)
                                  exact (j445 _ hX31)
                              refine x_iload_n dL_refusesAny_395 rfl ?_
                              refine x_iconst (v := 2) dL_refusesAny_396 rfl ?_
                              refine x_irem dL_refusesAny_397 (by decide) ?_
                              refine x_if_ne (tgt := 405) dL_refusesAny_398 (by decide) (fun c398 => ?_) (fun c398 => ?_)
                              · refine x_bipush (v := 101) dL_refusesAny_405 rfl ?_
                                exact e_top (b := pv X 0 101) (by first | exact (if_neg c398).symm | exact (if_pos c398).symm) j407
                              · refine x_iconst (v := 0) dL_refusesAny_401 rfl ?_
                                refine x_goto (tgt := 407) dL_refusesAny_402 (by decide) ?_
                                exact e_top (b := pv X 0 101) (by first | exact (if_neg c398).symm | exact (if_pos c398).symm) j407
                          refine x_iload dL_refusesAny_301 rfl ?_
                          refine x_if_eq (tgt := 348) dL_refusesAny_303 (by decide) (fun c303 => ?_) (fun c303 => ?_)
                          · exact (j348 _ hX10)
                          · refine x_aload_n dL_refusesAny_306 rfl ?_
                            refine x_iconst (v := 0) dL_refusesAny_307 rfl ?_
                            refine x_iconst (v := 0) dL_refusesAny_308 rfl ?_
                            have j321 : Ev st (d + 8) yL_refusesAny cL_refusesAny 7 (some .boolean) (z, h) 0 0 (XQ 1 z x σ n τ sl sv) 321 [.ref x, .int X, .int (badL σ X), .int (badC σ X), .int (badH X), .int (anyB σ), .null] [.int (pv X 0 6), .int 0, .int 0, .ref x] (z, h10) 0 0 := by
                              refine l_xq dL_refusesAny_321 kX4_claim iX4_claim q473 hX10 (ct_no hX10 (fun _ _ _ a1 a2 a3 => x_claim (d + 1) a1 a2 a3 _ _ _) (ra_claim0 hQ (aB.2.2 (by first | exact c303 | exact c559)) X) (by decide)) rfl rfl rfl (Nat.le_of_ble_eq_true rfl) ⟨Nat.le_refl _, Nat.le_refl _⟩ (fun h32 hX32 => ?_)
                              refine x_bipush (v := (-2)) dL_refusesAny_324 rfl ?_
                              refine x_icmp_ne (tgt := 538) dL_refusesAny_326 (by decide) (fun c => absurd (by rfl) c) (fun _ => ?_)
                              refine x_aload_n dL_refusesAny_329 rfl ?_
                              refine x_iconst (v := 0) dL_refusesAny_330 rfl ?_
                              refine x_iconst (v := 1) dL_refusesAny_331 rfl ?_
                              refine l_rd (v := σ 2 0) dL_refusesAny_332 kX4_of iX4_of q309 hX32 (fun _ _ _ a1 a2 a3 => x_of _ a1 a2 a3 _ _) rfl rfl rfl (Nat.le_of_ble_eq_true rfl) ⟨Nat.le_refl _, Nat.le_refl _⟩ ((of_n hQ.2.1.lok (aB.2.2 (by first | exact c303 | exact c559))).2.1) ?_
                              refine x_if_eq (tgt := 348) dL_refusesAny_335 (by decide) (fun c335 => ?_) (fun c335 => ?_)
                              · exact (j348 _ hX32)
                              · refine x_aload_n dL_refusesAny_338 rfl ?_
                                refine x_iconst (v := 0) dL_refusesAny_339 rfl ?_
                                refine l_xq dL_refusesAny_340 kX4_notice iX4_notice q465 hX32 (ct_no hX32 (fun _ _ _ a1 a2 a3 => x_notice (d + 1) a1 a2 a3 _) (ra_not0 hQ (aB.2.2 (by first | exact c303 | exact c559)) c335) (by decide)) rfl rfl rfl (Nat.le_of_ble_eq_true rfl) ⟨Nat.le_refl _, Nat.le_refl _⟩ (fun h33 hX33 => ?_)
                                refine x_bipush (v := (-5)) dL_refusesAny_343 rfl ?_
                                refine x_icmp_ne (tgt := 538) dL_refusesAny_345 (by decide) (fun c => absurd (by rfl) c) (fun _ => ?_)
                                exact (j348 _ hX33)
                            refine x_iload_n dL_refusesAny_309 rfl ?_
                            refine x_iconst (v := 2) dL_refusesAny_310 rfl ?_
                            refine x_irem dL_refusesAny_311 (by decide) ?_
                            refine x_if_ne (tgt := 319) dL_refusesAny_312 (by decide) (fun c312 => ?_) (fun c312 => ?_)
                            · refine x_bipush (v := 6) dL_refusesAny_319 rfl ?_
                              exact e_top (b := pv X 0 6) (by first | exact (if_neg c312).symm | exact (if_pos c312).symm) j321
                            · refine x_iconst (v := 0) dL_refusesAny_315 rfl ?_
                              refine x_goto (tgt := 321) dL_refusesAny_316 (by decide) ?_
                              exact e_top (b := pv X 0 6) (by first | exact (if_neg c312).symm | exact (if_pos c312).symm) j321
                        refine x_aload_n dL_refusesAny_247 rfl ?_
                        refine x_iconst (v := 1) dL_refusesAny_248 rfl ?_
                        refine l_cn (v := nI (nLo σ)) dL_refusesAny_249 q201 hX7 (Nat.le_of_ble_eq_true rfl) ⟨Nat.le_refl _, Nat.le_refl _⟩ (fun _ _ => xn_1 hX7.q _ _) ?_
                        refine x_bipush (v := 12) dL_refusesAny_252 rfl ?_
                        refine x_icmp_lt (tgt := 267) dL_refusesAny_254 (by decide) (fun c254 => ?_) (fun c254 => ?_)
                        · exact (j267 _ hX7)
                        · refine x_aload_n dL_refusesAny_257 rfl ?_
                          refine x_iconst (v := 5) dL_refusesAny_258 rfl ?_
                          refine l_xq dL_refusesAny_259 kX4_lot iX4_lot q457 hX7 (ct_no hX7 (fun _ _ _ a1 a2 a3 => x_lot (d + 1) a1 a2 a3 _) ((do_lot hQ (v := 5) (by decide) (by decide)).1 (fun q => c254 ((nI_ltI (b := 12) (by have := hQ.2.1.lok.2; omega) (by decide)).mpr q))) (by decide)) rfl rfl rfl (Nat.le_of_ble_eq_true rfl) ⟨Nat.le_refl _, Nat.le_refl _⟩ (fun h34 hX34 => ?_)
                          refine x_bipush (v := (-4)) dL_refusesAny_262 rfl ?_
                          refine x_icmp_ne (tgt := 538) dL_refusesAny_264 (by decide) (fun c => absurd (by rfl) c) (fun _ => ?_)
                          exact (j267 _ hX34)
                      refine x_iload_n dL_refusesAny_226 rfl ?_
                      refine x_iconst (v := 2) dL_refusesAny_227 rfl ?_
                      refine x_irem dL_refusesAny_228 (by decide) ?_
                      refine x_if_ne (tgt := 236) dL_refusesAny_229 (by decide) (fun c229 => ?_) (fun c229 => ?_)
                      · refine x_sipush (v := 10000) dL_refusesAny_236 rfl ?_
                        exact e_top (b := pv X 0 10000) (by first | exact (if_neg c229).symm | exact (if_pos c229).symm) j239
                      · refine x_iconst (v := 0) dL_refusesAny_232 rfl ?_
                        refine x_goto (tgt := 239) dL_refusesAny_233 (by decide) ?_
                        exact e_top (b := pv X 0 10000) (by first | exact (if_neg c229).symm | exact (if_pos c229).symm) j239
                    refine x_iload_n dL_refusesAny_205 rfl ?_
                    refine x_iconst (v := 2) dL_refusesAny_206 rfl ?_
                    refine x_irem dL_refusesAny_207 (by decide) ?_
                    refine x_if_ne (tgt := 215) dL_refusesAny_208 (by decide) (fun c208 => ?_) (fun c208 => ?_)
                    · refine x_bipush (v := 51) dL_refusesAny_215 rfl ?_
                      exact e_top (b := pv X (-1) 51) (by first | exact (if_neg c208).symm | exact (if_pos c208).symm) j217
                    · refine x_iconst (v := (-1)) dL_refusesAny_211 rfl ?_
                      refine x_goto (tgt := 217) dL_refusesAny_212 (by decide) ?_
                      exact e_top (b := pv X (-1) 51) (by first | exact (if_neg c208).symm | exact (if_pos c208).symm) j217
                  refine x_iload_n dL_refusesAny_182 rfl ?_
                  refine x_iconst (v := 2) dL_refusesAny_183 rfl ?_
                  refine x_irem dL_refusesAny_184 (by decide) ?_
                  refine x_if_ne (tgt := 192) dL_refusesAny_185 (by decide) (fun c185 => ?_) (fun c185 => ?_)
                  · refine x_sipush (v := 401) dL_refusesAny_192 rfl ?_
                    exact e_top (b := pv X (-1) 401) (by first | exact (if_neg c185).symm | exact (if_pos c185).symm) j195
                  · refine x_iconst (v := (-1)) dL_refusesAny_188 rfl ?_
                    refine x_goto (tgt := 195) dL_refusesAny_189 (by decide) ?_
                    exact e_top (b := pv X (-1) 401) (by first | exact (if_neg c185).symm | exact (if_pos c185).symm) j195
                refine x_iload_n dL_refusesAny_159 rfl ?_
                refine x_iconst (v := 2) dL_refusesAny_160 rfl ?_
                refine x_irem dL_refusesAny_161 (by decide) ?_
                refine x_if_ne (tgt := 169) dL_refusesAny_162 (by decide) (fun c162 => ?_) (fun c162 => ?_)
                · refine x_sipush (v := 201) dL_refusesAny_169 rfl ?_
                  exact e_top (b := pv X 0 201) (by first | exact (if_neg c162).symm | exact (if_pos c162).symm) j172
                · refine x_iconst (v := 0) dL_refusesAny_165 rfl ?_
                  refine x_goto (tgt := 172) dL_refusesAny_166 (by decide) ?_
                  exact e_top (b := pv X 0 201) (by first | exact (if_neg c162).symm | exact (if_pos c162).symm) j172
              refine x_iload_n dL_refusesAny_137 rfl ?_
              refine x_iconst (v := 2) dL_refusesAny_138 rfl ?_
              refine x_irem dL_refusesAny_139 (by decide) ?_
              refine x_if_ne (tgt := 147) dL_refusesAny_140 (by decide) (fun c140 => ?_) (fun c140 => ?_)
              · refine x_bipush (v := 101) dL_refusesAny_147 rfl ?_
                exact e_top (b := pv X 0 101) (by first | exact (if_neg c140).symm | exact (if_pos c140).symm) j149
              · refine x_iconst (v := 0) dL_refusesAny_143 rfl ?_
                refine x_goto (tgt := 149) dL_refusesAny_144 (by decide) ?_
                exact e_top (b := pv X 0 101) (by first | exact (if_neg c140).symm | exact (if_pos c140).symm) j149
            refine x_iload_n dL_refusesAny_114 rfl ?_
            refine x_iconst (v := 2) dL_refusesAny_115 rfl ?_
            refine x_irem dL_refusesAny_116 (by decide) ?_
            refine x_if_ne (tgt := 124) dL_refusesAny_117 (by decide) (fun c117 => ?_) (fun c117 => ?_)
            · refine x_sipush (v := 401) dL_refusesAny_124 rfl ?_
              exact e_top (b := pv X 0 401) (by first | exact (if_neg c117).symm | exact (if_pos c117).symm) j127
            · refine x_iconst (v := 0) dL_refusesAny_120 rfl ?_
              refine x_goto (tgt := 127) dL_refusesAny_121 (by decide) ?_
              exact e_top (b := pv X 0 401) (by first | exact (if_neg c117).symm | exact (if_pos c117).symm) j127
          refine x_iload_n dL_refusesAny_92 rfl ?_
          refine x_iconst (v := 2) dL_refusesAny_93 rfl ?_
          refine x_irem dL_refusesAny_94 (by decide) ?_
          refine x_if_ne (tgt := 102) dL_refusesAny_95 (by decide) (fun c95 => ?_) (fun c95 => ?_)
          · refine x_iconst (v := 5) dL_refusesAny_102 rfl ?_
            exact e_top (b := pv X (-1) 5) (by first | exact (if_neg c95).symm | exact (if_pos c95).symm) j103
          · refine x_iconst (v := (-1)) dL_refusesAny_98 rfl ?_
            refine x_goto (tgt := 103) dL_refusesAny_99 (by decide) ?_
            exact e_top (b := pv X (-1) 5) (by first | exact (if_neg c95).symm | exact (if_pos c95).symm) j103
        refine x_aload_n dL_refusesAny_76 rfl ?_
        refine x_iconst (v := 1) dL_refusesAny_77 rfl ?_
        refine l_cn (v := nI (nLo σ)) dL_refusesAny_78 q201 hX (Nat.le_of_ble_eq_true rfl) ⟨Nat.le_refl _, Nat.le_refl _⟩ (fun _ _ => xn_1 hQ _ _) ?_
        refine x_if_le (tgt := 88) dL_refusesAny_81 (by decide) (fun c81 => ?_) (fun c81 => ?_)
        · refine x_iconst (v := 0) dL_refusesAny_88 rfl ?_
          exact e_top (b := anyB σ) (by first | exact aB.1 c81 | exact aB.2.1 c81) j89
        · refine x_iconst (v := 1) dL_refusesAny_84 rfl ?_
          refine x_goto (tgt := 89) dL_refusesAny_85 (by decide) ?_
          exact e_top (b := anyB σ) (by first | exact aB.1 c81 | exact aB.2.1 c81) j89
      refine x_iload_n dL_refusesAny_52 rfl ?_
      refine x_iconst (v := 2) dL_refusesAny_53 rfl ?_
      refine x_irem dL_refusesAny_54 (by decide) ?_
      refine x_if_ne (tgt := 67) dL_refusesAny_55 (by decide) (fun c55 => ?_) (fun c55 => ?_)
      · refine x_bipush (v := 16) dL_refusesAny_67 rfl ?_
        refine x_iload_n dL_refusesAny_69 rfl ?_
        refine x_bipush (v := 99) dL_refusesAny_70 rfl ?_
        refine x_irem dL_refusesAny_72 (by decide) ?_
        refine x_iadd dL_refusesAny_73 ?_
        exact e_top (b := badH X) (by first | exact (if_neg c55).symm | exact (if_pos c55).symm) j74
      · refine x_iconst (v := (-1)) dL_refusesAny_58 rfl ?_
        refine x_iload_n dL_refusesAny_59 rfl ?_
        refine x_bipush (v := 99) dL_refusesAny_60 rfl ?_
        refine x_irem dL_refusesAny_62 (by decide) ?_
        refine x_isub dL_refusesAny_63 ?_
        refine x_goto (tgt := 74) dL_refusesAny_64 (by decide) ?_
        exact e_top (b := badH X) (by first | exact (if_neg c55).symm | exact (if_pos c55).symm) j74
    refine x_iload_n dL_refusesAny_26 rfl ?_
    refine x_iconst (v := 2) dL_refusesAny_27 rfl ?_
    refine x_irem dL_refusesAny_28 (by decide) ?_
    refine x_if_ne (tgt := 41) dL_refusesAny_29 (by decide) (fun c29 => ?_) (fun c29 => ?_)
    · refine x_aload_n dL_refusesAny_41 rfl ?_
      refine x_iconst (v := 2) dL_refusesAny_42 rfl ?_
      refine l_cn (v := nI (nCl σ)) dL_refusesAny_43 q201 hX (Nat.le_of_ble_eq_true rfl) ⟨Nat.le_refl _, Nat.le_refl _⟩ (fun _ _ => xn_2 hQ _ _) ?_
      refine x_iload_n dL_refusesAny_46 rfl ?_
      refine x_bipush (v := 99) dL_refusesAny_47 rfl ?_
      refine x_irem dL_refusesAny_49 (by decide) ?_
      refine x_iadd dL_refusesAny_50 ?_
      exact e_top (b := badC σ X) (by first | exact (if_neg c29).symm | exact (if_pos c29).symm) j51
    · refine x_iconst (v := (-1)) dL_refusesAny_32 rfl ?_
      refine x_iload_n dL_refusesAny_33 rfl ?_
      refine x_bipush (v := 99) dL_refusesAny_34 rfl ?_
      refine x_irem dL_refusesAny_36 (by decide) ?_
      refine x_isub dL_refusesAny_37 ?_
      refine x_goto (tgt := 51) dL_refusesAny_38 (by decide) ?_
      exact e_top (b := badC σ X) (by first | exact (if_neg c29).symm | exact (if_pos c29).symm) j51
  refine x_iload_n dL_refusesAny_0 rfl ?_
  refine x_iconst (v := 2) dL_refusesAny_1 rfl ?_
  refine x_irem dL_refusesAny_2 (by decide) ?_
  refine x_if_ne (tgt := 15) dL_refusesAny_3 (by decide) (fun c3 => ?_) (fun c3 => ?_)
  · refine x_aload_n dL_refusesAny_15 rfl ?_
    refine x_iconst (v := 1) dL_refusesAny_16 rfl ?_
    refine l_cn (v := nI (nLo σ)) dL_refusesAny_17 q201 hX (Nat.le_of_ble_eq_true rfl) ⟨Nat.le_refl _, Nat.le_refl _⟩ (fun _ _ => xn_1 hQ _ _) ?_
    refine x_iload_n dL_refusesAny_20 rfl ?_
    refine x_bipush (v := 99) dL_refusesAny_21 rfl ?_
    refine x_irem dL_refusesAny_23 (by decide) ?_
    refine x_iadd dL_refusesAny_24 ?_
    exact e_top (b := badL σ X) (by first | exact (if_neg c3).symm | exact (if_pos c3).symm) j25
  · refine x_iconst (v := (-1)) dL_refusesAny_6 rfl ?_
    refine x_iload_n dL_refusesAny_7 rfl ?_
    refine x_bipush (v := 99) dL_refusesAny_8 rfl ?_
    refine x_irem dL_refusesAny_10 (by decide) ?_
    refine x_isub dL_refusesAny_11 ?_
    refine x_goto (tgt := 25) dL_refusesAny_12 (by decide) ?_
    exact e_top (b := badL σ X) (by first | exact (if_neg c3).symm | exact (if_pos c3).symm) j25
