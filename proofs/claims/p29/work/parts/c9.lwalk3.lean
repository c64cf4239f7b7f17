/-! HELPERS OF THE LAW: the claims add up, the walk over the claims -/

set_option maxRecDepth 100000 in
set_option maxHeartbeats 8000000 in
theorem L_ac0 {st : Nat → Nat} (d : Nat) {z : Nat} {h : Nat → Option va_E} {x : Nat} {σ τ : Sg} {n : Nat} {sl : Nat → Sg} {sv : Nat → Int32} (hX : XS h x σ n τ sl sv)  : ∀ (m k : Nat), k + m = nCl σ → ∀ a6 a7 a8 a9 : Value, Ev st (d + 8) yL_areClaims cL_areClaims 10 (some .boolean) (z, h) 0 0 (RO (some (.int 1)) (z, h)) 30 [.ref x, .int (nI (nCl σ)), .int (bs (sStands σ) k), .int (nI (sN (bN σ) k)), .int 1, .int (nI k), a6, a7, a8, a9] [] (z, h) 0 0 := by
  have l12 := hX.q.2.1.lok.2
  have l30 := hX.q.2.1.cok.2
  intro m
  induction m with
  | zero =>
    intro k hk a6 a7 a8 a9
    obtain rfl : k = nCl σ := by omega
    refine x_iload dL_areClaims_30 rfl ?_
    refine x_iload_n dL_areClaims_32 rfl ?_
    refine x_icmp_ge (tgt := 374) dL_areClaims_33 (by decide) (fun _ => ?_) (fun c => absurd (Int32.le_refl _) c)
    refine x_iconst (v := 0) dL_areClaims_374 rfl ?_
    refine e_isd (b := nI (sN (pu σ) 0)) (lv2 := [.ref x, .int (nI (nCl σ)), .int (bs (sStands σ) (nCl σ)), .int (nI (sN (bN σ) (nCl σ))), .int 1, .int (nI (sN (pu σ) 0)), a6, a7, a8, a9]) dL_areClaims_375 (Nat.le_of_ble_eq_true rfl) rfl rfl rfl ?_
    refine x_iconst (v := 0) dL_areClaims_377 rfl ?_
    refine e_isd (b := nI (cnt (pdB σ) 0 0)) (lv2 := [.ref x, .int (nI (nCl σ)), .int (bs (sStands σ) (nCl σ)), .int (nI (sN (bN σ) (nCl σ))), .int 1, .int (nI (sN (pu σ) 0)), .int (nI (cnt (pdB σ) 0 0)), a7, a8, a9]) dL_areClaims_378 (Nat.le_of_ble_eq_true rfl) rfl rfl rfl ?_
    refine x_iconst (v := 0) dL_areClaims_380 rfl ?_
    refine e_isd (b := nI 0) (lv2 := [.ref x, .int (nI (nCl σ)), .int (bs (sStands σ) (nCl σ)), .int (nI (sN (bN σ) (nCl σ))), .int 1, .int (nI (sN (pu σ) 0)), .int (nI (cnt (pdB σ) 0 0)), .int (nI 0), a8, a9]) dL_areClaims_381 (Nat.le_of_ble_eq_true rfl) rfl rfl rfl ?_
    exact L_ac2 d hX 16 0 rfl _ _
  | succ m ih =>
    intro k hk a6 a7 a8 a9
    have hk2 : k < nCl σ := by omega
    obtain ⟨w, hw, e9⟩ := hX.q.2.1.ws k hk2
    obtain ⟨g, hg, e5⟩ := hX.q.2.1.wh k hk2
    obtain ⟨j, hj, e6⟩ := hX.q.2.1.wt k hk2
    obtain ⟨g98, g105, g110, g120, g125, g132, g142, g154, g164, g176, g186, g203, g231, g247, g263, g289, g352⟩ := clF hX.q hk2 hw hg hj e9 e5 e6
    obtain ⟨b1, b2, b3, b4⟩ := stB_in hw e9
    refine x_iload dL_areClaims_30 rfl ?_
    refine x_iload_n dL_areClaims_32 rfl ?_
    refine x_icmp_ge (tgt := 374) dL_areClaims_33 (by decide) (fun c => absurd c (fun e => by have := (nI_leI (by omega) (by omega)).mp e; omega)) (fun _ => ?_)
    refine x_iload dL_areClaims_36 rfl ?_
    refine x_if_eq (tgt := 374) dL_areClaims_38 (by decide) (fun c => absurd c (by decide)) (fun _ => ?_)
    refine x_aload_n dL_areClaims_41 rfl ?_
    refine x_iload dL_areClaims_42 rfl ?_
    refine x_iconst (v := 4) dL_areClaims_44 rfl ?_
    refine l_rd (v := nI w) dL_areClaims_45 kX4_ofClaim iX4_ofClaim q364 hX (fun _ _ _ a1 a2 a3 => x_ofClaim _ a1 a2 a3 _ _) rfl rfl rfl (Nat.le_of_ble_eq_true rfl) ⟨Nat.le_refl _, Nat.le_refl _⟩ ((ofC_n hX.q.2.1.cok hk2).2.2.2.2.1.trans e9) ?_
    refine e_isd (b := nI w) (lv2 := [.ref x, .int (nI (nCl σ)), .int (bs (sStands σ) k), .int (nI (sN (bN σ) k)), .int 1, .int (nI k), .int (nI w), a7, a8, a9]) dL_areClaims_48 (Nat.le_of_ble_eq_true rfl) rfl rfl rfl ?_
    refine x_aload_n dL_areClaims_50 rfl ?_
    refine x_iload dL_areClaims_51 rfl ?_
    refine x_iconst (v := 1) dL_areClaims_53 rfl ?_
    refine l_rd (v := nI j) dL_areClaims_54 kX4_ofClaim iX4_ofClaim q364 hX (fun _ _ _ a1 a2 a3 => x_ofClaim _ a1 a2 a3 _ _) rfl rfl rfl (Nat.le_of_ble_eq_true rfl) ⟨Nat.le_refl _, Nat.le_refl _⟩ ((ofC_n hX.q.2.1.cok hk2).2.1.trans e6) ?_
    refine e_isd (b := nI j) (lv2 := [.ref x, .int (nI (nCl σ)), .int (bs (sStands σ) k), .int (nI (sN (bN σ) k)), .int 1, .int (nI k), .int (nI w), .int (nI j), a8, a9]) dL_areClaims_57 (Nat.le_of_ble_eq_true rfl) rfl rfl rfl ?_
    refine x_aload_n dL_areClaims_59 rfl ?_
    refine x_iload dL_areClaims_60 rfl ?_
    refine x_iconst (v := 0) dL_areClaims_62 rfl ?_
    refine l_rd (v := nI g) dL_areClaims_63 kX4_ofClaim iX4_ofClaim q364 hX (fun _ _ _ a1 a2 a3 => x_ofClaim _ a1 a2 a3 _ _) rfl rfl rfl (Nat.le_of_ble_eq_true rfl) ⟨Nat.le_refl _, Nat.le_refl _⟩ ((ofC_n hX.q.2.1.cok hk2).1.trans e5) ?_
    refine e_isd (b := nI g) (lv2 := [.ref x, .int (nI (nCl σ)), .int (bs (sStands σ) k), .int (nI (sN (bN σ) k)), .int 1, .int (nI k), .int (nI w), .int (nI j), .int (nI g), a9]) dL_areClaims_66 (Nat.le_of_ble_eq_true rfl) rfl rfl rfl ?_
    refine x_iload_n dL_areClaims_68 rfl ?_
    have j83 : Ev st (d + 8) yL_areClaims cL_areClaims 10 (some .boolean) (z, h) 0 0 (RO (some (.int 1)) (z, h)) 83 [.ref x, .int (nI (nCl σ)), .int (bs (sStands σ) k), .int (nI (sN (bN σ) k)), .int 1, .int (nI k), .int (nI w), .int (nI j), .int (nI g), a9] [.int (stB σ k), .int (bs (sStands σ) k)] (z, h) 0 0 := by
      refine x_ior dL_areClaims_83 ?_
      refine e_isd_n (b := bs (sStands σ) (k + 1)) (lv2 := [.ref x, .int (nI (nCl σ)), .int (bs (sStands σ) (k + 1)), .int (nI (sN (bN σ) k)), .int 1, .int (nI k), .int (nI w), .int (nI j), .int (nI g), a9]) dL_areClaims_84 (Nat.le_of_ble_eq_true rfl) rfl (stB_s σ k) rfl ?_
      refine x_iload_n dL_areClaims_85 rfl ?_
      refine x_aload_n dL_areClaims_86 rfl ?_
      refine x_iload dL_areClaims_87 rfl ?_
      refine x_bipush (v := 6) dL_areClaims_89 rfl ?_
      refine l_rd (v := nI (bN σ k)) dL_areClaims_91 kX4_ofClaim iX4_ofClaim q364 hX (fun _ _ _ a1 a2 a3 => x_ofClaim _ a1 a2 a3 _ _) rfl rfl rfl (Nat.le_of_ble_eq_true rfl) ⟨Nat.le_refl _, Nat.le_refl _⟩ ((ofC_n hX.q.2.1.cok hk2).2.2.2.2.2.2.trans (bN_n hX.q hk2).1) ?_
      refine x_iadd dL_areClaims_94 ?_
      refine e_isd_n (b := nI (sN (bN σ) (k + 1))) (lv2 := [.ref x, .int (nI (nCl σ)), .int (bs (sStands σ) (k + 1)), .int (nI (sN (bN σ) (k + 1))), .int 1, .int (nI k), .int (nI w), .int (nI j), .int (nI g), a9]) dL_areClaims_95 (Nat.le_of_ble_eq_true rfl) rfl (nI_add _ _) rfl ?_
      refine x_iload dL_areClaims_96 rfl ?_
      refine x_if_lt (tgt := 296) dL_areClaims_98 (by decide) (fun c => absurd c g98) (fun _ => ?_)
      refine x_iload dL_areClaims_101 rfl ?_
      refine x_bipush (v := 6) dL_areClaims_103 rfl ?_
      refine x_icmp_ge (tgt := 296) dL_areClaims_105 (by decide) (fun c => absurd c g105) (fun _ => ?_)
      refine x_iload dL_areClaims_108 rfl ?_
      refine x_if_lt (tgt := 296) dL_areClaims_110 (by decide) (fun c => absurd c g110) (fun _ => ?_)
      refine x_iload dL_areClaims_113 rfl ?_
      refine x_aload_n dL_areClaims_115 rfl ?_
      refine x_iconst (v := 1) dL_areClaims_116 rfl ?_
      refine l_cn (v := nI (nLo σ)) dL_areClaims_117 q201 hX (Nat.le_of_ble_eq_true rfl) ⟨Nat.le_refl _, Nat.le_refl _⟩ (fun _ _ => xn_1 hX.q _ _) ?_
      refine x_icmp_ge (tgt := 296) dL_areClaims_120 (by decide) (fun c => absurd c g120) (fun _ => ?_)
      refine x_iload dL_areClaims_123 rfl ?_
      refine x_if_lt (tgt := 296) dL_areClaims_125 (by decide) (fun c => absurd c g125) (fun _ => ?_)
      refine x_iload dL_areClaims_128 rfl ?_
      refine x_bipush (v := 16) dL_areClaims_130 rfl ?_
      refine x_icmp_ge (tgt := 296) dL_areClaims_132 (by decide) (fun c => absurd c g132) (fun _ => ?_)
      refine x_aload_n dL_areClaims_135 rfl ?_
      refine x_iload dL_areClaims_136 rfl ?_
      refine x_iconst (v := 2) dL_areClaims_138 rfl ?_
      refine l_rd (v := σ 7 k) dL_areClaims_139 kX4_ofClaim iX4_ofClaim q364 hX (fun _ _ _ a1 a2 a3 => x_ofClaim _ a1 a2 a3 _ _) rfl rfl rfl (Nat.le_of_ble_eq_true rfl) ⟨Nat.le_refl _, Nat.le_refl _⟩ ((ofC_n hX.q.2.1.cok hk2).2.2.1) ?_
      refine x_if_le (tgt := 296) dL_areClaims_142 (by decide) (fun c => absurd c g142) (fun _ => ?_)
      refine x_aload_n dL_areClaims_145 rfl ?_
      refine x_iload dL_areClaims_146 rfl ?_
      refine x_iconst (v := 2) dL_areClaims_148 rfl ?_
      refine l_rd (v := σ 7 k) dL_areClaims_149 kX4_ofClaim iX4_ofClaim q364 hX (fun _ _ _ a1 a2 a3 => x_ofClaim _ a1 a2 a3 _ _) rfl rfl rfl (Nat.le_of_ble_eq_true rfl) ⟨Nat.le_refl _, Nat.le_refl _⟩ ((ofC_n hX.q.2.1.cok hk2).2.2.1) ?_
      refine x_bipush (v := 6) dL_areClaims_152 rfl ?_
      refine x_icmp_ge (tgt := 296) dL_areClaims_154 (by decide) (fun c => absurd c g154) (fun _ => ?_)
      refine x_aload_n dL_areClaims_157 rfl ?_
      refine x_iload dL_areClaims_158 rfl ?_
      refine x_iconst (v := 3) dL_areClaims_160 rfl ?_
      refine l_rd (v := σ 8 k) dL_areClaims_161 kX4_ofClaim iX4_ofClaim q364 hX (fun _ _ _ a1 a2 a3 => x_ofClaim _ a1 a2 a3 _ _) rfl rfl rfl (Nat.le_of_ble_eq_true rfl) ⟨Nat.le_refl _, Nat.le_refl _⟩ ((ofC_n hX.q.2.1.cok hk2).2.2.2.1) ?_
      refine x_if_lt (tgt := 296) dL_areClaims_164 (by decide) (fun c => absurd c g164) (fun _ => ?_)
      refine x_aload_n dL_areClaims_167 rfl ?_
      refine x_iload dL_areClaims_168 rfl ?_
      refine x_iconst (v := 3) dL_areClaims_170 rfl ?_
      refine l_rd (v := σ 8 k) dL_areClaims_171 kX4_ofClaim iX4_ofClaim q364 hX (fun _ _ _ a1 a2 a3 => x_ofClaim _ a1 a2 a3 _ _) rfl rfl rfl (Nat.le_of_ble_eq_true rfl) ⟨Nat.le_refl _, Nat.le_refl _⟩ ((ofC_n hX.q.2.1.cok hk2).2.2.2.1) ?_
      refine x_bipush (v := 100) dL_areClaims_174 rfl ?_
      refine x_icmp_gt (tgt := 296) dL_areClaims_176 (by decide) (fun c => absurd c g176) (fun _ => ?_)
      refine x_aload_n dL_areClaims_179 rfl ?_
      refine x_iload dL_areClaims_180 rfl ?_
      refine x_iconst (v := 5) dL_areClaims_182 rfl ?_
      refine l_rd (v := σ 10 k) dL_areClaims_183 kX4_ofClaim iX4_ofClaim q364 hX (fun _ _ _ a1 a2 a3 => x_ofClaim _ a1 a2 a3 _ _) rfl rfl rfl (Nat.le_of_ble_eq_true rfl) ⟨Nat.le_refl _, Nat.le_refl _⟩ ((ofC_n hX.q.2.1.cok hk2).2.2.2.2.2.1) ?_
      refine x_if_lt (tgt := 296) dL_areClaims_186 (by decide) (fun c => absurd c g186) (fun _ => ?_)
      have j206 : Ev st (d + 8) yL_areClaims cL_areClaims 10 (some .boolean) (z, h) 0 0 (RO (some (.int 1)) (z, h)) 206 [.ref x, .int (nI (nCl σ)), .int (bs (sStands σ) (k + 1)), .int (nI (sN (bN σ) (k + 1))), .int 1, .int (nI k), .int (nI w), .int (nI j), .int (nI g), a9] [] (z, h) 0 0 := by
        have j234 : Ev st (d + 8) yL_areClaims cL_areClaims 10 (some .boolean) (z, h) 0 0 (RO (some (.int 1)) (z, h)) 234 [.ref x, .int (nI (nCl σ)), .int (bs (sStands σ) (k + 1)), .int (nI (sN (bN σ) (k + 1))), .int 1, .int (nI k), .int (nI w), .int (nI j), .int (nI g), a9] [] (z, h) 0 0 := by
          refine x_aload_n dL_areClaims_234 rfl ?_
          refine x_iload dL_areClaims_235 rfl ?_
          refine x_iconst (v := 5) dL_areClaims_237 rfl ?_
          refine l_rd (v := cToLot σ (nI j)) dL_areClaims_238 kX4_of iX4_of q309 hX (fun _ _ _ a1 a2 a3 => x_of _ a1 a2 a3 _ _) rfl rfl rfl (Nat.le_of_ble_eq_true rfl) ⟨Nat.le_refl _, Nat.le_refl _⟩ ((of_n hX.q.2.1.lok hj).2.2.2.2.2.1) ?_
          refine x_iload dL_areClaims_241 rfl ?_
          refine x_ishr dL_areClaims_243 ?_
          refine x_iconst (v := 1) dL_areClaims_244 rfl ?_
          refine x_iand dL_areClaims_245 ?_
          refine x_iconst (v := 1) dL_areClaims_246 rfl ?_
          refine x_icmp_ne (tgt := 296) dL_areClaims_247 (by decide) (fun c => absurd g247 c) (fun _ => ?_)
          refine x_aload_n dL_areClaims_250 rfl ?_
          refine x_iload dL_areClaims_251 rfl ?_
          refine x_iconst (v := 1) dL_areClaims_253 rfl ?_
          refine l_rd (v := cOfHeir σ (nI g)) dL_areClaims_254 kX4_heir iX4_heir q340 hX (fun _ _ _ a1 a2 a3 => x_heir _ a1 a2 a3 _ _) rfl rfl rfl (Nat.le_of_ble_eq_true rfl) ⟨Nat.le_refl _, Nat.le_refl _⟩ ((heir_n σ hg).2.1) ?_
          refine x_iload dL_areClaims_257 rfl ?_
          refine x_ishr dL_areClaims_259 ?_
          refine x_iconst (v := 1) dL_areClaims_260 rfl ?_
          refine x_iand dL_areClaims_261 ?_
          refine x_iconst (v := 1) dL_areClaims_262 rfl ?_
          refine x_icmp_ne (tgt := 296) dL_areClaims_263 (by decide) (fun c => absurd g263 c) (fun _ => ?_)
          refine x_aload_n dL_areClaims_266 rfl ?_
          refine x_iload dL_areClaims_267 rfl ?_
          refine x_iconst (v := 2) dL_areClaims_269 rfl ?_
          refine l_rd (v := (cOfHeir σ (nI g) &&& cStanding σ)) dL_areClaims_270 kX4_heir iX4_heir q340 hX (fun _ _ _ a1 a2 a3 => x_heir _ a1 a2 a3 _ _) rfl rfl rfl (Nat.le_of_ble_eq_true rfl) ⟨Nat.le_refl _, Nat.le_refl _⟩ ((heir_n σ hg).2.2.1) ?_
          refine x_iload dL_areClaims_273 rfl ?_
          refine x_ishr dL_areClaims_275 ?_
          refine x_iconst (v := 1) dL_areClaims_276 rfl ?_
          refine x_iand dL_areClaims_277 ?_
          have j289 : Ev st (d + 8) yL_areClaims cL_areClaims 10 (some .boolean) (z, h) 0 0 (RO (some (.int 1)) (z, h)) 289 [.ref x, .int (nI (nCl σ)), .int (bs (sStands σ) (k + 1)), .int (nI (sN (bN σ) (k + 1))), .int 1, .int (nI k), .int (nI w), .int (nI j), .int (nI g), a9] [.int (hwB σ k), .int (((cOfHeir σ (nI g) &&& cStanding σ) >>> (nI k &&& 31)) &&& 1)] (z, h) 0 0 := by
            refine x_icmp_ne (tgt := 296) dL_areClaims_289 (by decide) (fun c => absurd g289 c) (fun _ => ?_)
            refine x_iconst (v := 1) dL_areClaims_292 rfl ?_
            refine x_goto (tgt := 297) dL_areClaims_293 (by decide) ?_
            refine e_isd (b := 1) (lv2 := [.ref x, .int (nI (nCl σ)), .int (bs (sStands σ) (k + 1)), .int (nI (sN (bN σ) (k + 1))), .int 1, .int (nI k), .int (nI w), .int (nI j), .int (nI g), a9]) dL_areClaims_297 (Nat.le_of_ble_eq_true rfl) rfl rfl rfl ?_
            refine x_iconst (v := 0) dL_areClaims_299 rfl ?_
            refine e_isd (b := nI 0) (lv2 := [.ref x, .int (nI (nCl σ)), .int (bs (sStands σ) (k + 1)), .int (nI (sN (bN σ) (k + 1))), .int 1, .int (nI k), .int (nI w), .int (nI j), .int (nI g), .int (nI 0)]) dL_areClaims_300 (Nat.le_of_ble_eq_true rfl) rfl rfl rfl ?_
            refine L_ac1 d hX hk2 _ _ g352 ?_ k 0 (Nat.zero_add _)
            refine e_incd (b := nI (k + 1)) (lv2 := [.ref x, .int (nI (nCl σ)), .int (bs (sStands σ) (k + 1)), .int (nI (sN (bN σ) (k + 1))), .int 1, .int (nI (k + 1)), .int (nI w), .int (nI j), .int (nI g), .int (nI k)]) dL_areClaims_368 rfl (nI_1 _) rfl rfl ?_
            refine x_goto (tgt := 30) dL_areClaims_371 (by decide) ?_
            exact ih (k + 1) (by omega) _ _ _ _
          refine x_iload dL_areClaims_278 rfl ?_
          refine x_iconst (v := 2) dL_areClaims_280 rfl ?_
          refine x_icmp_ge (tgt := 288) dL_areClaims_281 (by decide) (fun c281 => ?_) (fun c281 => ?_)
          · refine x_iconst (v := 0) dL_areClaims_288 rfl ?_
            exact e_top (b := hwB σ k) (by first | exact b3 c281 | exact b4 c281) j289
          · refine x_iconst (v := 1) dL_areClaims_284 rfl ?_
            refine x_goto (tgt := 289) dL_areClaims_285 (by decide) ?_
            exact e_top (b := hwB σ k) (by first | exact b3 c281 | exact b4 c281) j289
        refine x_iload dL_areClaims_206 rfl ?_
        refine x_iconst (v := 5) dL_areClaims_208 rfl ?_
        refine x_icmp_ne (tgt := 234) dL_areClaims_209 (by decide) (fun c209 => ?_) (fun c209 => ?_)
        · exact j234
        · refine x_aload_n dL_areClaims_212 rfl ?_
          refine x_iload dL_areClaims_213 rfl ?_
          refine x_iconst (v := 1) dL_areClaims_215 rfl ?_
          refine l_rd (v := σ 2 j) dL_areClaims_216 kX4_of iX4_of q309 hX (fun _ _ _ a1 a2 a3 => x_of _ a1 a2 a3 _ _) rfl rfl rfl (Nat.le_of_ble_eq_true rfl) ⟨Nat.le_refl _, Nat.le_refl _⟩ ((of_n hX.q.2.1.lok hj).2.1) ?_
          refine x_iconst (v := 2) dL_areClaims_219 rfl ?_
          refine x_icmp_eq (tgt := 234) dL_areClaims_220 (by decide) (fun c220 => ?_) (fun c220 => ?_)
          · exact j234
          · refine x_aload_n dL_areClaims_223 rfl ?_
            refine x_iload dL_areClaims_224 rfl ?_
            refine x_iconst (v := 1) dL_areClaims_226 rfl ?_
            refine l_rd (v := σ 2 j) dL_areClaims_227 kX4_of iX4_of q309 hX (fun _ _ _ a1 a2 a3 => x_of _ a1 a2 a3 _ _) rfl rfl rfl (Nat.le_of_ble_eq_true rfl) ⟨Nat.le_refl _, Nat.le_refl _⟩ ((of_n hX.q.2.1.lok hj).2.1) ?_
            refine x_iconst (v := 4) dL_areClaims_230 rfl ?_
            refine x_icmp_ne (tgt := 296) dL_areClaims_231 (by decide) (fun c => absurd (g231 (by first | exact c209 | exact Classical.byContradiction c209) c220) c) (fun _ => ?_)
            exact j234
      refine x_iload dL_areClaims_189 rfl ?_
      refine x_iconst (v := 5) dL_areClaims_191 rfl ?_
      refine x_icmp_eq (tgt := 206) dL_areClaims_192 (by decide) (fun c192 => ?_) (fun c192 => ?_)
      · exact j206
      · refine x_aload_n dL_areClaims_195 rfl ?_
        refine x_iload dL_areClaims_196 rfl ?_
        refine x_bipush (v := 6) dL_areClaims_198 rfl ?_
        refine l_rd (v := nI (bN σ k)) dL_areClaims_200 kX4_ofClaim iX4_ofClaim q364 hX (fun _ _ _ a1 a2 a3 => x_ofClaim _ a1 a2 a3 _ _) rfl rfl rfl (Nat.le_of_ble_eq_true rfl) ⟨Nat.le_refl _, Nat.le_refl _⟩ ((ofC_n hX.q.2.1.cok hk2).2.2.2.2.2.2.trans (bN_n hX.q hk2).1) ?_
        refine x_if_ne (tgt := 296) dL_areClaims_203 (by decide) (fun c => absurd (g203 c192) c) (fun _ => ?_)
        exact j206
    refine x_iload dL_areClaims_69 rfl ?_
    refine x_iconst (v := 2) dL_areClaims_71 rfl ?_
    refine x_icmp_ge (tgt := 82) dL_areClaims_72 (by decide) (fun c72 => ?_) (fun c72 => ?_)
    · refine x_iconst (v := 0) dL_areClaims_82 rfl ?_
      exact e_top (b := stB σ k) (by first | exact b1 c72 | exact b2 c72) j83
    · refine x_iconst (v := 1) dL_areClaims_75 rfl ?_
      refine x_iload dL_areClaims_76 rfl ?_
      refine x_ishl dL_areClaims_78 ?_
      refine x_goto (tgt := 83) dL_areClaims_79 (by decide) ?_
      exact e_top (b := stB σ k) (by first | exact b1 c72 | exact b2 c72) j83

set_option maxRecDepth 100000 in
set_option maxHeartbeats 8000000 in
theorem t_areClaims {st : Nat → Nat} (d : Nat) {z : Nat} {h : Nat → Option va_E} {x : Nat} {σ τ : Sg} {n : Nat} {sl : Nat → Sg} {sv : Nat → Int32} (hX : XS h x σ n τ sl sv)  : CT st (d + 8) yL_areClaims cL_areClaims 10 (some .boolean) [.ref x] (z, h) 0 0 (RO (some (.int 1)) (z, h)) := by
  refine CT.of (lv := [.ref x, .null, .null, .null, .null, .null, .null, .null, .null, .null]) (by decide) (Nat.le_of_ble_eq_true rfl) rfl rfl ?_
  have l30 := hX.q.2.1.cok.2
  refine x_aload_n dL_areClaims_0 rfl ?_
  refine x_iconst (v := 2) dL_areClaims_1 rfl ?_
  refine l_cn (v := nI (nCl σ)) dL_areClaims_2 q201 hX (Nat.le_of_ble_eq_true rfl) ⟨Nat.le_refl _, Nat.le_refl _⟩ (fun _ _ => xn_2 hX.q _ _) ?_
  refine e_isd_n (b := nI (nCl σ)) (lv2 := [.ref x, .int (nI (nCl σ)), .null, .null, .null, .null, .null, .null, .null, .null]) dL_areClaims_5 (Nat.le_of_ble_eq_true rfl) rfl rfl rfl ?_
  refine x_iconst (v := 0) dL_areClaims_6 rfl ?_
  refine e_isd_n (b := bs (sStands σ) 0) (lv2 := [.ref x, .int (nI (nCl σ)), .int (bs (sStands σ) 0), .null, .null, .null, .null, .null, .null, .null]) dL_areClaims_7 (Nat.le_of_ble_eq_true rfl) rfl rfl rfl ?_
  refine x_iconst (v := 0) dL_areClaims_8 rfl ?_
  refine e_isd_n (b := nI (sN (bN σ) 0)) (lv2 := [.ref x, .int (nI (nCl σ)), .int (bs (sStands σ) 0), .int (nI (sN (bN σ) 0)), .null, .null, .null, .null, .null, .null]) dL_areClaims_9 (Nat.le_of_ble_eq_true rfl) rfl rfl rfl ?_
  refine x_iload_n dL_areClaims_10 rfl ?_
  refine x_if_lt (tgt := 24) dL_areClaims_11 (by decide) (fun c => absurd c (nng (by omega))) (fun _ => ?_)
  refine x_iload_n dL_areClaims_14 rfl ?_
  refine x_bipush (v := 30) dL_areClaims_15 rfl ?_
  refine x_icmp_gt (tgt := 24) dL_areClaims_17 (by decide) (fun c => absurd c (fun e => by have := (nI_ltI (a := 30) (by decide) (by omega)).mp e; omega)) (fun _ => ?_)
  refine x_iconst (v := 1) dL_areClaims_20 rfl ?_
  refine x_goto (tgt := 25) dL_areClaims_21 (by decide) ?_
  refine e_isd (b := 1) (lv2 := [.ref x, .int (nI (nCl σ)), .int (bs (sStands σ) 0), .int (nI (sN (bN σ) 0)), .int 1, .null, .null, .null, .null, .null]) dL_areClaims_25 (Nat.le_of_ble_eq_true rfl) rfl rfl rfl ?_
  refine x_iconst (v := 0) dL_areClaims_27 rfl ?_
  refine e_isd (b := nI 0) (lv2 := [.ref x, .int (nI (nCl σ)), .int (bs (sStands σ) 0), .int (nI (sN (bN σ) 0)), .int 1, .int (nI 0), .null, .null, .null, .null]) dL_areClaims_28 (Nat.le_of_ble_eq_true rfl) rfl rfl rfl ?_
  exact L_ac0 d hX (nCl σ) 0 (Nat.zero_add _) _ _ _ _
