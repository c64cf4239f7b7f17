/-! HELPERS OF THE LAW: act, a new lot, a notice, a claim -/

set_option maxRecDepth 100000 in
set_option maxHeartbeats 8000000 in
theorem A_lot {st : Nat → Nat} (d : Nat) {z : Nat} {h : Nat → Option va_E} {x : Nat} {σ τ : Sg} {n : Nat} {sl : Nat → Sg} {sv : Nat → Int32} (hX : XS h x σ n τ sl sv) {X : Int32} {wh y j c : Nat} (hy : y < 2 ^ 31)  : Ev st (d + 8) yL_act cL_act 16 (some .int) (z, h) 0 0 (AQ z x σ n τ sl sv) 64 [.ref x, .int X, .int (nI wh), .int (nI y), .int (nI (nLo σ)), .int (nI (nCl σ)), .int (nI j), .int (nI c), .null, .null, .null, .null, .null, .null, .null, .null] [] (z, h) 0 0 := by
  have hQ := hX.q
  have l12 := hQ.2.1.lok.2
  obtain ⟨v1, v2, v3, v4⟩ := lotV_in hy
  have dl := do_lot hQ v3 v4
  have j90 : Ev st (d + 8) yL_act cL_act 16 (some .int) (z, h) 0 0 (AQ z x σ n τ sl sv) 90 [.ref x, .int X, .int (nI wh), .int (nI y), .int (nI (nLo σ)), .int (nI (nCl σ)), .int (nI j), .int (nI c), .null, .null, .null, .null, .null, .null, .null, .null] [.int (nI (lotV y))] (z, h) 0 0 := by
    refine e_isd (b := nI (lotV y)) (lv2 := [.ref x, .int X, .int (nI wh), .int (nI y), .int (nI (nLo σ)), .int (nI (nCl σ)), .int (nI j), .int (nI c), .int (nI (lotV y)), .null, .null, .null, .null, .null, .null, .null]) dL_act_90 (Nat.le_of_ble_eq_true rfl) rfl rfl rfl ?_
    by_cases q12 : nLo σ < 12
    · obtain ⟨τ1, he, hq1, en, r1, r2, rs⟩ := dl.2 q12
      have hl1 : nLo σ < nLo τ1 := by omega
      refine x_aload_n dL_act_92 rfl ?_
      refine x_bipush (v := 8) dL_act_93 rfl ?_
      refine l_cn (v := nI (sN (vN σ) (nLo σ))) dL_act_95 q201 hX (Nat.le_of_ble_eq_true rfl) ⟨Nat.le_refl _, Nat.le_refl _⟩ (fun _ _ => xn_8 hX.q _ _) ?_
      refine e_isd (b := nI (sN (vN σ) (nLo σ))) (lv2 := [.ref x, .int X, .int (nI wh), .int (nI y), .int (nI (nLo σ)), .int (nI (nCl σ)), .int (nI j), .int (nI c), .int (nI (lotV y)), .int (nI (sN (vN σ) (nLo σ))), .null, .null, .null, .null, .null, .null]) dL_act_98 (Nat.le_of_ble_eq_true rfl) rfl rfl rfl ?_
      refine x_aload_n dL_act_100 rfl ?_
      refine x_iload dL_act_101 rfl ?_
      refine l_xq dL_act_103 kX4_lot iX4_lot q457 hX (ct_do hX (fun _ _ _ a1 a2 a3 => x_lot (d + 1) a1 a2 a3 _) he (nng (by omega)) hq1) rfl rfl rfl (Nat.le_of_ble_eq_true rfl) ⟨Nat.le_refl _, Nat.le_refl _⟩ (fun h1 hX1 => ?_)
      refine e_isd (b := nI (nLo σ)) (lv2 := [.ref x, .int X, .int (nI wh), .int (nI y), .int (nI (nLo σ)), .int (nI (nCl σ)), .int (nI j), .int (nI c), .int (nI (lotV y)), .int (nI (sN (vN σ) (nLo σ))), .int (nI (nLo σ)), .null, .null, .null, .null, .null]) dL_act_106 (Nat.le_of_ble_eq_true rfl) rfl rfl rfl ?_
      refine x_iload dL_act_108 rfl ?_
      refine x_bipush (v := 12) dL_act_110 rfl ?_
      refine x_icmp_ne (tgt := 131) dL_act_112 (by decide) (fun _ => ?_) (fun c => absurd c (fun e => by have := nI_inj2 (b := 12) (by omega) (by decide) e; omega))
      refine x_iload dL_act_131 rfl ?_
      refine x_iload dL_act_133 rfl ?_
      refine x_icmp_ne (tgt := 178) dL_act_135 (by decide) (fun c => absurd rfl c) (fun _ => ?_)
      refine x_aload_n dL_act_138 rfl ?_
      refine x_iload dL_act_139 rfl ?_
      refine x_iconst (v := 0) dL_act_141 rfl ?_
      refine l_rd (v := nI (lotV y)) dL_act_142 kX4_of iX4_of q309 hX1 (fun _ _ _ a1 a2 a3 => x_of _ a1 a2 a3 _ _) rfl rfl rfl (Nat.le_of_ble_eq_true rfl) ⟨Nat.le_refl _, Nat.le_refl _⟩ ((of_n hq1.2.1.lok hl1).1.trans r1) ?_
      refine x_iload dL_act_145 rfl ?_
      refine x_icmp_ne (tgt := 178) dL_act_147 (by decide) (fun c => absurd rfl c) (fun _ => ?_)
      refine x_aload_n dL_act_150 rfl ?_
      refine x_iload dL_act_151 rfl ?_
      refine x_iconst (v := 1) dL_act_153 rfl ?_
      refine l_rd (v := 0) dL_act_154 kX4_of iX4_of q309 hX1 (fun _ _ _ a1 a2 a3 => x_of _ a1 a2 a3 _ _) rfl rfl rfl (Nat.le_of_ble_eq_true rfl) ⟨Nat.le_refl _, Nat.le_refl _⟩ ((of_n hq1.2.1.lok hl1).2.1.trans r2) ?_
      refine x_if_ne (tgt := 178) dL_act_157 (by decide) (fun c => absurd (by decide) c) (fun _ => ?_)
      refine x_aload_n dL_act_160 rfl ?_
      refine x_bipush (v := 8) dL_act_161 rfl ?_
      refine l_cn (v := nI (sN (vN τ1) (nLo τ1))) dL_act_163 q201 hX1 (Nat.le_of_ble_eq_true rfl) ⟨Nat.le_refl _, Nat.le_refl _⟩ (fun _ _ => xn_8 hX1.q _ _) ?_
      refine x_iload dL_act_166 rfl ?_
      refine x_iload dL_act_168 rfl ?_
      refine x_iadd dL_act_170 ?_
      refine x_icmp_ne (tgt := 178) dL_act_171 (by decide) (fun c => absurd (by rw [rs, nI_add]) c) (fun _ => ?_)
      refine x_iconst (v := 1) dL_act_174 rfl ?_
      refine x_goto (tgt := 180) dL_act_175 (by decide) ?_
      refine x_iret dL_act_180 (Or.inl rfl) rfl (Nat.le_refl _) ?_
      exact ⟨_, rfl, Or.inr ⟨rfl, _, hX1⟩⟩
    · refine x_aload_n dL_act_92 rfl ?_
      refine x_bipush (v := 8) dL_act_93 rfl ?_
      refine l_cn (v := nI (sN (vN σ) (nLo σ))) dL_act_95 q201 hX (Nat.le_of_ble_eq_true rfl) ⟨Nat.le_refl _, Nat.le_refl _⟩ (fun _ _ => xn_8 hX.q _ _) ?_
      refine e_isd (b := nI (sN (vN σ) (nLo σ))) (lv2 := [.ref x, .int X, .int (nI wh), .int (nI y), .int (nI (nLo σ)), .int (nI (nCl σ)), .int (nI j), .int (nI c), .int (nI (lotV y)), .int (nI (sN (vN σ) (nLo σ))), .null, .null, .null, .null, .null, .null]) dL_act_98 (Nat.le_of_ble_eq_true rfl) rfl rfl rfl ?_
      refine x_aload_n dL_act_100 rfl ?_
      refine x_iload dL_act_101 rfl ?_
      refine l_xq dL_act_103 kX4_lot iX4_lot q457 hX (ct_no hX (fun _ _ _ a1 a2 a3 => x_lot (d + 1) a1 a2 a3 _) (dl.1 q12) (by decide)) rfl rfl rfl (Nat.le_of_ble_eq_true rfl) ⟨Nat.le_refl _, Nat.le_refl _⟩ (fun h2 hX2 => ?_)
      refine e_isd (b := (-4)) (lv2 := [.ref x, .int X, .int (nI wh), .int (nI y), .int (nI (nLo σ)), .int (nI (nCl σ)), .int (nI j), .int (nI c), .int (nI (lotV y)), .int (nI (sN (vN σ) (nLo σ))), .int (-4), .null, .null, .null, .null, .null]) dL_act_106 (Nat.le_of_ble_eq_true rfl) rfl rfl rfl ?_
      refine x_iload dL_act_108 rfl ?_
      refine x_bipush (v := 12) dL_act_110 rfl ?_
      refine x_icmp_ne (tgt := 131) dL_act_112 (by decide) (fun c => absurd (by rw [show nLo σ = 12 by omega]; rfl) c) (fun _ => ?_)
      refine x_iload dL_act_115 rfl ?_
      refine x_bipush (v := (-4)) dL_act_117 rfl ?_
      refine x_icmp_ne (tgt := 126) dL_act_119 (by decide) (fun c => absurd (by decide) c) (fun _ => ?_)
      refine x_iconst (v := 0) dL_act_122 rfl ?_
      refine x_goto (tgt := 180) dL_act_123 (by decide) ?_
      refine x_iret dL_act_180 (Or.inl rfl) rfl (Nat.le_refl _) ?_
      exact ⟨_, rfl, Or.inl ⟨rfl, hX2⟩⟩
  refine x_iload_n dL_act_64 rfl ?_
  refine x_iconst (v := 3) dL_act_65 rfl ?_
  refine x_irem dL_act_66 (by decide) ?_
  refine x_if_ne (tgt := 82) dL_act_67 (by decide) (fun c67 => ?_) (fun c67 => ?_)
  · refine x_iconst (v := 1) dL_act_82 rfl ?_
    refine x_iload_n dL_act_83 rfl ?_
    refine x_iconst (v := 3) dL_act_84 rfl ?_
    refine x_idiv dL_act_85 (by decide) ?_
    refine x_bipush (v := 20) dL_act_86 rfl ?_
    refine x_irem dL_act_88 (by decide) ?_
    refine x_iadd dL_act_89 ?_
    exact e_top (b := nI (lotV y)) (by first | exact v1 c67 | exact v2 c67) j90
  · refine x_iconst (v := 1) dL_act_70 rfl ?_
    refine x_iload_n dL_act_71 rfl ?_
    refine x_iconst (v := 3) dL_act_72 rfl ?_
    refine x_idiv dL_act_73 (by decide) ?_
    refine x_sipush (v := 9999) dL_act_74 rfl ?_
    refine x_irem dL_act_77 (by decide) ?_
    refine x_iadd dL_act_78 ?_
    refine x_goto (tgt := 90) dL_act_79 (by decide) ?_
    exact e_top (b := nI (lotV y)) (by first | exact v1 c67 | exact v2 c67) j90

set_option maxRecDepth 100000 in
set_option maxHeartbeats 8000000 in
theorem A_notice {st : Nat → Nat} (d : Nat) {z : Nat} {h : Nat → Option va_E} {x : Nat} {σ τ : Sg} {n : Nat} {sl : Nat → Sg} {sv : Nat → Int32} (hX : XS h x σ n τ sl sv) {X : Int32} {wh y j c : Nat} (hy : y < 2 ^ 31) (hj : j < nLo σ)  : Ev st (d + 8) yL_act cL_act 16 (some .int) (z, h) 0 0 (AQ z x σ n τ sl sv) 186 [.ref x, .int X, .int (nI wh), .int (nI y), .int (nI (nLo σ)), .int (nI (nCl σ)), .int (nI j), .int (nI c), .null, .null, .null, .null, .null, .null, .null, .null] [] (z, h) 0 0 := by
  have hQ := hX.q
  have dn := do_notice hQ hj
  refine x_aload_n dL_act_186 rfl ?_
  refine x_iload dL_act_187 rfl ?_
  refine x_iconst (v := 1) dL_act_189 rfl ?_
  refine l_rd (v := σ 2 j) dL_act_190 kX4_of iX4_of q309 hX (fun _ _ _ a1 a2 a3 => x_of _ a1 a2 a3 _ _) rfl rfl rfl (Nat.le_of_ble_eq_true rfl) ⟨Nat.le_refl _, Nat.le_refl _⟩ ((of_n hQ.2.1.lok hj).2.1) ?_
  refine e_isd (b := σ 2 j) (lv2 := [.ref x, .int X, .int (nI wh), .int (nI y), .int (nI (nLo σ)), .int (nI (nCl σ)), .int (nI j), .int (nI c), .int (σ 2 j), .null, .null, .null, .null, .null, .null, .null]) dL_act_193 (Nat.le_of_ble_eq_true rfl) rfl rfl rfl ?_
  by_cases q2 : σ 2 j = 0
  · obtain ⟨τ1, he, hq1, en, el, hr⟩ := dn.2 q2
    refine x_aload_n dL_act_195 rfl ?_
    refine x_iconst (v := 4) dL_act_196 rfl ?_
    refine l_cn (v := lIn σ 1) dL_act_197 q201 hX (Nat.le_of_ble_eq_true rfl) ⟨Nat.le_refl _, Nat.le_refl _⟩ (fun _ _ => xn_4 _ _) ?_
    refine e_isd (b := lIn σ 1) (lv2 := [.ref x, .int X, .int (nI wh), .int (nI y), .int (nI (nLo σ)), .int (nI (nCl σ)), .int (nI j), .int (nI c), .int (σ 2 j), .int (lIn σ 1), .null, .null, .null, .null, .null, .null]) dL_act_200 (Nat.le_of_ble_eq_true rfl) rfl rfl rfl ?_
    refine x_aload_n dL_act_202 rfl ?_
    refine x_iload dL_act_203 rfl ?_
    refine l_xq dL_act_205 kX4_notice iX4_notice q465 hX (ct_do hX (fun _ _ _ a1 a2 a3 => x_notice (d + 1) a1 a2 a3 _) he hr hq1) rfl rfl rfl (Nat.le_of_ble_eq_true rfl) ⟨Nat.le_refl _, Nat.le_refl _⟩ (fun h1 hX1 => ?_)
    refine e_isd (b := (sBit (lIn σ 1) + 1)) (lv2 := [.ref x, .int X, .int (nI wh), .int (nI y), .int (nI (nLo σ)), .int (nI (nCl σ)), .int (nI j), .int (nI c), .int (σ 2 j), .int (lIn σ 1), .int (sBit (lIn σ 1) + 1), .null, .null, .null, .null, .null]) dL_act_208 (Nat.le_of_ble_eq_true rfl) rfl rfl rfl ?_
    refine x_iload dL_act_210 rfl ?_
    refine x_if_eq (tgt := 231) dL_act_212 (by decide) (fun _ => ?_) (fun c => absurd q2 c)
    refine x_iload dL_act_231 rfl ?_
    refine x_iload dL_act_233 rfl ?_
    refine c_SR dL_act_235 kL_size q638 q637 (t_size (d + 6) (s := lIn σ 1)) rfl rfl (Nat.le_of_ble_eq_true rfl) ⟨Nat.le_refl _, Nat.le_refl _⟩ ?_
    refine x_iconst (v := 1) dL_act_238 rfl ?_
    refine x_iadd dL_act_239 ?_
    refine x_icmp_ne (tgt := 262) dL_act_240 (by decide) (fun c => absurd rfl c) (fun _ => ?_)
    refine x_aload_n dL_act_243 rfl ?_
    refine x_iconst (v := 4) dL_act_244 rfl ?_
    refine l_cn (v := lIn τ1 1) dL_act_245 q201 hX1 (Nat.le_of_ble_eq_true rfl) ⟨Nat.le_refl _, Nat.le_refl _⟩ (fun _ _ => xn_4 _ _) ?_
    refine x_iload dL_act_248 rfl ?_
    refine x_iconst (v := 1) dL_act_250 rfl ?_
    refine x_iload dL_act_251 rfl ?_
    refine x_ishl dL_act_253 ?_
    refine x_ior dL_act_254 ?_
    refine x_icmp_ne (tgt := 262) dL_act_255 (by decide) (fun c => absurd el c) (fun _ => ?_)
    refine x_iconst (v := 1) dL_act_258 rfl ?_
    refine x_goto (tgt := 264) dL_act_259 (by decide) ?_
    refine x_iret dL_act_264 (Or.inl rfl) rfl (Nat.le_refl _) ?_
    exact ⟨_, rfl, Or.inr ⟨rfl, _, hX1⟩⟩
  · refine x_aload_n dL_act_195 rfl ?_
    refine x_iconst (v := 4) dL_act_196 rfl ?_
    refine l_cn (v := lIn σ 1) dL_act_197 q201 hX (Nat.le_of_ble_eq_true rfl) ⟨Nat.le_refl _, Nat.le_refl _⟩ (fun _ _ => xn_4 _ _) ?_
    refine e_isd (b := lIn σ 1) (lv2 := [.ref x, .int X, .int (nI wh), .int (nI y), .int (nI (nLo σ)), .int (nI (nCl σ)), .int (nI j), .int (nI c), .int (σ 2 j), .int (lIn σ 1), .null, .null, .null, .null, .null, .null]) dL_act_200 (Nat.le_of_ble_eq_true rfl) rfl rfl rfl ?_
    refine x_aload_n dL_act_202 rfl ?_
    refine x_iload dL_act_203 rfl ?_
    refine l_xq dL_act_205 kX4_notice iX4_notice q465 hX (ct_no hX (fun _ _ _ a1 a2 a3 => x_notice (d + 1) a1 a2 a3 _) (dn.1 q2) (by decide)) rfl rfl rfl (Nat.le_of_ble_eq_true rfl) ⟨Nat.le_refl _, Nat.le_refl _⟩ (fun h2 hX2 => ?_)
    refine e_isd (b := (-5)) (lv2 := [.ref x, .int X, .int (nI wh), .int (nI y), .int (nI (nLo σ)), .int (nI (nCl σ)), .int (nI j), .int (nI c), .int (σ 2 j), .int (lIn σ 1), .int (-5), .null, .null, .null, .null, .null]) dL_act_208 (Nat.le_of_ble_eq_true rfl) rfl rfl rfl ?_
    refine x_iload dL_act_210 rfl ?_
    refine x_if_eq (tgt := 231) dL_act_212 (by decide) (fun c => absurd c q2) (fun _ => ?_)
    refine x_iload dL_act_215 rfl ?_
    refine x_bipush (v := (-5)) dL_act_217 rfl ?_
    refine x_icmp_ne (tgt := 226) dL_act_219 (by decide) (fun c => absurd (by decide) c) (fun _ => ?_)
    refine x_iconst (v := 0) dL_act_222 rfl ?_
    refine x_goto (tgt := 264) dL_act_223 (by decide) ?_
    refine x_iret dL_act_264 (Or.inl rfl) rfl (Nat.le_refl _) ?_
    exact ⟨_, rfl, Or.inl ⟨rfl, hX2⟩⟩

theorem can1_n {σ : Sg} {j t : Nat} (ht : t < 5) (et : σ 2 j = nI t) : (nI t < 2 → can1 σ j) ∧ (can1 σ j → ¬ nI t < 2 → nI t = 3 ∧ σ 4 j ≤ σ 0 3) ∧ (nI t = 3 → σ 4 j ≤ σ 0 3 → can1 σ j) := by
  unfold can1
  rw [et]
  refine ⟨fun q => ?_, fun q q2 => ?_, fun q q2 => Or.inr (Or.inr ⟨q, q2⟩)⟩
  · rw [show (2 : Int32) = nI 2 from rfl, nI_ltI (by omega) (by decide)] at q
    rcases (show t = 0 ∨ t = 1 by omega) with rfl | rfl
    · exact Or.inl rfl
    · exact Or.inr (Or.inl rfl)
  · rcases q with q | q | q
    · rw [q] at q2
      exact absurd (by decide) q2
    · rw [q] at q2
      exact absurd (by decide) q2
    · exact q

set_option maxRecDepth 100000 in
set_option maxHeartbeats 8000000 in
theorem A_claim {st : Nat → Nat} (d : Nat) {z : Nat} {h : Nat → Option va_E} {x : Nat} {σ τ : Sg} {n : Nat} {sl : Nat → Sg} {sv : Nat → Int32} (hX : XS h x σ n τ sl sv) {X : Int32} {wh y j c : Nat} (hy : y < 2 ^ 31) (hj : j < nLo σ)  : Ev st (d + 8) yL_act cL_act 16 (some .int) (z, h) 0 0 (AQ z x σ n τ sl sv) 271 [.ref x, .int X, .int (nI wh), .int (nI y), .int (nI (nLo σ)), .int (nI (nCl σ)), .int (nI j), .int (nI c), .null, .null, .null, .null, .null, .null, .null, .null] [] (z, h) 0 0 := by
  have hQ := hX.q
  have l12 := hQ.2.1.lok.2
  have l30 := hQ.2.1.cok.2
  obtain ⟨cv1, cv2, _⟩ := clV_in hy
  have hg : y / 12 % 16 < 16 := Nat.mod_lt _ (by decide)
  obtain ⟨t, ht, et⟩ := (hQ.1.1 j hj).2.1
  obtain ⟨cn1, cn2, cn3⟩ := can1_n ht et
  have dc := do_claim hQ hg hj (l := 1 + y / 192 % 5) (by omega) (by omega)
  refine x_iload_n dL_act_271 rfl ?_
  refine x_bipush (v := 12) dL_act_272 rfl ?_
  refine x_idiv dL_act_274 (by decide) ?_
  refine x_bipush (v := 16) dL_act_275 rfl ?_
  refine x_irem dL_act_277 (by decide) ?_
  refine e_isd (b := nI (y / 12 % 16)) (lv2 := [.ref x, .int X, .int (nI wh), .int (nI y), .int (nI (nLo σ)), .int (nI (nCl σ)), .int (nI j), .int (nI c), .int (nI (y / 12 % 16)), .null, .null, .null, .null, .null, .null, .null]) dL_act_278 (Nat.le_of_ble_eq_true rfl) rfl cv1 rfl ?_
  refine x_iconst (v := 1) dL_act_280 rfl ?_
  refine x_iload_n dL_act_281 rfl ?_
  refine x_sipush (v := 192) dL_act_282 rfl ?_
  refine x_idiv dL_act_285 (by decide) ?_
  refine x_iconst (v := 5) dL_act_286 rfl ?_
  refine x_irem dL_act_287 (by decide) ?_
  refine x_iadd dL_act_288 ?_
  refine e_isd (b := nI (1 + y / 192 % 5)) (lv2 := [.ref x, .int X, .int (nI wh), .int (nI y), .int (nI (nLo σ)), .int (nI (nCl σ)), .int (nI j), .int (nI c), .int (nI (y / 12 % 16)), .int (nI (1 + y / 192 % 5)), .null, .null, .null, .null, .null, .null]) dL_act_289 (Nat.le_of_ble_eq_true rfl) rfl cv2 rfl ?_
  refine x_aload_n dL_act_291 rfl ?_
  refine x_iload dL_act_292 rfl ?_
  refine x_iconst (v := 1) dL_act_294 rfl ?_
  refine l_rd (v := nI t) dL_act_295 kX4_of iX4_of q309 hX (fun _ _ _ a1 a2 a3 => x_of _ a1 a2 a3 _ _) rfl rfl rfl (Nat.le_of_ble_eq_true rfl) ⟨Nat.le_refl _, Nat.le_refl _⟩ ((of_n hQ.2.1.lok hj).2.1.trans et) ?_
  refine e_isd (b := nI t) (lv2 := [.ref x, .int X, .int (nI wh), .int (nI y), .int (nI (nLo σ)), .int (nI (nCl σ)), .int (nI j), .int (nI c), .int (nI (y / 12 % 16)), .int (nI (1 + y / 192 % 5)), .int (nI t), .null, .null, .null, .null, .null]) dL_act_298 (Nat.le_of_ble_eq_true rfl) rfl rfl rfl ?_
  by_cases c1 : can1 σ j
  · by_cases c2 : cStandTo σ (nI j) &&& (cOfHeir σ (nI (y / 12 % 16)) &&& cStanding σ) = 0
    · by_cases q30 : nCl σ < 30
      · obtain ⟨τ1, he, hq1, el, ec, r5, r6, r7, r9⟩ := (dc.2 ⟨c1, c2⟩).2 q30
        have hk1 : nCl σ < nCl τ1 := by omega
        have j328 : Ev st (d + 8) yL_act cL_act 16 (some .int) (z, h) 0 0 (AQ z x σ n τ sl sv) 328 [.ref x, .int X, .int (nI wh), .int (nI y), .int (nI (nLo σ)), .int (nI (nCl σ)), .int (nI j), .int (nI c), .int (nI (y / 12 % 16)), .int (nI (1 + y / 192 % 5)), .int (nI t), .null, .null, .null, .null, .null] [] (z, h) 0 0 := by
          refine x_iconst (v := 1) dL_act_328 rfl ?_
          refine x_goto (tgt := 333) dL_act_329 (by decide) ?_
          refine e_isd (b := 1) (lv2 := [.ref x, .int X, .int (nI wh), .int (nI y), .int (nI (nLo σ)), .int (nI (nCl σ)), .int (nI j), .int (nI c), .int (nI (y / 12 % 16)), .int (nI (1 + y / 192 % 5)), .int (nI t), .int 1, .null, .null, .null, .null]) dL_act_333 (Nat.le_of_ble_eq_true rfl) rfl rfl rfl ?_
          refine x_iload dL_act_335 rfl ?_
          refine x_if_eq (tgt := 362) dL_act_337 (by decide) (fun c => absurd c (by decide)) (fun _ => ?_)
          refine x_aload_n dL_act_340 rfl ?_
          refine x_iload dL_act_341 rfl ?_
          refine x_iconst (v := 4) dL_act_343 rfl ?_
          refine l_rd (v := cStandTo σ (nI j)) dL_act_344 kX4_of iX4_of q309 hX (fun _ _ _ a1 a2 a3 => x_of _ a1 a2 a3 _ _) rfl rfl rfl (Nat.le_of_ble_eq_true rfl) ⟨Nat.le_refl _, Nat.le_refl _⟩ ((of_n hQ.2.1.lok hj).2.2.2.2.1) ?_
          refine x_aload_n dL_act_347 rfl ?_
          refine x_iload dL_act_348 rfl ?_
          refine x_iconst (v := 2) dL_act_350 rfl ?_
          refine l_rd (v := (cOfHeir σ (nI (y / 12 % 16)) &&& cStanding σ)) dL_act_351 kX4_heir iX4_heir q340 hX (fun _ _ _ a1 a2 a3 => x_heir _ a1 a2 a3 _ _) rfl rfl rfl (Nat.le_of_ble_eq_true rfl) ⟨Nat.le_refl _, Nat.le_refl _⟩ ((heir_n σ hg).2.2.1) ?_
          refine x_iand dL_act_354 ?_
          refine x_if_ne (tgt := 362) dL_act_355 (by decide) (fun c => absurd c2 c) (fun _ => ?_)
          refine x_iconst (v := 1) dL_act_358 rfl ?_
          refine x_goto (tgt := 363) dL_act_359 (by decide) ?_
          refine e_isd (b := 1) (lv2 := [.ref x, .int X, .int (nI wh), .int (nI y), .int (nI (nLo σ)), .int (nI (nCl σ)), .int (nI j), .int (nI c), .int (nI (y / 12 % 16)), .int (nI (1 + y / 192 % 5)), .int (nI t), .int 1, .null, .null, .null, .null]) dL_act_363 (Nat.le_of_ble_eq_true rfl) rfl rfl rfl ?_
          refine x_aload_n dL_act_365 rfl ?_
          refine x_iload dL_act_366 rfl ?_
          refine x_iload dL_act_368 rfl ?_
          refine x_iload dL_act_370 rfl ?_
          refine l_xq dL_act_372 kX4_claim iX4_claim q473 hX (ct_do hX (fun _ _ _ a1 a2 a3 => x_claim (d + 1) a1 a2 a3 _ _ _) he (nng (by omega)) hq1) rfl rfl rfl (Nat.le_of_ble_eq_true rfl) ⟨Nat.le_refl _, Nat.le_refl _⟩ (fun h1 hX1 => ?_)
          refine e_isd (b := nI (nCl σ)) (lv2 := [.ref x, .int X, .int (nI wh), .int (nI y), .int (nI (nLo σ)), .int (nI (nCl σ)), .int (nI j), .int (nI c), .int (nI (y / 12 % 16)), .int (nI (1 + y / 192 % 5)), .int (nI t), .int 1, .int (nI (nCl σ)), .null, .null, .null]) dL_act_375 (Nat.le_of_ble_eq_true rfl) rfl rfl rfl ?_
          refine x_iload dL_act_377 rfl ?_
          refine x_if_ne (tgt := 398) dL_act_379 (by decide) (fun _ => ?_) (fun c => absurd c (by decide))
          refine x_iload dL_act_398 rfl ?_
          refine x_bipush (v := 30) dL_act_400 rfl ?_
          refine x_icmp_ne (tgt := 421) dL_act_402 (by decide) (fun _ => ?_) (fun c => absurd c (fun e => by have := nI_inj2 (b := 30) (by omega) (by decide) e; omega))
          refine x_iload dL_act_421 rfl ?_
          refine x_iload dL_act_423 rfl ?_
          refine x_icmp_ne (tgt := 494) dL_act_425 (by decide) (fun c => absurd rfl c) (fun _ => ?_)
          refine x_aload_n dL_act_428 rfl ?_
          refine x_iload dL_act_429 rfl ?_
          refine x_iconst (v := 0) dL_act_431 rfl ?_
          refine l_rd (v := nI (y / 12 % 16)) dL_act_432 kX4_ofClaim iX4_ofClaim q364 hX1 (fun _ _ _ a1 a2 a3 => x_ofClaim _ a1 a2 a3 _ _) rfl rfl rfl (Nat.le_of_ble_eq_true rfl) ⟨Nat.le_refl _, Nat.le_refl _⟩ ((ofC_n hq1.2.1.cok hk1).1.trans r5) ?_
          refine x_iload dL_act_435 rfl ?_
          refine x_icmp_ne (tgt := 494) dL_act_437 (by decide) (fun c => absurd rfl c) (fun _ => ?_)
          refine x_aload_n dL_act_440 rfl ?_
          refine x_iload dL_act_441 rfl ?_
          refine x_iconst (v := 1) dL_act_443 rfl ?_
          refine l_rd (v := nI j) dL_act_444 kX4_ofClaim iX4_ofClaim q364 hX1 (fun _ _ _ a1 a2 a3 => x_ofClaim _ a1 a2 a3 _ _) rfl rfl rfl (Nat.le_of_ble_eq_true rfl) ⟨Nat.le_refl _, Nat.le_refl _⟩ ((ofC_n hq1.2.1.cok hk1).2.1.trans r6) ?_
          refine x_iload dL_act_447 rfl ?_
          refine x_icmp_ne (tgt := 494) dL_act_449 (by decide) (fun c => absurd rfl c) (fun _ => ?_)
          refine x_aload_n dL_act_452 rfl ?_
          refine x_iload dL_act_453 rfl ?_
          refine x_iconst (v := 2) dL_act_455 rfl ?_
          refine l_rd (v := nI (1 + y / 192 % 5)) dL_act_456 kX4_ofClaim iX4_ofClaim q364 hX1 (fun _ _ _ a1 a2 a3 => x_ofClaim _ a1 a2 a3 _ _) rfl rfl rfl (Nat.le_of_ble_eq_true rfl) ⟨Nat.le_refl _, Nat.le_refl _⟩ ((ofC_n hq1.2.1.cok hk1).2.2.1.trans r7) ?_
          refine x_iload dL_act_459 rfl ?_
          refine x_icmp_ne (tgt := 494) dL_act_461 (by decide) (fun c => absurd rfl c) (fun _ => ?_)
          refine x_aload_n dL_act_464 rfl ?_
          refine x_iload dL_act_465 rfl ?_
          refine x_iconst (v := 4) dL_act_467 rfl ?_
          refine l_rd (v := 0) dL_act_468 kX4_ofClaim iX4_ofClaim q364 hX1 (fun _ _ _ a1 a2 a3 => x_ofClaim _ a1 a2 a3 _ _) rfl rfl rfl (Nat.le_of_ble_eq_true rfl) ⟨Nat.le_refl _, Nat.le_refl _⟩ ((ofC_n hq1.2.1.cok hk1).2.2.2.2.1.trans r9) ?_
          refine x_if_ne (tgt := 494) dL_act_471 (by decide) (fun c => absurd (by decide) c) (fun _ => ?_)
          refine x_aload_n dL_act_474 rfl ?_
          refine x_iload dL_act_475 rfl ?_
          refine x_iconst (v := 4) dL_act_477 rfl ?_
          refine l_rd (v := cStandTo τ1 (nI j)) dL_act_478 kX4_of iX4_of q309 hX1 (fun _ _ _ a1 a2 a3 => x_of _ a1 a2 a3 _ _) rfl rfl rfl (Nat.le_of_ble_eq_true rfl) ⟨Nat.le_refl _, Nat.le_refl _⟩ ((of_n hq1.2.1.lok (j := j) (by omega)).2.2.2.2.1) ?_
          refine x_iload dL_act_481 rfl ?_
          refine x_ishr dL_act_483 ?_
          refine x_iconst (v := 1) dL_act_484 rfl ?_
          refine x_iand dL_act_485 ?_
          refine x_iconst (v := 1) dL_act_486 rfl ?_
          refine x_icmp_ne (tgt := 494) dL_act_487 (by decide) (fun c => absurd (told_bit hq1 hk1 r6 r9) c) (fun _ => ?_)
          refine x_iconst (v := 1) dL_act_490 rfl ?_
          refine x_goto (tgt := 496) dL_act_491 (by decide) ?_
          refine x_iret dL_act_496 (Or.inl rfl) rfl (Nat.le_refl _) ?_
          exact ⟨_, rfl, Or.inr ⟨rfl, _, hX1⟩⟩
        refine x_iload dL_act_300 rfl ?_
        refine x_iconst (v := 2) dL_act_302 rfl ?_
        refine x_icmp_lt (tgt := 328) dL_act_303 (by decide) (fun c303 => ?_) (fun c303 => ?_)
        · exact j328
        · refine x_iload dL_act_306 rfl ?_
          refine x_iconst (v := 3) dL_act_308 rfl ?_
          refine x_icmp_ne (tgt := 332) dL_act_309 (by decide) (fun c => absurd ((cn2 c1 c303).1) c) (fun _ => ?_)
          refine x_aload_n dL_act_312 rfl ?_
          refine x_iload dL_act_313 rfl ?_
          refine x_iconst (v := 3) dL_act_315 rfl ?_
          refine l_rd (v := σ 4 j) dL_act_316 kX4_of iX4_of q309 hX (fun _ _ _ a1 a2 a3 => x_of _ a1 a2 a3 _ _) rfl rfl rfl (Nat.le_of_ble_eq_true rfl) ⟨Nat.le_refl _, Nat.le_refl _⟩ ((of_n hQ.2.1.lok hj).2.2.2.1) ?_
          refine x_aload_n dL_act_319 rfl ?_
          refine x_bipush (v := 17) dL_act_320 rfl ?_
          refine l_cn (v := σ 0 3) dL_act_322 q201 hX (Nat.le_of_ble_eq_true rfl) ⟨Nat.le_refl _, Nat.le_refl _⟩ (fun _ _ => xn_17 _ _) ?_
          refine x_icmp_gt (tgt := 332) dL_act_325 (by decide) (fun c => absurd c (Int32.not_lt.mpr (cn2 c1 c303).2)) (fun _ => ?_)
          exact j328
      · have j328 : Ev st (d + 8) yL_act cL_act 16 (some .int) (z, h) 0 0 (AQ z x σ n τ sl sv) 328 [.ref x, .int X, .int (nI wh), .int (nI y), .int (nI (nLo σ)), .int (nI (nCl σ)), .int (nI j), .int (nI c), .int (nI (y / 12 % 16)), .int (nI (1 + y / 192 % 5)), .int (nI t), .null, .null, .null, .null, .null] [] (z, h) 0 0 := by
          refine x_iconst (v := 1) dL_act_328 rfl ?_
          refine x_goto (tgt := 333) dL_act_329 (by decide) ?_
          refine e_isd (b := 1) (lv2 := [.ref x, .int X, .int (nI wh), .int (nI y), .int (nI (nLo σ)), .int (nI (nCl σ)), .int (nI j), .int (nI c), .int (nI (y / 12 % 16)), .int (nI (1 + y / 192 % 5)), .int (nI t), .int 1, .null, .null, .null, .null]) dL_act_333 (Nat.le_of_ble_eq_true rfl) rfl rfl rfl ?_
          refine x_iload dL_act_335 rfl ?_
          refine x_if_eq (tgt := 362) dL_act_337 (by decide) (fun c => absurd c (by decide)) (fun _ => ?_)
          refine x_aload_n dL_act_340 rfl ?_
          refine x_iload dL_act_341 rfl ?_
          refine x_iconst (v := 4) dL_act_343 rfl ?_
          refine l_rd (v := cStandTo σ (nI j)) dL_act_344 kX4_of iX4_of q309 hX (fun _ _ _ a1 a2 a3 => x_of _ a1 a2 a3 _ _) rfl rfl rfl (Nat.le_of_ble_eq_true rfl) ⟨Nat.le_refl _, Nat.le_refl _⟩ ((of_n hQ.2.1.lok hj).2.2.2.2.1) ?_
          refine x_aload_n dL_act_347 rfl ?_
          refine x_iload dL_act_348 rfl ?_
          refine x_iconst (v := 2) dL_act_350 rfl ?_
          refine l_rd (v := (cOfHeir σ (nI (y / 12 % 16)) &&& cStanding σ)) dL_act_351 kX4_heir iX4_heir q340 hX (fun _ _ _ a1 a2 a3 => x_heir _ a1 a2 a3 _ _) rfl rfl rfl (Nat.le_of_ble_eq_true rfl) ⟨Nat.le_refl _, Nat.le_refl _⟩ ((heir_n σ hg).2.2.1) ?_
          refine x_iand dL_act_354 ?_
          refine x_if_ne (tgt := 362) dL_act_355 (by decide) (fun c => absurd c2 c) (fun _ => ?_)
          refine x_iconst (v := 1) dL_act_358 rfl ?_
          refine x_goto (tgt := 363) dL_act_359 (by decide) ?_
          refine e_isd (b := 1) (lv2 := [.ref x, .int X, .int (nI wh), .int (nI y), .int (nI (nLo σ)), .int (nI (nCl σ)), .int (nI j), .int (nI c), .int (nI (y / 12 % 16)), .int (nI (1 + y / 192 % 5)), .int (nI t), .int 1, .null, .null, .null, .null]) dL_act_363 (Nat.le_of_ble_eq_true rfl) rfl rfl rfl ?_
          refine x_aload_n dL_act_365 rfl ?_
          refine x_iload dL_act_366 rfl ?_
          refine x_iload dL_act_368 rfl ?_
          refine x_iload dL_act_370 rfl ?_
          refine l_xq dL_act_372 kX4_claim iX4_claim q473 hX (ct_no hX (fun _ _ _ a1 a2 a3 => x_claim (d + 1) a1 a2 a3 _ _ _) ((dc.2 ⟨c1, c2⟩).1 q30) (by decide)) rfl rfl rfl (Nat.le_of_ble_eq_true rfl) ⟨Nat.le_refl _, Nat.le_refl _⟩ (fun h2 hX2 => ?_)
          refine e_isd (b := (-4)) (lv2 := [.ref x, .int X, .int (nI wh), .int (nI y), .int (nI (nLo σ)), .int (nI (nCl σ)), .int (nI j), .int (nI c), .int (nI (y / 12 % 16)), .int (nI (1 + y / 192 % 5)), .int (nI t), .int 1, .int (-4), .null, .null, .null]) dL_act_375 (Nat.le_of_ble_eq_true rfl) rfl rfl rfl ?_
          refine x_iload dL_act_377 rfl ?_
          refine x_if_ne (tgt := 398) dL_act_379 (by decide) (fun _ => ?_) (fun c => absurd c (by decide))
          refine x_iload dL_act_398 rfl ?_
          refine x_bipush (v := 30) dL_act_400 rfl ?_
          refine x_icmp_ne (tgt := 421) dL_act_402 (by decide) (fun c => absurd (by rw [show nCl σ = 30 by omega]; rfl) c) (fun _ => ?_)
          refine x_iload dL_act_405 rfl ?_
          refine x_bipush (v := (-4)) dL_act_407 rfl ?_
          refine x_icmp_ne (tgt := 416) dL_act_409 (by decide) (fun c => absurd (by decide) c) (fun _ => ?_)
          refine x_iconst (v := 0) dL_act_412 rfl ?_
          refine x_goto (tgt := 496) dL_act_413 (by decide) ?_
          refine x_iret dL_act_496 (Or.inl rfl) rfl (Nat.le_refl _) ?_
          exact ⟨_, rfl, Or.inl ⟨rfl, hX2⟩⟩
        refine x_iload dL_act_300 rfl ?_
        refine x_iconst (v := 2) dL_act_302 rfl ?_
        refine x_icmp_lt (tgt := 328) dL_act_303 (by decide) (fun c303 => ?_) (fun c303 => ?_)
        · exact j328
        · refine x_iload dL_act_306 rfl ?_
          refine x_iconst (v := 3) dL_act_308 rfl ?_
          refine x_icmp_ne (tgt := 332) dL_act_309 (by decide) (fun c => absurd ((cn2 c1 c303).1) c) (fun _ => ?_)
          refine x_aload_n dL_act_312 rfl ?_
          refine x_iload dL_act_313 rfl ?_
          refine x_iconst (v := 3) dL_act_315 rfl ?_
          refine l_rd (v := σ 4 j) dL_act_316 kX4_of iX4_of q309 hX (fun _ _ _ a1 a2 a3 => x_of _ a1 a2 a3 _ _) rfl rfl rfl (Nat.le_of_ble_eq_true rfl) ⟨Nat.le_refl _, Nat.le_refl _⟩ ((of_n hQ.2.1.lok hj).2.2.2.1) ?_
          refine x_aload_n dL_act_319 rfl ?_
          refine x_bipush (v := 17) dL_act_320 rfl ?_
          refine l_cn (v := σ 0 3) dL_act_322 q201 hX (Nat.le_of_ble_eq_true rfl) ⟨Nat.le_refl _, Nat.le_refl _⟩ (fun _ _ => xn_17 _ _) ?_
          refine x_icmp_gt (tgt := 332) dL_act_325 (by decide) (fun c => absurd c (Int32.not_lt.mpr (cn2 c1 c303).2)) (fun _ => ?_)
          exact j328
    · have j328 : Ev st (d + 8) yL_act cL_act 16 (some .int) (z, h) 0 0 (AQ z x σ n τ sl sv) 328 [.ref x, .int X, .int (nI wh), .int (nI y), .int (nI (nLo σ)), .int (nI (nCl σ)), .int (nI j), .int (nI c), .int (nI (y / 12 % 16)), .int (nI (1 + y / 192 % 5)), .int (nI t), .null, .null, .null, .null, .null] [] (z, h) 0 0 := by
        refine x_iconst (v := 1) dL_act_328 rfl ?_
        refine x_goto (tgt := 333) dL_act_329 (by decide) ?_
        refine e_isd (b := 1) (lv2 := [.ref x, .int X, .int (nI wh), .int (nI y), .int (nI (nLo σ)), .int (nI (nCl σ)), .int (nI j), .int (nI c), .int (nI (y / 12 % 16)), .int (nI (1 + y / 192 % 5)), .int (nI t), .int 1, .null, .null, .null, .null]) dL_act_333 (Nat.le_of_ble_eq_true rfl) rfl rfl rfl ?_
        refine x_iload dL_act_335 rfl ?_
        refine x_if_eq (tgt := 362) dL_act_337 (by decide) (fun c => absurd c (by decide)) (fun _ => ?_)
        refine x_aload_n dL_act_340 rfl ?_
        refine x_iload dL_act_341 rfl ?_
        refine x_iconst (v := 4) dL_act_343 rfl ?_
        refine l_rd (v := cStandTo σ (nI j)) dL_act_344 kX4_of iX4_of q309 hX (fun _ _ _ a1 a2 a3 => x_of _ a1 a2 a3 _ _) rfl rfl rfl (Nat.le_of_ble_eq_true rfl) ⟨Nat.le_refl _, Nat.le_refl _⟩ ((of_n hQ.2.1.lok hj).2.2.2.2.1) ?_
        refine x_aload_n dL_act_347 rfl ?_
        refine x_iload dL_act_348 rfl ?_
        refine x_iconst (v := 2) dL_act_350 rfl ?_
        refine l_rd (v := (cOfHeir σ (nI (y / 12 % 16)) &&& cStanding σ)) dL_act_351 kX4_heir iX4_heir q340 hX (fun _ _ _ a1 a2 a3 => x_heir _ a1 a2 a3 _ _) rfl rfl rfl (Nat.le_of_ble_eq_true rfl) ⟨Nat.le_refl _, Nat.le_refl _⟩ ((heir_n σ hg).2.2.1) ?_
        refine x_iand dL_act_354 ?_
        refine x_if_ne (tgt := 362) dL_act_355 (by decide) (fun _ => ?_) (fun c => absurd c c2)
        refine x_iconst (v := 0) dL_act_362 rfl ?_
        refine e_isd (b := 0) (lv2 := [.ref x, .int X, .int (nI wh), .int (nI y), .int (nI (nLo σ)), .int (nI (nCl σ)), .int (nI j), .int (nI c), .int (nI (y / 12 % 16)), .int (nI (1 + y / 192 % 5)), .int (nI t), .int 0, .null, .null, .null, .null]) dL_act_363 (Nat.le_of_ble_eq_true rfl) rfl rfl rfl ?_
        refine x_aload_n dL_act_365 rfl ?_
        refine x_iload dL_act_366 rfl ?_
        refine x_iload dL_act_368 rfl ?_
        refine x_iload dL_act_370 rfl ?_
        refine l_xq dL_act_372 kX4_claim iX4_claim q473 hX (ct_no hX (fun _ _ _ a1 a2 a3 => x_claim (d + 1) a1 a2 a3 _ _ _) (dc.1 (fun e => c2 e.2)) (by decide)) rfl rfl rfl (Nat.le_of_ble_eq_true rfl) ⟨Nat.le_refl _, Nat.le_refl _⟩ (fun h3 hX3 => ?_)
        refine e_isd (b := (-5)) (lv2 := [.ref x, .int X, .int (nI wh), .int (nI y), .int (nI (nLo σ)), .int (nI (nCl σ)), .int (nI j), .int (nI c), .int (nI (y / 12 % 16)), .int (nI (1 + y / 192 % 5)), .int (nI t), .int 0, .int (-5), .null, .null, .null]) dL_act_375 (Nat.le_of_ble_eq_true rfl) rfl rfl rfl ?_
        refine x_iload dL_act_377 rfl ?_
        refine x_if_ne (tgt := 398) dL_act_379 (by decide) (fun c => absurd (by decide) c) (fun _ => ?_)
        refine x_iload dL_act_382 rfl ?_
        refine x_bipush (v := (-5)) dL_act_384 rfl ?_
        refine x_icmp_ne (tgt := 393) dL_act_386 (by decide) (fun c => absurd (by decide) c) (fun _ => ?_)
        refine x_iconst (v := 0) dL_act_389 rfl ?_
        refine x_goto (tgt := 496) dL_act_390 (by decide) ?_
        refine x_iret dL_act_496 (Or.inl rfl) rfl (Nat.le_refl _) ?_
        exact ⟨_, rfl, Or.inl ⟨rfl, hX3⟩⟩
      refine x_iload dL_act_300 rfl ?_
      refine x_iconst (v := 2) dL_act_302 rfl ?_
      refine x_icmp_lt (tgt := 328) dL_act_303 (by decide) (fun c303 => ?_) (fun c303 => ?_)
      · exact j328
      · refine x_iload dL_act_306 rfl ?_
        refine x_iconst (v := 3) dL_act_308 rfl ?_
        refine x_icmp_ne (tgt := 332) dL_act_309 (by decide) (fun c => absurd ((cn2 c1 c303).1) c) (fun _ => ?_)
        refine x_aload_n dL_act_312 rfl ?_
        refine x_iload dL_act_313 rfl ?_
        refine x_iconst (v := 3) dL_act_315 rfl ?_
        refine l_rd (v := σ 4 j) dL_act_316 kX4_of iX4_of q309 hX (fun _ _ _ a1 a2 a3 => x_of _ a1 a2 a3 _ _) rfl rfl rfl (Nat.le_of_ble_eq_true rfl) ⟨Nat.le_refl _, Nat.le_refl _⟩ ((of_n hQ.2.1.lok hj).2.2.2.1) ?_
        refine x_aload_n dL_act_319 rfl ?_
        refine x_bipush (v := 17) dL_act_320 rfl ?_
        refine l_cn (v := σ 0 3) dL_act_322 q201 hX (Nat.le_of_ble_eq_true rfl) ⟨Nat.le_refl _, Nat.le_refl _⟩ (fun _ _ => xn_17 _ _) ?_
        refine x_icmp_gt (tgt := 332) dL_act_325 (by decide) (fun c => absurd c (Int32.not_lt.mpr (cn2 c1 c303).2)) (fun _ => ?_)
        exact j328
  · have j332 : Ev st (d + 8) yL_act cL_act 16 (some .int) (z, h) 0 0 (AQ z x σ n τ sl sv) 332 [.ref x, .int X, .int (nI wh), .int (nI y), .int (nI (nLo σ)), .int (nI (nCl σ)), .int (nI j), .int (nI c), .int (nI (y / 12 % 16)), .int (nI (1 + y / 192 % 5)), .int (nI t), .null, .null, .null, .null, .null] [] (z, h) 0 0 := by
      refine x_iconst (v := 0) dL_act_332 rfl ?_
      refine e_isd (b := 0) (lv2 := [.ref x, .int X, .int (nI wh), .int (nI y), .int (nI (nLo σ)), .int (nI (nCl σ)), .int (nI j), .int (nI c), .int (nI (y / 12 % 16)), .int (nI (1 + y / 192 % 5)), .int (nI t), .int 0, .null, .null, .null, .null]) dL_act_333 (Nat.le_of_ble_eq_true rfl) rfl rfl rfl ?_
      refine x_iload dL_act_335 rfl ?_
      refine x_if_eq (tgt := 362) dL_act_337 (by decide) (fun _ => ?_) (fun c => absurd (by decide) c)
      refine x_iconst (v := 0) dL_act_362 rfl ?_
      refine e_isd (b := 0) (lv2 := [.ref x, .int X, .int (nI wh), .int (nI y), .int (nI (nLo σ)), .int (nI (nCl σ)), .int (nI j), .int (nI c), .int (nI (y / 12 % 16)), .int (nI (1 + y / 192 % 5)), .int (nI t), .int 0, .null, .null, .null, .null]) dL_act_363 (Nat.le_of_ble_eq_true rfl) rfl rfl rfl ?_
      refine x_aload_n dL_act_365 rfl ?_
      refine x_iload dL_act_366 rfl ?_
      refine x_iload dL_act_368 rfl ?_
      refine x_iload dL_act_370 rfl ?_
      refine l_xq dL_act_372 kX4_claim iX4_claim q473 hX (ct_no hX (fun _ _ _ a1 a2 a3 => x_claim (d + 1) a1 a2 a3 _ _ _) (dc.1 (fun e => c1 e.1)) (by decide)) rfl rfl rfl (Nat.le_of_ble_eq_true rfl) ⟨Nat.le_refl _, Nat.le_refl _⟩ (fun h4 hX4 => ?_)
      refine e_isd (b := (-5)) (lv2 := [.ref x, .int X, .int (nI wh), .int (nI y), .int (nI (nLo σ)), .int (nI (nCl σ)), .int (nI j), .int (nI c), .int (nI (y / 12 % 16)), .int (nI (1 + y / 192 % 5)), .int (nI t), .int 0, .int (-5), .null, .null, .null]) dL_act_375 (Nat.le_of_ble_eq_true rfl) rfl rfl rfl ?_
      refine x_iload dL_act_377 rfl ?_
      refine x_if_ne (tgt := 398) dL_act_379 (by decide) (fun c => absurd (by decide) c) (fun _ => ?_)
      refine x_iload dL_act_382 rfl ?_
      refine x_bipush (v := (-5)) dL_act_384 rfl ?_
      refine x_icmp_ne (tgt := 393) dL_act_386 (by decide) (fun c => absurd (by decide) c) (fun _ => ?_)
      refine x_iconst (v := 0) dL_act_389 rfl ?_
      refine x_goto (tgt := 496) dL_act_390 (by decide) ?_
      refine x_iret dL_act_496 (Or.inl rfl) rfl (Nat.le_refl _) ?_
      exact ⟨_, rfl, Or.inl ⟨rfl, hX4⟩⟩
    refine x_iload dL_act_300 rfl ?_
    refine x_iconst (v := 2) dL_act_302 rfl ?_
    refine x_icmp_lt (tgt := 328) dL_act_303 (by decide) (fun c => absurd c (fun e => c1 (cn1 e))) (fun _ => ?_)
    refine x_iload dL_act_306 rfl ?_
    refine x_iconst (v := 3) dL_act_308 rfl ?_
    refine x_icmp_ne (tgt := 332) dL_act_309 (by decide) (fun c309 => ?_) (fun c309 => ?_)
    · exact j332
    · refine x_aload_n dL_act_312 rfl ?_
      refine x_iload dL_act_313 rfl ?_
      refine x_iconst (v := 3) dL_act_315 rfl ?_
      refine l_rd (v := σ 4 j) dL_act_316 kX4_of iX4_of q309 hX (fun _ _ _ a1 a2 a3 => x_of _ a1 a2 a3 _ _) rfl rfl rfl (Nat.le_of_ble_eq_true rfl) ⟨Nat.le_refl _, Nat.le_refl _⟩ ((of_n hQ.2.1.lok hj).2.2.2.1) ?_
      refine x_aload_n dL_act_319 rfl ?_
      refine x_bipush (v := 17) dL_act_320 rfl ?_
      refine l_cn (v := σ 0 3) dL_act_322 q201 hX (Nat.le_of_ble_eq_true rfl) ⟨Nat.le_refl _, Nat.le_refl _⟩ (fun _ _ => xn_17 _ _) ?_
      refine x_icmp_gt (tgt := 332) dL_act_325 (by decide) (fun _ => ?_) (fun c => absurd (Int32.not_le.mp fun e => c1 (cn3 (by first | exact c309 | exact Classical.byContradiction c309) e)) c)
      exact j332
