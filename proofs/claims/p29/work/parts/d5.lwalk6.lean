/-! HELPERS OF THE LAW: act on a claim -/

set_option maxRecDepth 100000 in
set_option maxHeartbeats 8000000 in
theorem A_prove {st : Nat → Nat} (d : Nat) {z : Nat} {h : Nat → Option va_E} {x : Nat} {σ τ : Sg} {n : Nat} {sl : Nat → Sg} {sv : Nat → Int32} (hX : XS h x σ n τ sl sv) {X : Int32} {wh y j c : Nat} (hy : y < 2 ^ 31) (hc : c < nCl σ) {w a : Nat} (hw : w < 6) (e9 : σ 9 c = nI w) (ha : a ≤ 100) (e8 : σ 8 c = nI a)  : Ev st (d + 8) yL_act cL_act 16 (some .int) (z, h) 0 0 (AQ z x σ n τ sl sv) 532 [.ref x, .int X, .int (nI wh), .int (nI y), .int (nI (nLo σ)), .int (nI (nCl σ)), .int (nI j), .int (nI c), .int (nI w), .int (nI a), .null, .null, .null, .null, .null, .null] [] (z, h) 0 0 := by
  have hQ := hX.q
  obtain ⟨_, _, pv3⟩ := clV_in hy
  have dp := do_prove hQ hc (p := 1 + y / 30 % 100) (by omega) (by omega)
  refine x_iconst (v := 1) dL_act_532 rfl ?_
  refine x_iload_n dL_act_533 rfl ?_
  refine x_bipush (v := 30) dL_act_534 rfl ?_
  refine x_idiv dL_act_536 (by decide) ?_
  refine x_bipush (v := 100) dL_act_537 rfl ?_
  refine x_irem dL_act_539 (by decide) ?_
  refine x_iadd dL_act_540 ?_
  refine e_isd (b := nI (1 + y / 30 % 100)) (lv2 := [.ref x, .int X, .int (nI wh), .int (nI y), .int (nI (nLo σ)), .int (nI (nCl σ)), .int (nI j), .int (nI c), .int (nI w), .int (nI a), .int (nI (1 + y / 30 % 100)), .null, .null, .null, .null, .null]) dL_act_541 (Nat.le_of_ble_eq_true rfl) rfl pv3 rfl ?_
  by_cases q9 : σ 9 c = 0
  · obtain ⟨a2, τ1, ha2, e82, he, hq1, ec, el, r8, r10⟩ := dp.2 q9
    have ea : a2 = a := nI_inj2 (by omega) (by omega) (e82.symm.trans e8)
    rw [ea] at he r8
    have hc1 : c < nCl τ1 := by omega
    have pj1 : nI a + nI (1 + y / 30 % 100) ≤ 100 → nI a + nI (1 + y / 30 % 100) = nI (if a + (1 + y / 30 % 100) < 100 then a + (1 + y / 30 % 100) else 100) := fun q => by
      rw [nI_add, show (100 : Int32) = nI 100 from rfl, nI_leI (by omega) (by decide)] at q
      rw [nI_add]
      congr 1
      split <;> omega
    have pj2 : ¬ nI a + nI (1 + y / 30 % 100) ≤ 100 → (100 : Int32) = nI (if a + (1 + y / 30 % 100) < 100 then a + (1 + y / 30 % 100) else 100) := fun q => by
      rw [nI_add, show (100 : Int32) = nI 100 from rfl, nI_leI (by omega) (by decide)] at q
      rw [if_neg (by omega)]
      rfl
    refine x_aload_n dL_act_543 rfl ?_
    refine x_iload dL_act_544 rfl ?_
    refine x_iload dL_act_546 rfl ?_
    refine l_xq dL_act_548 kX4_prove iX4_prove q489 hX (ct_do hX (fun _ _ _ a1 a2 a3 => x_prove (d + 1) a1 a2 a3 _ _) he (nng (by split <;> omega)) hq1) rfl rfl rfl (Nat.le_of_ble_eq_true rfl) ⟨Nat.le_refl _, Nat.le_refl _⟩ (fun h1 hX1 => ?_)
    refine e_isd (b := (nI (if a + (1 + y / 30 % 100) < 100 then a + (1 + y / 30 % 100) else 100))) (lv2 := [.ref x, .int X, .int (nI wh), .int (nI y), .int (nI (nLo σ)), .int (nI (nCl σ)), .int (nI j), .int (nI c), .int (nI w), .int (nI a), .int (nI (1 + y / 30 % 100)), .int (nI (if a + (1 + y / 30 % 100) < 100 then a + (1 + y / 30 % 100) else 100)), .null, .null, .null, .null]) dL_act_551 (Nat.le_of_ble_eq_true rfl) rfl rfl rfl ?_
    refine x_iload dL_act_553 rfl ?_
    refine x_if_eq (tgt := 574) dL_act_555 (by decide) (fun _ => ?_) (fun c => absurd (e9.symm.trans q9) c)
    refine x_iload dL_act_574 rfl ?_
    have j596 : Ev st (d + 8) yL_act cL_act 16 (some .int) (z, h) 0 0 (AQ z x σ n τ sl sv) 596 [.ref x, .int X, .int (nI wh), .int (nI y), .int (nI (nLo σ)), .int (nI (nCl σ)), .int (nI j), .int (nI c), .int (nI w), .int (nI a), .int (nI (1 + y / 30 % 100)), .int (nI (if a + (1 + y / 30 % 100) < 100 then a + (1 + y / 30 % 100) else 100)), .null, .null, .null, .null] [.int (nI (if a + (1 + y / 30 % 100) < 100 then a + (1 + y / 30 % 100) else 100)), .int (nI (if a + (1 + y / 30 % 100) < 100 then a + (1 + y / 30 % 100) else 100))] (z, h1) 0 0 := by
      refine x_icmp_ne (tgt := 625) dL_act_596 (by decide) (fun c => absurd rfl c) (fun _ => ?_)
      refine x_aload_n dL_act_599 rfl ?_
      refine x_iload dL_act_600 rfl ?_
      refine x_iconst (v := 3) dL_act_602 rfl ?_
      refine l_rd (v := nI (if a + (1 + y / 30 % 100) < 100 then a + (1 + y / 30 % 100) else 100)) dL_act_603 kX4_ofClaim iX4_ofClaim q364 hX1 (fun _ _ _ a1 a2 a3 => x_ofClaim _ a1 a2 a3 _ _) rfl rfl rfl (Nat.le_of_ble_eq_true rfl) ⟨Nat.le_refl _, Nat.le_refl _⟩ ((ofC_n hq1.2.1.cok hc1).2.2.2.1.trans r8) ?_
      refine x_iload dL_act_606 rfl ?_
      refine x_icmp_ne (tgt := 625) dL_act_608 (by decide) (fun c => absurd rfl c) (fun _ => ?_)
      refine x_aload_n dL_act_611 rfl ?_
      refine x_iload dL_act_612 rfl ?_
      refine x_iconst (v := 5) dL_act_614 rfl ?_
      refine l_rd (v := 0) dL_act_615 kX4_ofClaim iX4_ofClaim q364 hX1 (fun _ _ _ a1 a2 a3 => x_ofClaim _ a1 a2 a3 _ _) rfl rfl rfl (Nat.le_of_ble_eq_true rfl) ⟨Nat.le_refl _, Nat.le_refl _⟩ ((ofC_n hq1.2.1.cok hc1).2.2.2.2.2.1.trans r10) ?_
      refine x_if_ne (tgt := 625) dL_act_618 (by decide) (fun c => absurd (by decide) c) (fun _ => ?_)
      refine x_iconst (v := 1) dL_act_621 rfl ?_
      refine x_goto (tgt := 627) dL_act_622 (by decide) ?_
      refine x_iret dL_act_627 (Or.inl rfl) rfl (Nat.le_refl _) ?_
      exact ⟨_, rfl, Or.inr ⟨rfl, _, hX1⟩⟩
    refine x_iload dL_act_576 rfl ?_
    refine x_iload dL_act_578 rfl ?_
    refine x_iadd dL_act_580 ?_
    refine x_bipush (v := 100) dL_act_581 rfl ?_
    refine x_icmp_le (tgt := 591) dL_act_583 (by decide) (fun c583 => ?_) (fun c583 => ?_)
    · refine x_iload dL_act_591 rfl ?_
      refine x_iload dL_act_593 rfl ?_
      refine x_iadd dL_act_595 ?_
      exact e_top (b := nI (if a + (1 + y / 30 % 100) < 100 then a + (1 + y / 30 % 100) else 100)) (by first | exact pj1 c583 | exact pj2 c583) j596
    · refine x_bipush (v := 100) dL_act_586 rfl ?_
      refine x_goto (tgt := 596) dL_act_588 (by decide) ?_
      exact e_top (b := nI (if a + (1 + y / 30 % 100) < 100 then a + (1 + y / 30 % 100) else 100)) (by first | exact pj1 c583 | exact pj2 c583) j596
  · refine x_aload_n dL_act_543 rfl ?_
    refine x_iload dL_act_544 rfl ?_
    refine x_iload dL_act_546 rfl ?_
    refine l_xq dL_act_548 kX4_prove iX4_prove q489 hX (ct_no hX (fun _ _ _ a1 a2 a3 => x_prove (d + 1) a1 a2 a3 _ _) (dp.1 q9) (by decide)) rfl rfl rfl (Nat.le_of_ble_eq_true rfl) ⟨Nat.le_refl _, Nat.le_refl _⟩ (fun h2 hX2 => ?_)
    refine e_isd (b := (-5)) (lv2 := [.ref x, .int X, .int (nI wh), .int (nI y), .int (nI (nLo σ)), .int (nI (nCl σ)), .int (nI j), .int (nI c), .int (nI w), .int (nI a), .int (nI (1 + y / 30 % 100)), .int (-5), .null, .null, .null, .null]) dL_act_551 (Nat.le_of_ble_eq_true rfl) rfl rfl rfl ?_
    refine x_iload dL_act_553 rfl ?_
    refine x_if_eq (tgt := 574) dL_act_555 (by decide) (fun c => absurd c (fun e => q9 (e9.trans e))) (fun _ => ?_)
    refine x_iload dL_act_558 rfl ?_
    refine x_bipush (v := (-5)) dL_act_560 rfl ?_
    refine x_icmp_ne (tgt := 569) dL_act_562 (by decide) (fun c => absurd (by decide) c) (fun _ => ?_)
    refine x_iconst (v := 0) dL_act_565 rfl ?_
    refine x_goto (tgt := 627) dL_act_566 (by decide) ?_
    refine x_iret dL_act_627 (Or.inl rfl) rfl (Nat.le_refl _) ?_
    exact ⟨_, rfl, Or.inl ⟨rfl, hX2⟩⟩

set_option maxRecDepth 100000 in
set_option maxHeartbeats 8000000 in
theorem A_decide {st : Nat → Nat} (d : Nat) {z : Nat} {h : Nat → Option va_E} {x : Nat} {σ τ : Sg} {n : Nat} {sl : Nat → Sg} {sv : Nat → Int32} (hX : XS h x σ n τ sl sv) {X : Int32} {wh y j c : Nat} (hy : y < 2 ^ 31) (hc : c < nCl σ) {w a : Nat} (hw : w < 6) (e9 : σ 9 c = nI w) (ha : a ≤ 100) (e8 : σ 8 c = nI a)  : Ev st (d + 8) yL_act cL_act 16 (some .int) (z, h) 0 0 (AQ z x σ n τ sl sv) 634 [.ref x, .int X, .int (nI wh), .int (nI y), .int (nI (nLo σ)), .int (nI (nCl σ)), .int (nI j), .int (nI c), .int (nI w), .int (nI a), .null, .null, .null, .null, .null, .null] [] (z, h) 0 0 := by
  have hQ := hX.q
  have dd := do_decide hQ hc
  rw [e8] at dd
  have j650 : Ev st (d + 8) yL_act cL_act 16 (some .int) (z, h) 0 0 (AQ z x σ n τ sl sv) 650 [.ref x, .int X, .int (nI wh), .int (nI y), .int (nI (nLo σ)), .int (nI (nCl σ)), .int (nI j), .int (nI c), .int (nI w), .int (nI a), .null, .null, .null, .null, .null, .null] [.int (if nI a < σ 0 1 then 2 else 1)] (z, h) 0 0 := by
    refine e_isd (b := (if nI a < σ 0 1 then 2 else 1)) (lv2 := [.ref x, .int X, .int (nI wh), .int (nI y), .int (nI (nLo σ)), .int (nI (nCl σ)), .int (nI j), .int (nI c), .int (nI w), .int (nI a), .int (if nI a < σ 0 1 then 2 else 1), .null, .null, .null, .null, .null]) dL_act_650 (Nat.le_of_ble_eq_true rfl) rfl rfl rfl ?_
    by_cases q9 : σ 9 c = 0
    · obtain ⟨τ1, he, hq1, ec, el, r9⟩ := dd.2 q9
      have hc1 : c < nCl τ1 := by omega
      refine x_aload_n dL_act_652 rfl ?_
      refine x_iload dL_act_653 rfl ?_
      refine l_xq dL_act_655 kX4_decide iX4_decide q498 hX (ct_do hX (fun _ _ _ a1 a2 a3 => x_decide (d + 1) a1 a2 a3 _) he (by split <;> decide) hq1) rfl rfl rfl (Nat.le_of_ble_eq_true rfl) ⟨Nat.le_refl _, Nat.le_refl _⟩ (fun h1 hX1 => ?_)
      refine e_isd (b := (if nI a < σ 0 1 then 2 else 1)) (lv2 := [.ref x, .int X, .int (nI wh), .int (nI y), .int (nI (nLo σ)), .int (nI (nCl σ)), .int (nI j), .int (nI c), .int (nI w), .int (nI a), .int (if nI a < σ 0 1 then 2 else 1), .int (if nI a < σ 0 1 then 2 else 1), .null, .null, .null, .null]) dL_act_658 (Nat.le_of_ble_eq_true rfl) rfl rfl rfl ?_
      refine x_iload dL_act_660 rfl ?_
      refine x_if_eq (tgt := 681) dL_act_662 (by decide) (fun _ => ?_) (fun c => absurd (e9.symm.trans q9) c)
      refine x_iload dL_act_681 rfl ?_
      refine x_iload dL_act_683 rfl ?_
      refine x_icmp_ne (tgt := 704) dL_act_685 (by decide) (fun c => absurd rfl c) (fun _ => ?_)
      refine x_aload_n dL_act_688 rfl ?_
      refine x_iload dL_act_689 rfl ?_
      refine x_iconst (v := 4) dL_act_691 rfl ?_
      refine l_rd (v := (if nI a < σ 0 1 then 2 else 1)) dL_act_692 kX4_ofClaim iX4_ofClaim q364 hX1 (fun _ _ _ a1 a2 a3 => x_ofClaim _ a1 a2 a3 _ _) rfl rfl rfl (Nat.le_of_ble_eq_true rfl) ⟨Nat.le_refl _, Nat.le_refl _⟩ ((ofC_n hq1.2.1.cok hc1).2.2.2.2.1.trans r9) ?_
      refine x_iload dL_act_695 rfl ?_
      refine x_icmp_ne (tgt := 704) dL_act_697 (by decide) (fun c => absurd rfl c) (fun _ => ?_)
      refine x_iconst (v := 1) dL_act_700 rfl ?_
      refine x_goto (tgt := 706) dL_act_701 (by decide) ?_
      refine x_iret dL_act_706 (Or.inl rfl) rfl (Nat.le_refl _) ?_
      exact ⟨_, rfl, Or.inr ⟨rfl, _, hX1⟩⟩
    · refine x_aload_n dL_act_652 rfl ?_
      refine x_iload dL_act_653 rfl ?_
      refine l_xq dL_act_655 kX4_decide iX4_decide q498 hX (ct_no hX (fun _ _ _ a1 a2 a3 => x_decide (d + 1) a1 a2 a3 _) (dd.1 q9) (by decide)) rfl rfl rfl (Nat.le_of_ble_eq_true rfl) ⟨Nat.le_refl _, Nat.le_refl _⟩ (fun h2 hX2 => ?_)
      refine e_isd (b := (-5)) (lv2 := [.ref x, .int X, .int (nI wh), .int (nI y), .int (nI (nLo σ)), .int (nI (nCl σ)), .int (nI j), .int (nI c), .int (nI w), .int (nI a), .int (if nI a < σ 0 1 then 2 else 1), .int (-5), .null, .null, .null, .null]) dL_act_658 (Nat.le_of_ble_eq_true rfl) rfl rfl rfl ?_
      refine x_iload dL_act_660 rfl ?_
      refine x_if_eq (tgt := 681) dL_act_662 (by decide) (fun c => absurd c (fun e => q9 (e9.trans e))) (fun _ => ?_)
      refine x_iload dL_act_665 rfl ?_
      refine x_bipush (v := (-5)) dL_act_667 rfl ?_
      refine x_icmp_ne (tgt := 676) dL_act_669 (by decide) (fun c => absurd (by decide) c) (fun _ => ?_)
      refine x_iconst (v := 0) dL_act_672 rfl ?_
      refine x_goto (tgt := 706) dL_act_673 (by decide) ?_
      refine x_iret dL_act_706 (Or.inl rfl) rfl (Nat.le_refl _) ?_
      exact ⟨_, rfl, Or.inl ⟨rfl, hX2⟩⟩
  refine x_iload dL_act_634 rfl ?_
  refine x_aload_n dL_act_636 rfl ?_
  refine x_bipush (v := 15) dL_act_637 rfl ?_
  refine l_cn (v := σ 0 1) dL_act_639 q201 hX (Nat.le_of_ble_eq_true rfl) ⟨Nat.le_refl _, Nat.le_refl _⟩ (fun _ _ => xn_15 _ _) ?_
  refine x_icmp_lt (tgt := 649) dL_act_642 (by decide) (fun c642 => ?_) (fun c642 => ?_)
  · refine x_iconst (v := 2) dL_act_649 rfl ?_
    exact e_top (b := (if nI a < σ 0 1 then 2 else 1)) (by first | exact (if_pos c642).symm | exact (if_neg c642).symm) j650
  · refine x_iconst (v := 1) dL_act_645 rfl ?_
    refine x_goto (tgt := 650) dL_act_646 (by decide) ?_
    exact e_top (b := (if nI a < σ 0 1 then 2 else 1)) (by first | exact (if_pos c642).symm | exact (if_neg c642).symm) j650

set_option maxRecDepth 100000 in
set_option maxHeartbeats 8000000 in
theorem A_withdraw {st : Nat → Nat} (d : Nat) {z : Nat} {h : Nat → Option va_E} {x : Nat} {σ τ : Sg} {n : Nat} {sl : Nat → Sg} {sv : Nat → Int32} (hX : XS h x σ n τ sl sv) {X : Int32} {wh y j c : Nat} (hy : y < 2 ^ 31) (hc : c < nCl σ) {w a : Nat} (hw : w < 6) (e9 : σ 9 c = nI w) (ha : a ≤ 100) (e8 : σ 8 c = nI a)  : Ev st (d + 8) yL_act cL_act 16 (some .int) (z, h) 0 0 (AQ z x σ n τ sl sv) 707 [.ref x, .int X, .int (nI wh), .int (nI y), .int (nI (nLo σ)), .int (nI (nCl σ)), .int (nI j), .int (nI c), .int (nI w), .int (nI a), .null, .null, .null, .null, .null, .null] [] (z, h) 0 0 := by
  have hQ := hX.q
  have l12 := hQ.2.1.lok.2
  obtain ⟨i, hi, e6⟩ := hQ.2.1.wt c hc
  have dw := do_withdraw hQ hc e6
  have sw := st_w hw e9
  refine x_aload_n dL_act_707 rfl ?_
  refine x_iload dL_act_708 rfl ?_
  refine x_iconst (v := 1) dL_act_710 rfl ?_
  refine l_rd (v := nI i) dL_act_711 kX4_ofClaim iX4_ofClaim q364 hX (fun _ _ _ a1 a2 a3 => x_ofClaim _ a1 a2 a3 _ _) rfl rfl rfl (Nat.le_of_ble_eq_true rfl) ⟨Nat.le_refl _, Nat.le_refl _⟩ ((ofC_n hQ.2.1.cok hc).2.1.trans e6) ?_
  refine e_isd (b := nI i) (lv2 := [.ref x, .int X, .int (nI wh), .int (nI y), .int (nI (nLo σ)), .int (nI (nCl σ)), .int (nI j), .int (nI c), .int (nI w), .int (nI a), .int (nI i), .null, .null, .null, .null, .null]) dL_act_714 (Nat.le_of_ble_eq_true rfl) rfl rfl rfl ?_
  by_cases q9 : sStands σ c = true
  · obtain ⟨τ1, he, hq1, ec, el, r9, hr⟩ := dw.2 q9
    have hc1 : c < nCl τ1 := by omega
    have hi1 : i < nLo τ1 := by omega
    have le2 : 1 < nI w → 2 ≤ nI w := fun e => by
      rw [show (1 : Int32) = nI 1 from rfl, nI_ltI (by decide) (by omega)] at e
      rw [show (2 : Int32) = nI 2 from rfl, nI_leI (by decide) (by omega)]
      omega
    refine x_aload_n dL_act_716 rfl ?_
    refine x_iload dL_act_717 rfl ?_
    refine l_xq dL_act_719 kX4_withdraw iX4_withdraw q506 hX (ct_do hX (fun _ _ _ a1 a2 a3 => x_withdraw (d + 1) a1 a2 a3 _) he hr hq1) rfl rfl rfl (Nat.le_of_ble_eq_true rfl) ⟨Nat.le_refl _, Nat.le_refl _⟩ (fun h1 hX1 => ?_)
    refine e_isd (b := (sBit (cStandTo τ1 (nI i)))) (lv2 := [.ref x, .int X, .int (nI wh), .int (nI y), .int (nI (nLo σ)), .int (nI (nCl σ)), .int (nI j), .int (nI c), .int (nI w), .int (nI a), .int (nI i), .int (sBit (cStandTo τ1 (nI i))), .null, .null, .null, .null]) dL_act_722 (Nat.le_of_ble_eq_true rfl) rfl rfl rfl ?_
    refine x_iload dL_act_724 rfl ?_
    refine x_iconst (v := 1) dL_act_726 rfl ?_
    refine x_icmp_le (tgt := 746) dL_act_727 (by decide) (fun _ => ?_) (fun c => absurd (Int32.not_lt.mp fun e => sw.mp q9 (le2 e)) c)
    refine x_iload dL_act_746 rfl ?_
    refine x_aload_n dL_act_748 rfl ?_
    refine x_iload dL_act_749 rfl ?_
    refine x_iconst (v := 4) dL_act_751 rfl ?_
    refine l_rd (v := cStandTo τ1 (nI i)) dL_act_752 kX4_of iX4_of q309 hX1 (fun _ _ _ a1 a2 a3 => x_of _ a1 a2 a3 _ _) rfl rfl rfl (Nat.le_of_ble_eq_true rfl) ⟨Nat.le_refl _, Nat.le_refl _⟩ ((of_n hq1.2.1.lok hi1).2.2.2.2.1) ?_
    refine c_SR dL_act_755 kL_size q638 q637 (t_size (d + 6) (s := cStandTo τ1 (nI i))) rfl rfl (Nat.le_of_ble_eq_true rfl) ⟨Nat.le_refl _, Nat.le_refl _⟩ ?_
    refine x_icmp_ne (tgt := 776) dL_act_758 (by decide) (fun c => absurd rfl c) (fun _ => ?_)
    refine x_aload_n dL_act_761 rfl ?_
    refine x_iload dL_act_762 rfl ?_
    refine x_iconst (v := 4) dL_act_764 rfl ?_
    refine l_rd (v := 3) dL_act_765 kX4_ofClaim iX4_ofClaim q364 hX1 (fun _ _ _ a1 a2 a3 => x_ofClaim _ a1 a2 a3 _ _) rfl rfl rfl (Nat.le_of_ble_eq_true rfl) ⟨Nat.le_refl _, Nat.le_refl _⟩ ((ofC_n hq1.2.1.cok hc1).2.2.2.2.1.trans r9) ?_
    refine x_iconst (v := 3) dL_act_768 rfl ?_
    refine x_icmp_ne (tgt := 776) dL_act_769 (by decide) (fun c => absurd rfl c) (fun _ => ?_)
    refine x_iconst (v := 1) dL_act_772 rfl ?_
    refine x_goto (tgt := 778) dL_act_773 (by decide) ?_
    refine x_iret dL_act_778 (Or.inl rfl) rfl (Nat.le_refl _) ?_
    exact ⟨_, rfl, Or.inr ⟨rfl, _, hX1⟩⟩
  · have le1 : nI w ≤ 1 → ¬ 2 ≤ nI w := fun e e2 => by
      rw [show (1 : Int32) = nI 1 from rfl, nI_leI (by omega) (by decide)] at e
      rw [show (2 : Int32) = nI 2 from rfl, nI_leI (by decide) (by omega)] at e2
      omega
    refine x_aload_n dL_act_716 rfl ?_
    refine x_iload dL_act_717 rfl ?_
    refine l_xq dL_act_719 kX4_withdraw iX4_withdraw q506 hX (ct_no hX (fun _ _ _ a1 a2 a3 => x_withdraw (d + 1) a1 a2 a3 _) (dw.1 (by simpa using q9)) (by decide)) rfl rfl rfl (Nat.le_of_ble_eq_true rfl) ⟨Nat.le_refl _, Nat.le_refl _⟩ (fun h2 hX2 => ?_)
    refine e_isd (b := (-5)) (lv2 := [.ref x, .int X, .int (nI wh), .int (nI y), .int (nI (nLo σ)), .int (nI (nCl σ)), .int (nI j), .int (nI c), .int (nI w), .int (nI a), .int (nI i), .int (-5), .null, .null, .null, .null]) dL_act_722 (Nat.le_of_ble_eq_true rfl) rfl rfl rfl ?_
    refine x_iload dL_act_724 rfl ?_
    refine x_iconst (v := 1) dL_act_726 rfl ?_
    refine x_icmp_le (tgt := 746) dL_act_727 (by decide) (fun c => absurd c (fun e => q9 (sw.mpr fun e2 => le1 e e2))) (fun _ => ?_)
    refine x_iload dL_act_730 rfl ?_
    refine x_bipush (v := (-5)) dL_act_732 rfl ?_
    refine x_icmp_ne (tgt := 741) dL_act_734 (by decide) (fun c => absurd (by decide) c) (fun _ => ?_)
    refine x_iconst (v := 0) dL_act_737 rfl ?_
    refine x_goto (tgt := 778) dL_act_738 (by decide) ?_
    refine x_iret dL_act_778 (Or.inl rfl) rfl (Nat.le_refl _) ?_
    exact ⟨_, rfl, Or.inl ⟨rfl, hX2⟩⟩

set_option maxRecDepth 100000 in
set_option maxHeartbeats 8000000 in
theorem A_cl {st : Nat → Nat} (d : Nat) {z : Nat} {h : Nat → Option va_E} {x : Nat} {σ τ : Sg} {n : Nat} {sl : Nat → Sg} {sv : Nat → Int32} (hX : XS h x σ n τ sl sv) {X : Int32} {wh y j c : Nat} (hy : y < 2 ^ 31) (hc : c < nCl σ)  : Ev st (d + 8) yL_act cL_act 16 (some .int) (z, h) 0 0 (AQ z x σ n τ sl sv) 508 [.ref x, .int X, .int (nI wh), .int (nI y), .int (nI (nLo σ)), .int (nI (nCl σ)), .int (nI j), .int (nI c), .null, .null, .null, .null, .null, .null, .null, .null] [] (z, h) 0 0 := by
  have hQ := hX.q
  have l30 := hQ.2.1.cok.2
  obtain ⟨w, hw, e9⟩ := hQ.2.1.ws c hc
  obtain ⟨a, ha, e8⟩ := hQ.2.2.2 c hc
  refine x_aload_n dL_act_508 rfl ?_
  refine x_iload dL_act_509 rfl ?_
  refine x_iconst (v := 4) dL_act_511 rfl ?_
  refine l_rd (v := nI w) dL_act_512 kX4_ofClaim iX4_ofClaim q364 hX (fun _ _ _ a1 a2 a3 => x_ofClaim _ a1 a2 a3 _ _) rfl rfl rfl (Nat.le_of_ble_eq_true rfl) ⟨Nat.le_refl _, Nat.le_refl _⟩ ((ofC_n hQ.2.1.cok hc).2.2.2.2.1.trans e9) ?_
  refine e_isd (b := nI w) (lv2 := [.ref x, .int X, .int (nI wh), .int (nI y), .int (nI (nLo σ)), .int (nI (nCl σ)), .int (nI j), .int (nI c), .int (nI w), .null, .null, .null, .null, .null, .null, .null]) dL_act_515 (Nat.le_of_ble_eq_true rfl) rfl rfl rfl ?_
  refine x_aload_n dL_act_517 rfl ?_
  refine x_iload dL_act_518 rfl ?_
  refine x_iconst (v := 3) dL_act_520 rfl ?_
  refine l_rd (v := nI a) dL_act_521 kX4_ofClaim iX4_ofClaim q364 hX (fun _ _ _ a1 a2 a3 => x_ofClaim _ a1 a2 a3 _ _) rfl rfl rfl (Nat.le_of_ble_eq_true rfl) ⟨Nat.le_refl _, Nat.le_refl _⟩ ((ofC_n hQ.2.1.cok hc).2.2.2.1.trans e8) ?_
  refine e_isd (b := nI a) (lv2 := [.ref x, .int X, .int (nI wh), .int (nI y), .int (nI (nLo σ)), .int (nI (nCl σ)), .int (nI j), .int (nI c), .int (nI w), .int (nI a), .null, .null, .null, .null, .null, .null]) dL_act_524 (Nat.le_of_ble_eq_true rfl) rfl rfl rfl ?_
  refine x_iload_n dL_act_526 rfl ?_
  refine x_bipush (v := 9) dL_act_527 rfl ?_
  refine x_icmp_ge (tgt := 628) dL_act_529 (by decide) (fun c529 => ?_) (fun c529 => ?_)
  · refine x_iload_n dL_act_628 rfl ?_
    refine x_bipush (v := 9) dL_act_629 rfl ?_
    refine x_icmp_ne (tgt := 707) dL_act_631 (by decide) (fun c631 => ?_) (fun c631 => ?_)
    · exact A_withdraw d hX hy hc hw e9 ha e8
    · exact A_decide d hX hy hc hw e9 ha e8
  · exact A_prove d hX hy hc hw e9 ha e8
