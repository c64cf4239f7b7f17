/-! HELPERS OF THE LAW: the claims add up -/

set_option maxRecDepth 100000 in
set_option maxHeartbeats 8000000 in
theorem L_ac4 {st : Nat → Nat} (d : Nat) {z : Nat} {h : Nat → Option va_E} {x : Nat} {σ τ : Sg} {n : Nat} {sl : Nat → Sg} {sv : Nat → Int32} (hX : XS h x σ n τ sl sv) (b2 b3 b5 b6 b7 : Int32) (a8 a9 : Value) : Ev st (d + 8) yL_areClaims cL_areClaims 10 (some .boolean) (z, h) 0 0 (RO (some (.int 1)) (z, h)) 623 [.ref x, .int (nI (nCl σ)), .int b2, .int b3, .int 1, .int b5, .int b6, .int b7, a8, a9] [] (z, h) 0 0 := by
  rcases lapse_n hX.q with ⟨e0, e1⟩ | ⟨c, l, hc, h9, l1, l2, e1, e0⟩
  · refine x_aload_n dL_areClaims_623 rfl ?_
    refine x_iconst (v := 0) dL_areClaims_624 rfl ?_
    refine l_rd (v := (-6)) dL_areClaims_625 kX4_nextLapse iX4_nextLapse q423 hX (fun _ _ _ a1 a2 a3 => x_nextLapse _ a1 a2 a3 _) rfl rfl rfl (Nat.le_of_ble_eq_true rfl) ⟨Nat.le_refl _, Nat.le_refl _⟩ e0 ?_
    refine e_isd (b := (-6)) (lv2 := [.ref x, .int (nI (nCl σ)), .int b2, .int b3, .int 1, .int b5, .int b6, .int b7, .int (-6), a9]) dL_areClaims_628 (Nat.le_of_ble_eq_true rfl) rfl rfl rfl ?_
    refine x_aload_n dL_areClaims_630 rfl ?_
    refine x_iconst (v := 1) dL_areClaims_631 rfl ?_
    refine l_rd (v := (-6)) dL_areClaims_632 kX4_nextLapse iX4_nextLapse q423 hX (fun _ _ _ a1 a2 a3 => x_nextLapse _ a1 a2 a3 _) rfl rfl rfl (Nat.le_of_ble_eq_true rfl) ⟨Nat.le_refl _, Nat.le_refl _⟩ e1 ?_
    refine e_isd (b := (-6)) (lv2 := [.ref x, .int (nI (nCl σ)), .int b2, .int b3, .int 1, .int b5, .int b6, .int b7, .int (-6), .int (-6)]) dL_areClaims_635 (Nat.le_of_ble_eq_true rfl) rfl rfl rfl ?_
    refine x_iload dL_areClaims_637 rfl ?_
    refine x_if_eq (tgt := 695) dL_areClaims_639 (by decide) (fun c => absurd c (by decide)) (fun _ => ?_)
    refine x_iload dL_areClaims_642 rfl ?_
    refine x_bipush (v := (-6)) dL_areClaims_644 rfl ?_
    refine x_icmp_ne (tgt := 653) dL_areClaims_646 (by decide) (fun c => absurd (by decide) c) (fun _ => ?_)
    refine x_iconst (v := 1) dL_areClaims_649 rfl ?_
    refine x_goto (tgt := 654) dL_areClaims_650 (by decide) ?_
    refine x_iload dL_areClaims_654 rfl ?_
    refine x_bipush (v := (-6)) dL_areClaims_656 rfl ?_
    refine x_icmp_ne (tgt := 665) dL_areClaims_658 (by decide) (fun c => absurd (by decide) c) (fun _ => ?_)
    refine x_iconst (v := 1) dL_areClaims_661 rfl ?_
    refine x_goto (tgt := 666) dL_areClaims_662 (by decide) ?_
    refine x_icmp_ne (tgt := 695) dL_areClaims_666 (by decide) (fun c => absurd (by decide) c) (fun _ => ?_)
    refine x_iload dL_areClaims_669 rfl ?_
    refine x_bipush (v := (-6)) dL_areClaims_671 rfl ?_
    refine x_icmp_eq (tgt := 691) dL_areClaims_673 (by decide) (fun _ => ?_) (fun c => absurd (by decide) c)
    refine x_iconst (v := 1) dL_areClaims_691 rfl ?_
    refine x_goto (tgt := 696) dL_areClaims_692 (by decide) ?_
    refine x_iret dL_areClaims_696 (Or.inr ⟨rfl, rfl⟩) rfl (Nat.le_refl _) ?_
    exact ⟨rfl, rfl⟩
  · have l30 := hX.q.2.1.cok.2
    refine x_aload_n dL_areClaims_623 rfl ?_
    refine x_iconst (v := 0) dL_areClaims_624 rfl ?_
    refine l_rd (v := nI l) dL_areClaims_625 kX4_nextLapse iX4_nextLapse q423 hX (fun _ _ _ a1 a2 a3 => x_nextLapse _ a1 a2 a3 _) rfl rfl rfl (Nat.le_of_ble_eq_true rfl) ⟨Nat.le_refl _, Nat.le_refl _⟩ e0 ?_
    refine e_isd (b := nI l) (lv2 := [.ref x, .int (nI (nCl σ)), .int b2, .int b3, .int 1, .int b5, .int b6, .int b7, .int (nI l), a9]) dL_areClaims_628 (Nat.le_of_ble_eq_true rfl) rfl rfl rfl ?_
    refine x_aload_n dL_areClaims_630 rfl ?_
    refine x_iconst (v := 1) dL_areClaims_631 rfl ?_
    refine l_rd (v := nI c) dL_areClaims_632 kX4_nextLapse iX4_nextLapse q423 hX (fun _ _ _ a1 a2 a3 => x_nextLapse _ a1 a2 a3 _) rfl rfl rfl (Nat.le_of_ble_eq_true rfl) ⟨Nat.le_refl _, Nat.le_refl _⟩ e1 ?_
    refine e_isd (b := nI c) (lv2 := [.ref x, .int (nI (nCl σ)), .int b2, .int b3, .int 1, .int b5, .int b6, .int b7, .int (nI l), .int (nI c)]) dL_areClaims_635 (Nat.le_of_ble_eq_true rfl) rfl rfl rfl ?_
    refine x_iload dL_areClaims_637 rfl ?_
    refine x_if_eq (tgt := 695) dL_areClaims_639 (by decide) (fun c => absurd c (by decide)) (fun _ => ?_)
    refine x_iload dL_areClaims_642 rfl ?_
    refine x_bipush (v := (-6)) dL_areClaims_644 rfl ?_
    refine x_icmp_ne (tgt := 653) dL_areClaims_646 (by decide) (fun _ => ?_) (fun c => absurd c (n6 (by omega)))
    refine x_iconst (v := 0) dL_areClaims_653 rfl ?_
    refine x_iload dL_areClaims_654 rfl ?_
    refine x_bipush (v := (-6)) dL_areClaims_656 rfl ?_
    refine x_icmp_ne (tgt := 665) dL_areClaims_658 (by decide) (fun _ => ?_) (fun c => absurd c (n6 (by omega)))
    refine x_iconst (v := 0) dL_areClaims_665 rfl ?_
    refine x_icmp_ne (tgt := 695) dL_areClaims_666 (by decide) (fun c => absurd (by decide) c) (fun _ => ?_)
    refine x_iload dL_areClaims_669 rfl ?_
    refine x_bipush (v := (-6)) dL_areClaims_671 rfl ?_
    refine x_icmp_eq (tgt := 691) dL_areClaims_673 (by decide) (fun c => absurd c (n6 (by omega))) (fun _ => ?_)
    refine x_aload_n dL_areClaims_676 rfl ?_
    refine x_iload dL_areClaims_677 rfl ?_
    refine x_iconst (v := 4) dL_areClaims_679 rfl ?_
    refine l_rd (v := 0) dL_areClaims_680 kX4_ofClaim iX4_ofClaim q364 hX (fun _ _ _ a1 a2 a3 => x_ofClaim _ a1 a2 a3 _ _) rfl rfl rfl (Nat.le_of_ble_eq_true rfl) ⟨Nat.le_refl _, Nat.le_refl _⟩ ((ofC_n hX.q.2.1.cok hc).2.2.2.2.1.trans h9) ?_
    refine x_if_ne (tgt := 695) dL_areClaims_683 (by decide) (fun c => absurd (by decide) c) (fun _ => ?_)
    refine x_iload dL_areClaims_686 rfl ?_
    refine x_if_le (tgt := 695) dL_areClaims_688 (by decide) (fun c => absurd c (fun e => by have := (nI_le0' (by omega)).mp e; omega)) (fun _ => ?_)
    refine x_iconst (v := 1) dL_areClaims_691 rfl ?_
    refine x_goto (tgt := 696) dL_areClaims_692 (by decide) ?_
    refine x_iret dL_areClaims_696 (Or.inr ⟨rfl, rfl⟩) rfl (Nat.le_refl _) ?_
    exact ⟨rfl, rfl⟩

set_option maxRecDepth 100000 in
set_option maxHeartbeats 8000000 in
theorem L_ac3 {st : Nat → Nat} (d : Nat) {z : Nat} {h : Nat → Option va_E} {x : Nat} {σ τ : Sg} {n : Nat} {sl : Nat → Sg} {sv : Nat → Int32} (hX : XS h x σ n τ sl sv) (b2 b3 b5 : Int32) : ∀ (k r : Nat), r + k = nPd σ → ∀ a9 : Value, Ev st (d + 8) yL_areClaims cL_areClaims 10 (some .boolean) (z, h) 0 0 (RO (some (.int 1)) (z, h)) 547 [.ref x, .int (nI (nCl σ)), .int b2, .int b3, .int 1, .int b5, .int (nI (nPd σ)), .int (pdM σ r), .int (nI r), a9] [] (z, h) 0 0 := by
  have l16 := (paid_n hX.q).2.1
  intro k
  induction k with
  | zero =>
    intro r hr a9
    obtain rfl : r = nPd σ := by omega
    refine x_iload dL_areClaims_547 rfl ?_
    refine x_iload dL_areClaims_549 rfl ?_
    refine x_icmp_ge (tgt := 623) dL_areClaims_551 (by decide) (fun _ => ?_) (fun c => absurd (Int32.le_refl _) c)
    exact L_ac4 d hX _ _ _ _ _ _ _
  | succ k ih =>
    intro r hr a9
    have hr2 : r < nPd σ := by omega
    obtain ⟨g, hg, eg⟩ := (paid_n hX.q).1 r hr2
    refine x_iload dL_areClaims_547 rfl ?_
    refine x_iload dL_areClaims_549 rfl ?_
    refine x_icmp_ge (tgt := 623) dL_areClaims_551 (by decide) (fun c => absurd c (fun e => by have := (nI_leI (by omega) (by omega)).mp e; omega)) (fun _ => ?_)
    refine x_iload dL_areClaims_554 rfl ?_
    refine x_if_eq (tgt := 623) dL_areClaims_556 (by decide) (fun c => absurd c (by decide)) (fun _ => ?_)
    refine x_aload_n dL_areClaims_559 rfl ?_
    refine x_iload dL_areClaims_560 rfl ?_
    refine l_rd (v := nI g) dL_areClaims_562 kX4_paid iX4_paid q301 hX (fun _ _ _ a1 a2 a3 => x_paid _ a1 a2 a3 _) rfl rfl rfl (Nat.le_of_ble_eq_true rfl) ⟨Nat.le_refl _, Nat.le_refl _⟩ ((paid_in hX.q hr2).trans eg) ?_
    refine e_isd (b := nI g) (lv2 := [.ref x, .int (nI (nCl σ)), .int b2, .int b3, .int 1, .int b5, .int (nI (nPd σ)), .int (pdM σ r), .int (nI r), .int (nI g)]) dL_areClaims_565 (Nat.le_of_ble_eq_true rfl) rfl rfl rfl ?_
    refine x_iload dL_areClaims_567 rfl ?_
    refine x_if_lt (tgt := 596) dL_areClaims_569 (by decide) (fun c => absurd c (nng (by omega))) (fun _ => ?_)
    refine x_iload dL_areClaims_572 rfl ?_
    refine x_iload dL_areClaims_574 rfl ?_
    refine x_ishr dL_areClaims_576 ?_
    refine x_iconst (v := 1) dL_areClaims_577 rfl ?_
    refine x_iand dL_areClaims_578 ?_
    refine x_if_ne (tgt := 596) dL_areClaims_579 (by decide) (fun c => absurd (pdM_0 hX.q hr2 hg eg) c) (fun _ => ?_)
    refine x_aload_n dL_areClaims_582 rfl ?_
    refine x_iload dL_areClaims_583 rfl ?_
    refine x_iconst (v := 0) dL_areClaims_585 rfl ?_
    refine l_rd (v := nI (pu σ g)) dL_areClaims_586 kX4_heir iX4_heir q340 hX (fun _ _ _ a1 a2 a3 => x_heir _ a1 a2 a3 _ _) rfl rfl rfl (Nat.le_of_ble_eq_true rfl) ⟨Nat.le_refl _, Nat.le_refl _⟩ ((heir_n σ hg).1.trans (purse_n hX.q g)) ?_
    refine x_if_le (tgt := 596) dL_areClaims_589 (by decide) (fun c => absurd c (paid_pu hX.q hr2 hg eg)) (fun _ => ?_)
    refine x_iconst (v := 1) dL_areClaims_592 rfl ?_
    refine x_goto (tgt := 597) dL_areClaims_593 (by decide) ?_
    refine e_isd (b := 1) (lv2 := [.ref x, .int (nI (nCl σ)), .int b2, .int b3, .int 1, .int b5, .int (nI (nPd σ)), .int (pdM σ r), .int (nI r), .int (nI g)]) dL_areClaims_597 (Nat.le_of_ble_eq_true rfl) rfl rfl rfl ?_
    refine x_iload dL_areClaims_599 rfl ?_
    refine x_iload dL_areClaims_601 rfl ?_
    refine x_if_eq (tgt := 613) dL_areClaims_603 (by decide) (fun c => absurd c (by decide)) (fun _ => ?_)
    refine x_iconst (v := 1) dL_areClaims_606 rfl ?_
    refine x_iload dL_areClaims_607 rfl ?_
    refine x_ishl dL_areClaims_609 ?_
    refine x_goto (tgt := 614) dL_areClaims_610 (by decide) ?_
    refine x_ior dL_areClaims_614 ?_
    refine e_isd (b := pdM σ (r + 1)) (lv2 := [.ref x, .int (nI (nCl σ)), .int b2, .int b3, .int 1, .int b5, .int (nI (nPd σ)), .int (pdM σ (r + 1)), .int (nI r), .int (nI g)]) dL_areClaims_615 (Nat.le_of_ble_eq_true rfl) rfl (pdM_s eg) rfl ?_
    refine e_incd (b := nI (r + 1)) (lv2 := [.ref x, .int (nI (nCl σ)), .int b2, .int b3, .int 1, .int b5, .int (nI (nPd σ)), .int (pdM σ (r + 1)), .int (nI (r + 1)), .int (nI g)]) dL_areClaims_617 rfl (nI_1 _) rfl rfl ?_
    refine x_goto (tgt := 547) dL_areClaims_620 (by decide) ?_
    exact ih (r + 1) (by omega) _

set_option maxRecDepth 100000 in
set_option maxHeartbeats 8000000 in
theorem L_ac2 {st : Nat → Nat} (d : Nat) {z : Nat} {h : Nat → Option va_E} {x : Nat} {σ τ : Sg} {n : Nat} {sl : Nat → Sg} {sv : Nat → Int32} (hX : XS h x σ n τ sl sv)  : ∀ (k i : Nat), i + k = 16 → ∀ a8 a9 : Value, Ev st (d + 8) yL_areClaims cL_areClaims 10 (some .boolean) (z, h) 0 0 (RO (some (.int 1)) (z, h)) 383 [.ref x, .int (nI (nCl σ)), .int (bs (sStands σ) (nCl σ)), .int (nI (sN (bN σ) (nCl σ))), .int 1, .int (nI (sN (pu σ) i)), .int (nI (cnt (pdB σ) 0 i)), .int (nI i), a8, a9] [] (z, h) 0 0 := by
  intro k
  induction k with
  | zero =>
    intro i hi a8 a9
    obtain rfl : i = 16 := by omega
    have l30 := hX.q.2.1.cok.2
    obtain ⟨m, em, hm⟩ := num_13 hX.q
    refine x_iload dL_areClaims_383 rfl ?_
    refine x_bipush (v := 16) dL_areClaims_385 rfl ?_
    refine x_icmp_ge (tgt := 473) dL_areClaims_387 (by decide) (fun _ => ?_) (fun c => absurd (by decide) c)
    refine x_iload dL_areClaims_473 rfl ?_
    refine x_if_eq (tgt := 538) dL_areClaims_475 (by decide) (fun c => absurd c (by decide)) (fun _ => ?_)
    refine x_iload dL_areClaims_478 rfl ?_
    refine x_aload_n dL_areClaims_480 rfl ?_
    refine x_bipush (v := 11) dL_areClaims_481 rfl ?_
    refine l_cn (v := nI (sN (bN σ) (nCl σ))) dL_areClaims_483 q201 hX (Nat.le_of_ble_eq_true rfl) ⟨Nat.le_refl _, Nat.le_refl _⟩ (fun _ _ => xn_11 hX.q _ _) ?_
    refine x_icmp_ne (tgt := 538) dL_areClaims_486 (by decide) (fun c => absurd (by rw [pu_all hX.q]) c) (fun _ => ?_)
    refine x_iload_n dL_areClaims_489 rfl ?_
    refine x_iload dL_areClaims_490 rfl ?_
    refine x_icmp_ne (tgt := 538) dL_areClaims_492 (by decide) (fun c => absurd (by rw [pu_all hX.q]) c) (fun _ => ?_)
    refine x_iload_n dL_areClaims_495 rfl ?_
    refine x_aload_n dL_areClaims_496 rfl ?_
    refine x_bipush (v := 12) dL_areClaims_497 rfl ?_
    refine l_cn (v := cStanding σ) dL_areClaims_499 q201 hX (Nat.le_of_ble_eq_true rfl) ⟨Nat.le_refl _, Nat.le_refl _⟩ (fun _ _ => xn_12 hX.q _ _) ?_
    refine x_icmp_ne (tgt := 538) dL_areClaims_502 (by decide) (fun c => absurd ((cStanding_bs hX.q.2.1.cok).symm) c) (fun _ => ?_)
    refine x_aload_n dL_areClaims_505 rfl ?_
    refine x_iload dL_areClaims_506 rfl ?_
    refine l_rd (v := (-1)) dL_areClaims_508 kX4_paid iX4_paid q301 hX (fun _ _ _ a1 a2 a3 => x_paid _ a1 a2 a3 _) rfl rfl rfl (Nat.le_of_ble_eq_true rfl) ⟨Nat.le_refl _, Nat.le_refl _⟩ (by rw [(paid_n hX.q).2.2]; exact (paid_out hX.q).1) ?_
    refine x_iconst (v := (-1)) dL_areClaims_511 rfl ?_
    refine x_icmp_ne (tgt := 538) dL_areClaims_512 (by decide) (fun c => absurd rfl c) (fun _ => ?_)
    refine x_aload_n dL_areClaims_515 rfl ?_
    refine x_iconst (v := (-1)) dL_areClaims_516 rfl ?_
    refine l_rd (v := (-1)) dL_areClaims_517 kX4_paid iX4_paid q301 hX (fun _ _ _ a1 a2 a3 => x_paid _ a1 a2 a3 _) rfl rfl rfl (Nat.le_of_ble_eq_true rfl) ⟨Nat.le_refl _, Nat.le_refl _⟩ ((paid_out hX.q).2) ?_
    refine x_iconst (v := (-1)) dL_areClaims_520 rfl ?_
    refine x_icmp_ne (tgt := 538) dL_areClaims_521 (by decide) (fun c => absurd rfl c) (fun _ => ?_)
    refine x_aload_n dL_areClaims_524 rfl ?_
    refine x_bipush (v := 13) dL_areClaims_525 rfl ?_
    refine l_cn (v := nI m) dL_areClaims_527 q201 hX (Nat.le_of_ble_eq_true rfl) ⟨Nat.le_refl _, Nat.le_refl _⟩ (fun _ _ => (xC_13 _ _ _).trans em) ?_
    refine x_iload_n dL_areClaims_530 rfl ?_
    refine x_icmp_gt (tgt := 538) dL_areClaims_531 (by decide) (fun c => absurd c (fun e => by have := (nI_ltI (by omega) (by omega)).mp e; omega)) (fun _ => ?_)
    refine x_iconst (v := 1) dL_areClaims_534 rfl ?_
    refine x_goto (tgt := 539) dL_areClaims_535 (by decide) ?_
    refine e_isd (b := 1) (lv2 := [.ref x, .int (nI (nCl σ)), .int (bs (sStands σ) (nCl σ)), .int (nI (sN (bN σ) (nCl σ))), .int 1, .int (nI (sN (pu σ) 16)), .int (nI (cnt (pdB σ) 0 16)), .int (nI 16), a8, a9]) dL_areClaims_539 (Nat.le_of_ble_eq_true rfl) rfl rfl rfl ?_
    refine x_iconst (v := 0) dL_areClaims_541 rfl ?_
    refine e_isd (b := pdM σ 0) (lv2 := [.ref x, .int (nI (nCl σ)), .int (bs (sStands σ) (nCl σ)), .int (nI (sN (bN σ) (nCl σ))), .int 1, .int (nI (sN (pu σ) 16)), .int (nI (cnt (pdB σ) 0 16)), .int (pdM σ 0), a8, a9]) dL_areClaims_542 (Nat.le_of_ble_eq_true rfl) rfl rfl rfl ?_
    refine x_iconst (v := 0) dL_areClaims_544 rfl ?_
    refine e_isd (b := nI 0) (lv2 := [.ref x, .int (nI (nCl σ)), .int (bs (sStands σ) (nCl σ)), .int (nI (sN (bN σ) (nCl σ))), .int 1, .int (nI (sN (pu σ) 16)), .int (nI (cnt (pdB σ) 0 16)), .int (pdM σ 0), .int (nI 0), a9]) dL_areClaims_545 (Nat.le_of_ble_eq_true rfl) rfl rfl rfl ?_
    rw [(paid_n hX.q).2.2]
    exact L_ac3 d hX _ _ _ (nPd σ) 0 (Nat.zero_add _) _
  | succ k ih =>
    intro i hi a8 a9
    have hi2 : i < 16 := by omega
    have pn := pdn_in hX.q hi2
    have ln := lots_in hX.q hi2
    refine x_iload dL_areClaims_383 rfl ?_
    refine x_bipush (v := 16) dL_areClaims_385 rfl ?_
    refine x_icmp_ge (tgt := 473) dL_areClaims_387 (by decide) (fun c => absurd c (fun e => by have := (nI_leI (a := 16) (by decide) (by omega)).mp e; omega)) (fun _ => ?_)
    refine x_iload dL_areClaims_390 rfl ?_
    refine x_if_eq (tgt := 473) dL_areClaims_392 (by decide) (fun c => absurd c (by decide)) (fun _ => ?_)
    refine x_iload dL_areClaims_395 rfl ?_
    refine x_aload_n dL_areClaims_397 rfl ?_
    refine x_iload dL_areClaims_398 rfl ?_
    refine x_iconst (v := 0) dL_areClaims_400 rfl ?_
    refine l_rd (v := nI (pu σ i)) dL_areClaims_401 kX4_heir iX4_heir q340 hX (fun _ _ _ a1 a2 a3 => x_heir _ a1 a2 a3 _ _) rfl rfl rfl (Nat.le_of_ble_eq_true rfl) ⟨Nat.le_refl _, Nat.le_refl _⟩ ((heir_n σ hi2).1.trans (purse_n hX.q i)) ?_
    refine x_iadd dL_areClaims_404 ?_
    refine e_isd (b := nI (sN (pu σ) (i + 1))) (lv2 := [.ref x, .int (nI (nCl σ)), .int (bs (sStands σ) (nCl σ)), .int (nI (sN (bN σ) (nCl σ))), .int 1, .int (nI (sN (pu σ) (i + 1))), .int (nI (cnt (pdB σ) 0 i)), .int (nI i), a8, a9]) dL_areClaims_405 (Nat.le_of_ble_eq_true rfl) rfl (nI_add _ _) rfl ?_
    refine x_iload dL_areClaims_407 rfl ?_
    have j424 : Ev st (d + 8) yL_areClaims cL_areClaims 10 (some .boolean) (z, h) 0 0 (RO (some (.int 1)) (z, h)) 424 [.ref x, .int (nI (nCl σ)), .int (bs (sStands σ) (nCl σ)), .int (nI (sN (bN σ) (nCl σ))), .int 1, .int (nI (sN (pu σ) (i + 1))), .int (nI (cnt (pdB σ) 0 i)), .int (nI i), a8, a9] [.int (nI (pdn σ i)), .int (nI (cnt (pdB σ) 0 i))] (z, h) 0 0 := by
      refine x_iadd dL_areClaims_424 ?_
      refine e_isd (b := nI (cnt (pdB σ) 0 (i + 1))) (lv2 := [.ref x, .int (nI (nCl σ)), .int (bs (sStands σ) (nCl σ)), .int (nI (sN (bN σ) (nCl σ))), .int 1, .int (nI (sN (pu σ) (i + 1))), .int (nI (cnt (pdB σ) 0 (i + 1))), .int (nI i), a8, a9]) dL_areClaims_425 (Nat.le_of_ble_eq_true rfl) rfl (pdn_s σ i) rfl ?_
      have j442 : Ev st (d + 8) yL_areClaims cL_areClaims 10 (some .boolean) (z, h) 0 0 (RO (some (.int 1)) (z, h)) 442 [.ref x, .int (nI (nCl σ)), .int (bs (sStands σ) (nCl σ)), .int (nI (sN (bN σ) (nCl σ))), .int 1, .int (nI (sN (pu σ) (i + 1))), .int (nI (cnt (pdB σ) 0 (i + 1))), .int (nI i), a8, a9] [.int (nI (pdn σ i))] (z, h) 0 0 := by
        have j457 : Ev st (d + 8) yL_areClaims cL_areClaims 10 (some .boolean) (z, h) 0 0 (RO (some (.int 1)) (z, h)) 457 [.ref x, .int (nI (nCl σ)), .int (bs (sStands σ) (nCl σ)), .int (nI (sN (bN σ) (nCl σ))), .int 1, .int (nI (sN (pu σ) (i + 1))), .int (nI (cnt (pdB σ) 0 (i + 1))), .int (nI i), a8, a9] [.int (nI (pdn σ i)), .int (nI (pdn σ i))] (z, h) 0 0 := by
          refine x_icmp_ne (tgt := 464) dL_areClaims_457 (by decide) (fun c => absurd rfl c) (fun _ => ?_)
          refine x_iconst (v := 1) dL_areClaims_460 rfl ?_
          refine x_goto (tgt := 465) dL_areClaims_461 (by decide) ?_
          refine e_isd (b := 1) (lv2 := [.ref x, .int (nI (nCl σ)), .int (bs (sStands σ) (nCl σ)), .int (nI (sN (bN σ) (nCl σ))), .int 1, .int (nI (sN (pu σ) (i + 1))), .int (nI (cnt (pdB σ) 0 (i + 1))), .int (nI i), a8, a9]) dL_areClaims_465 (Nat.le_of_ble_eq_true rfl) rfl rfl rfl ?_
          refine e_incd (b := nI (i + 1)) (lv2 := [.ref x, .int (nI (nCl σ)), .int (bs (sStands σ) (nCl σ)), .int (nI (sN (bN σ) (nCl σ))), .int 1, .int (nI (sN (pu σ) (i + 1))), .int (nI (cnt (pdB σ) 0 (i + 1))), .int (nI (i + 1)), a8, a9]) dL_areClaims_467 rfl (nI_1 _) rfl rfl ?_
          refine x_goto (tgt := 383) dL_areClaims_470 (by decide) ?_
          exact ih (i + 1) (by omega) _ _
        refine x_aload_n dL_areClaims_442 rfl ?_
        refine x_iload dL_areClaims_443 rfl ?_
        refine x_iconst (v := 3) dL_areClaims_445 rfl ?_
        refine l_rd (v := lp (sNumf (σ 6) (cOfHeir σ (nI i) &&& cBrought σ)) 0 30 0) dL_areClaims_446 kX4_heir iX4_heir q340 hX (fun _ _ _ a1 a2 a3 => x_heir _ a1 a2 a3 _ _) rfl rfl rfl (Nat.le_of_ble_eq_true rfl) ⟨Nat.le_refl _, Nat.le_refl _⟩ ((heir_n σ hi2).2.2.2) ?_
        refine x_if_eq (tgt := 456) dL_areClaims_449 (by decide) (fun c449 => ?_) (fun c449 => ?_)
        · refine x_iconst (v := 0) dL_areClaims_456 rfl ?_
          exact e_top (b := nI (pdn σ i)) (by first | exact ln.1 c449 | exact ln.2 c449) j457
        · refine x_iconst (v := 1) dL_areClaims_452 rfl ?_
          refine x_goto (tgt := 457) dL_areClaims_453 (by decide) ?_
          exact e_top (b := nI (pdn σ i)) (by first | exact ln.1 c449 | exact ln.2 c449) j457
      refine x_aload_n dL_areClaims_427 rfl ?_
      refine x_iload dL_areClaims_428 rfl ?_
      refine x_iconst (v := 0) dL_areClaims_430 rfl ?_
      refine l_rd (v := nI (pu σ i)) dL_areClaims_431 kX4_heir iX4_heir q340 hX (fun _ _ _ a1 a2 a3 => x_heir _ a1 a2 a3 _ _) rfl rfl rfl (Nat.le_of_ble_eq_true rfl) ⟨Nat.le_refl _, Nat.le_refl _⟩ ((heir_n σ hi2).1.trans (purse_n hX.q i)) ?_
      refine x_if_le (tgt := 441) dL_areClaims_434 (by decide) (fun c434 => ?_) (fun c434 => ?_)
      · refine x_iconst (v := 0) dL_areClaims_441 rfl ?_
        exact e_top (b := nI (pdn σ i)) (by first | exact pn.1 c434 | exact pn.2 c434) j442
      · refine x_iconst (v := 1) dL_areClaims_437 rfl ?_
        refine x_goto (tgt := 442) dL_areClaims_438 (by decide) ?_
        exact e_top (b := nI (pdn σ i)) (by first | exact pn.1 c434 | exact pn.2 c434) j442
    refine x_aload_n dL_areClaims_409 rfl ?_
    refine x_iload dL_areClaims_410 rfl ?_
    refine x_iconst (v := 0) dL_areClaims_412 rfl ?_
    refine l_rd (v := nI (pu σ i)) dL_areClaims_413 kX4_heir iX4_heir q340 hX (fun _ _ _ a1 a2 a3 => x_heir _ a1 a2 a3 _ _) rfl rfl rfl (Nat.le_of_ble_eq_true rfl) ⟨Nat.le_refl _, Nat.le_refl _⟩ ((heir_n σ hi2).1.trans (purse_n hX.q i)) ?_
    refine x_if_le (tgt := 423) dL_areClaims_416 (by decide) (fun c416 => ?_) (fun c416 => ?_)
    · refine x_iconst (v := 0) dL_areClaims_423 rfl ?_
      exact e_top (b := nI (pdn σ i)) (by first | exact pn.1 c416 | exact pn.2 c416) j424
    · refine x_iconst (v := 1) dL_areClaims_419 rfl ?_
      refine x_goto (tgt := 424) dL_areClaims_420 (by decide) ?_
      exact e_top (b := nI (pdn σ i)) (by first | exact pn.1 c416 | exact pn.2 c416) j424

set_option maxRecDepth 100000 in
set_option maxHeartbeats 8000000 in
theorem L_ac1 {st : Nat → Nat} (d : Nat) {z : Nat} {h : Nat → Option va_E} {x : Nat} {σ τ : Sg} {n : Nat} {sl : Nat → Sg} {sv : Nat → Int32} (hX : XS h x σ n τ sl sv) {k w g j : Nat} (hk : k < nCl σ) (b2 b3 : Int32) (hU : ∀ i, i < k → ¬ 1 < nI w → ¬ 1 < σ 9 i → σ 5 i = nI g → ¬ σ 6 i = nI j) (K : Ev st (d + 8) yL_areClaims cL_areClaims 10 (some .boolean) (z, h) 0 0 (RO (some (.int 1)) (z, h)) 368 [.ref x, .int (nI (nCl σ)), .int b2, .int b3, .int 1, .int (nI k), .int (nI w), .int (nI j), .int (nI g), .int (nI k)] [] (z, h) 0 0) : ∀ (m i : Nat), i + m = k → Ev st (d + 8) yL_areClaims cL_areClaims 10 (some .boolean) (z, h) 0 0 (RO (some (.int 1)) (z, h)) 302 [.ref x, .int (nI (nCl σ)), .int b2, .int b3, .int 1, .int (nI k), .int (nI w), .int (nI j), .int (nI g), .int (nI i)] [] (z, h) 0 0 := by
  have l30 := hX.q.2.1.cok.2
  intro m
  induction m with
  | zero =>
    intro i hi
    obtain rfl : i = k := by omega
    refine x_iload dL_areClaims_302 rfl ?_
    refine x_iload dL_areClaims_304 rfl ?_
    refine x_icmp_ge (tgt := 368) dL_areClaims_306 (by decide) (fun _ => ?_) (fun c => absurd (Int32.le_refl _) c)
    exact K
  | succ m ih =>
    intro i hi
    refine x_iload dL_areClaims_302 rfl ?_
    refine x_iload dL_areClaims_304 rfl ?_
    refine x_icmp_ge (tgt := 368) dL_areClaims_306 (by decide) (fun c => absurd c (fun e => by have := (nI_leI (by omega) (by omega)).mp e; omega)) (fun _ => ?_)
    refine x_iload dL_areClaims_309 rfl ?_
    refine x_if_eq (tgt := 368) dL_areClaims_311 (by decide) (fun c => absurd c (by decide)) (fun _ => ?_)
    have j355 : Ev st (d + 8) yL_areClaims cL_areClaims 10 (some .boolean) (z, h) 0 0 (RO (some (.int 1)) (z, h)) 355 [.ref x, .int (nI (nCl σ)), .int b2, .int b3, .int 1, .int (nI k), .int (nI w), .int (nI j), .int (nI g), .int (nI i)] [] (z, h) 0 0 := by
      refine x_iconst (v := 1) dL_areClaims_355 rfl ?_
      refine x_goto (tgt := 360) dL_areClaims_356 (by decide) ?_
      refine e_isd (b := 1) (lv2 := [.ref x, .int (nI (nCl σ)), .int b2, .int b3, .int 1, .int (nI k), .int (nI w), .int (nI j), .int (nI g), .int (nI i)]) dL_areClaims_360 (Nat.le_of_ble_eq_true rfl) rfl rfl rfl ?_
      refine e_incd (b := nI (i + 1)) (lv2 := [.ref x, .int (nI (nCl σ)), .int b2, .int b3, .int 1, .int (nI k), .int (nI w), .int (nI j), .int (nI g), .int (nI (i + 1))]) dL_areClaims_362 rfl (nI_1 _) rfl rfl ?_
      refine x_goto (tgt := 302) dL_areClaims_365 (by decide) ?_
      exact ih (i + 1) (by omega)
    refine x_iload dL_areClaims_314 rfl ?_
    refine x_iconst (v := 1) dL_areClaims_316 rfl ?_
    refine x_icmp_gt (tgt := 355) dL_areClaims_317 (by decide) (fun c317 => ?_) (fun c317 => ?_)
    · exact j355
    · refine x_aload_n dL_areClaims_320 rfl ?_
      refine x_iload dL_areClaims_321 rfl ?_
      refine x_iconst (v := 4) dL_areClaims_323 rfl ?_
      refine l_rd (v := σ 9 i) dL_areClaims_324 kX4_ofClaim iX4_ofClaim q364 hX (fun _ _ _ a1 a2 a3 => x_ofClaim _ a1 a2 a3 _ _) rfl rfl rfl (Nat.le_of_ble_eq_true rfl) ⟨Nat.le_refl _, Nat.le_refl _⟩ ((ofC_n hX.q.2.1.cok (k := i) (by omega)).2.2.2.2.1) ?_
      refine x_iconst (v := 1) dL_areClaims_327 rfl ?_
      refine x_icmp_gt (tgt := 355) dL_areClaims_328 (by decide) (fun c328 => ?_) (fun c328 => ?_)
      · exact j355
      · refine x_aload_n dL_areClaims_331 rfl ?_
        refine x_iload dL_areClaims_332 rfl ?_
        refine x_iconst (v := 0) dL_areClaims_334 rfl ?_
        refine l_rd (v := σ 5 i) dL_areClaims_335 kX4_ofClaim iX4_ofClaim q364 hX (fun _ _ _ a1 a2 a3 => x_ofClaim _ a1 a2 a3 _ _) rfl rfl rfl (Nat.le_of_ble_eq_true rfl) ⟨Nat.le_refl _, Nat.le_refl _⟩ ((ofC_n hX.q.2.1.cok (k := i) (by omega)).1) ?_
        refine x_iload dL_areClaims_338 rfl ?_
        refine x_icmp_ne (tgt := 355) dL_areClaims_340 (by decide) (fun c340 => ?_) (fun c340 => ?_)
        · exact j355
        · refine x_aload_n dL_areClaims_343 rfl ?_
          refine x_iload dL_areClaims_344 rfl ?_
          refine x_iconst (v := 1) dL_areClaims_346 rfl ?_
          refine l_rd (v := σ 6 i) dL_areClaims_347 kX4_ofClaim iX4_ofClaim q364 hX (fun _ _ _ a1 a2 a3 => x_ofClaim _ a1 a2 a3 _ _) rfl rfl rfl (Nat.le_of_ble_eq_true rfl) ⟨Nat.le_refl _, Nat.le_refl _⟩ ((ofC_n hX.q.2.1.cok (k := i) (by omega)).2.1) ?_
          refine x_iload dL_areClaims_350 rfl ?_
          refine x_icmp_eq (tgt := 359) dL_areClaims_352 (by decide) (fun c => absurd c (hU i (by omega) c317 c328 (by first | exact c340 | exact Classical.byContradiction c340))) (fun _ => ?_)
          exact j355
