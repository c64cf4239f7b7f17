/-! THE LAW: its start -/
theorem z0_purse (w : Int32) : sPurse z0 w = 0 := by
  unfold sPurse
  refine lp_id _ _ _ fun i _ _ a => ?_
  unfold sSumf
  have e : z0 11 i = 0 := rfl
  rw [e, Int32.add_zero]
  split <;> rfl
theorem z0_inv : InvA z0 := by
  have n0 : nLo z0 = 0 := rfl
  have n1 : nCl z0 = 0 := rfl
  have n2 : nPd z0 = 0 := rfl
  have nc : ∀ {c : Nat} {α : Prop}, c < nCl z0 → α := fun h => absurd h (by rw [n1]; omega)
  have nl : ∀ {c : Nat} {α : Prop}, c < nLo z0 → α := fun h => absurd h (by rw [n0]; omega)
  have np : ∀ {c : Nat} {α : Prop}, c < nPd z0 → α := fun h => absurd h (by rw [n2]; omega)
  refine ⟨⟨⟨⟨rfl, by rw [n0]; omega⟩, ⟨⟨rfl, by rw [n1]; omega⟩, fun c h => nc h, fun c h => nc h, ⟨⟨rfl, by rw [n2]; omega⟩, fun k h => np h, fun k l h => np h⟩, fun g hg => ?_, fun c h => nc h⟩, fun c h => nc h, fun c h => nc h, ⟨fun j _ _ => ⟨rfl, rfl, rfl⟩, fun c _ _ => ⟨rfl, rfl, rfl, rfl⟩⟩, ⟨⟨366, by omega, by omega, rfl⟩, ⟨90, by omega, by omega, rfl⟩, ⟨5, by omega, rfl⟩, 0, by omega, rfl, fun j h => nl h, fun c h => nc h⟩, fun j h => nl h, fun c b h => nc h⟩, fun j hj => ?_⟩, fun j hj => ?_, fun c h => nc h⟩
  · have e : mPd z0 (nI g) = false := rfl
    rw [e, z0_purse]
    exact ⟨fun h => absurd h (by decide), fun h => absurd rfl h⟩
  · rw [z0_purse]
    rfl
  · rcases (show j = 0 ∨ j = 1 ∨ j = 2 ∨ j = 3 ∨ j = 4 by omega) with rfl | rfl | rfl | rfl | rfl
    · exact ⟨366, by decide, rfl⟩
    · exact ⟨60, by decide, rfl⟩
    · exact ⟨90, by decide, rfl⟩
    · exact ⟨30, by decide, rfl⟩
    · exact ⟨5, by decide, rfl⟩

theorem z0_q : QI z0 := by
  have n0 : nLo z0 = 0 := rfl
  have n1 : nCl z0 = 0 := rfl
  refine ⟨⟨fun j hj => absurd hj (by rw [n0]; omega), fun c hc => absurd hc (by rw [n1]; omega), rfl, ?_, ?_, ?_⟩, z0_inv.1.1, z0_inv.2⟩
  · rw [n0, n1]
    rfl
  · rw [n0]
    exact Nat.zero_le _
  · rw [n0, n1]
    exact Nat.le_refl _
theorem XS.start {h : Nat → Option va_E} {x : Nat} (hX : XAt h x z0 (fun _ => z0) 0 (fun _ => z0) (fun _ => 0) (fun _ => 0) (0, 0, 32, 0, 0, 0)) : XS h x z0 0 z0 (fun _ => z0) (fun _ => 0) := ⟨z0_q, _, _, _, hX, rfl, fun h => absurd h (Nat.lt_irrefl 0)⟩

set_option maxRecDepth 100000 in
set_option maxHeartbeats 8000000 in
theorem law_entry {st : Nat → Nat} {b L : Nat} {xs : Nat → Int32} (hL : L ≤ 260) (x : Nat) (h0 : Nat → Option va_E) : EvL st (x, h0) b L xs 0 [.ref b, .null, .null, .null, .null, .null, .null, .null, .null, .null, .null, .null, .null] [] (x, h0) 0 0 := by
  refine w_new (fs := [.null, .null, .null, .int 0, .null, .null]) tyX4 dL_law_0 (ci := 4) rfl tyX4_ok ⟨q29, q30, q21⟩ (fun j hj => by rcases (show j = 0 ∨ j = 1 ∨ j = 2 ∨ j = 3 ∨ j = 4 ∨ j = 5 by omega) with rfl | rfl | rfl | rfl | rfl | rfl <;> rfl) (Nat.le_of_ble_eq_true rfl) (Nat.le_of_ble_eq_true rfl) ?_
  dsimp only
  refine w_dup dL_law_3 rfl ?_
  refine w_callI (As := []) (n := 0) dL_law_4 kX4_init rfl q32 q31 (i_class 7 (h := hset h0 x (.inr (4, [.null, .null, .null, .int 0, .null, .null]))) (hset_s _ _ _)) rfl rfl (Nat.le_of_ble_eq_true rfl) ⟨Nat.le_of_ble_eq_true rfl, Nat.le_of_ble_eq_true rfl⟩ (fun r hp1 hq1 => ?_)
  obtain ⟨rfl, h, rfl, hX1, _⟩ := hq1
  refine w_astore_n dL_law_7 (Nat.le_of_ble_eq_true rfl) rfl ?_
  show EvL st (x, h0) b L xs 8 [.ref b, .ref x, .null, .null, .null, .null, .null, .null, .null, .null, .null, .null, .null] [] (x + 166, h) 166 3094
  have hX := XS.start hX1
  have hc : 166 ≤ 600000 ∧ 3094 ≤ 7302250 := ⟨Nat.le_of_ble_eq_true rfl, Nat.le_of_ble_eq_true rfl⟩
  refine w_aload_n dL_law_8 rfl ?_
  refine w_xq dL_law_9 kX4_undo iX4_undo q252 hX (ct_undo0 6 hX) rfl rfl rfl (Nat.le_of_ble_eq_true rfl) hc (fun r1 hR1 => ?_)
  refine w_bipush (v := (-5)) dL_law_12 rfl ?_
  refine w_icmp_ne (tgt := 120) dL_law_14 (by decide) (fun c => absurd (by decide) c) (fun _ => ?_)
  refine w_aload_n dL_law_17 rfl ?_
  refine w_iconst (v := 0) dL_law_18 rfl ?_
  refine w_xq dL_law_19 kX4_restore iX4_restore q274 hR1 (ct_rest0 5 hR1 (a := 0) rfl rfl) rfl rfl rfl (Nat.le_of_ble_eq_true rfl) hc (fun r2 hR2 => ?_)
  refine w_bipush (v := (-5)) dL_law_22 rfl ?_
  refine w_icmp_ne (tgt := 120) dL_law_24 (by decide) (fun c => absurd (by decide) c) (fun _ => ?_)
  refine w_aload_n dL_law_27 rfl ?_
  refine w_iconst (v := 1) dL_law_28 rfl ?_
  refine w_xq dL_law_29 kX4_restore iX4_restore q274 hR2 (ct_rest0 5 hR2 (a := 1) rfl rfl) rfl rfl rfl (Nat.le_of_ble_eq_true rfl) hc (fun r3 hR3 => ?_)
  refine w_bipush (v := (-5)) dL_law_32 rfl ?_
  refine w_icmp_ne (tgt := 120) dL_law_34 (by decide) (fun c => absurd (by decide) c) (fun _ => ?_)
  refine w_aload_n dL_law_37 rfl ?_
  refine w_bipush (v := 14) dL_law_38 rfl ?_
  refine w_cn (v := 366) dL_law_40 q201 hR3 (Nat.le_of_ble_eq_true rfl) hc (fun _ _ => (xn_14 _ _).trans rfl) ?_
  refine w_sipush (v := 366) dL_law_43 rfl ?_
  refine w_icmp_ne (tgt := 120) dL_law_46 (by decide) (fun c => absurd (by decide) c) (fun _ => ?_)
  refine w_aload_n dL_law_49 rfl ?_
  refine w_bipush (v := 15) dL_law_50 rfl ?_
  refine w_cn (v := 60) dL_law_52 q201 hR3 (Nat.le_of_ble_eq_true rfl) hc (fun _ _ => (xn_15 _ _).trans rfl) ?_
  refine w_bipush (v := 60) dL_law_55 rfl ?_
  refine w_icmp_ne (tgt := 120) dL_law_57 (by decide) (fun c => absurd (by decide) c) (fun _ => ?_)
  refine w_aload_n dL_law_60 rfl ?_
  refine w_bipush (v := 16) dL_law_61 rfl ?_
  refine w_cn (v := 90) dL_law_63 q201 hR3 (Nat.le_of_ble_eq_true rfl) hc (fun _ _ => (xn_16 _ _).trans rfl) ?_
  refine w_bipush (v := 90) dL_law_66 rfl ?_
  refine w_icmp_ne (tgt := 120) dL_law_68 (by decide) (fun c => absurd (by decide) c) (fun _ => ?_)
  refine w_aload_n dL_law_71 rfl ?_
  refine w_bipush (v := 17) dL_law_72 rfl ?_
  refine w_cn (v := 30) dL_law_74 q201 hR3 (Nat.le_of_ble_eq_true rfl) hc (fun _ _ => (xn_17 _ _).trans rfl) ?_
  refine w_bipush (v := 30) dL_law_77 rfl ?_
  refine w_icmp_ne (tgt := 120) dL_law_79 (by decide) (fun c => absurd (by decide) c) (fun _ => ?_)
  refine w_aload_n dL_law_82 rfl ?_
  refine w_bipush (v := 18) dL_law_83 rfl ?_
  refine w_cn (v := 5) dL_law_85 q201 hR3 (Nat.le_of_ble_eq_true rfl) hc (fun _ _ => (xn_18 _ _).trans rfl) ?_
  refine w_iconst (v := 5) dL_law_88 rfl ?_
  refine w_icmp_ne (tgt := 120) dL_law_89 (by decide) (fun c => absurd (by decide) c) (fun _ => ?_)
  refine w_aload_n dL_law_92 rfl ?_
  refine w_iconst (v := 0) dL_law_93 rfl ?_
  refine w_sq dL_law_94 kL_refuses q440 q439 (t_refuses 1 hR3 (a := 0) (by decide) rfl) rfl rfl (Nat.le_of_ble_eq_true rfl) hc (fun r4 hR4 => ?_)
  refine w_if_eq (tgt := 120) dL_law_97 (by decide) (fun c => absurd c (by decide)) (fun _ => ?_)
  refine w_aload_n dL_law_100 rfl ?_
  refine w_iconst (v := 1) dL_law_101 rfl ?_
  refine w_sq dL_law_102 kL_refuses q440 q439 (t_refuses 1 hR4 (a := 1) (by decide) rfl) rfl rfl (Nat.le_of_ble_eq_true rfl) hc (fun r5 hR5 => ?_)
  refine w_if_eq (tgt := 120) dL_law_105 (by decide) (fun c => absurd c (by decide)) (fun _ => ?_)
  refine w_aload_n dL_law_108 rfl ?_
  refine w_iconst (v := 1) dL_law_109 rfl ?_
  refine w_xq dL_law_110 kX4_save iX4_save q270 hR5 (ct_save 6 hR5 (a := 1) rfl) rfl rfl rfl (Nat.le_of_ble_eq_true rfl) hc (fun r6 hR6 => ?_)
  refine w_if_ne (tgt := 120) dL_law_113 (by decide) (fun c => absurd rfl c) (fun _ => ?_)
  refine w_iconst (v := 1) dL_law_116 rfl ?_
  refine w_goto (tgt := 121) dL_law_117 (by decide) ?_
  refine w_isd_n (a2 := 1) (lv2 := [.ref b, .ref x, .int 1, .null, .null, .null, .null, .null, .null, .null, .null, .null, .null]) dL_law_121 (Nat.le_of_ble_eq_true rfl) rfl rfl rfl ?_
  refine w_iconst (v := 0) dL_law_122 rfl ?_
  refine w_isd_n (a2 := nI 0) (lv2 := [.ref b, .ref x, .int 1, .int (nI 0), .null, .null, .null, .null, .null, .null, .null, .null, .null]) dL_law_123 (Nat.le_of_ble_eq_true rfl) rfl rfl rfl ?_
  exact L_law hL hc 70 0 _ rfl ⟨_, _, _, _, _, hR6, by unfold upd; rw [if_pos (show (1 : Nat) = (1 : Int32).toNatClampNeg from rfl)]; decide, by unfold hup; split <;> exact z0_q, by unfold hup; split <;> rfl, by unfold hup; split <;> rfl⟩ _ _ _ _ _ _ _ _ _
