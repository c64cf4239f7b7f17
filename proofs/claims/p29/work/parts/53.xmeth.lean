set_option maxRecDepth 100000 in
set_option maxHeartbeats 4000000 in
theorem x_set {st : Nat → Nat} (d : Nat) {z : Nat} {h : Nat → Option va_E} {x : Nat} {σ : Sg} {H : Nat → Sg} {n : Nat} {sl : Nat → Sg} {sv : Nat → Int32} {T : Nat → Nat} {P : PD} (hX : XAt h x σ H n sl sv T P) (hK : Ok3 σ) (hQ : P.1 ≤ 80) (a b : Int32) : CT st (d + 6) yX4_set cX4_set 3 (some .int) [.ref x, .int a, .int b] (z, h) 0 0 (XMO (some (.int (oSet σ a b).1)) z x h (oSet σ a b).2 (recH (oSet σ a b).1 (hup H n σ) n) (recN (oSet σ a b).1 n) sl sv T P) := by
  refine CT.of (lv := [.ref x, .int a, .int b]) (by decide) (Nat.le_of_ble_eq_true rfl) rfl rfl ?_
  refine x_aload_n dX4_set_0 rfl ?_
  refine c_XX dX4_set_1 kX4_draft iX4_draft q278 hX (t_draft _ hX) rfl rfl rfl (Nat.le_of_ble_eq_true rfl) ⟨Nat.le_refl _, Nat.le_refl _⟩ (fun h1 hX1 hF1 => ?_)
  refine x_aload_n dX4_set_4 rfl ?_
  refine x_aload_n dX4_set_5 rfl ?_
  refine x_get dX4_set_6 fX4_10 hX1.ob rfl ?_
  refine x_iload_n dX4_set_9 rfl ?_
  refine x_iload_n dX4_set_10 rfl ?_
  refine c_XM dX4_set_11 kX2_changeSetting iX2_changeSetting q449 hX1 (t_changeSetting _ hX1.main hK.1 hK.2.1 _ _) rfl rfl rfl (Nat.le_of_ble_eq_true rfl) ⟨Nat.le_refl _, Nat.le_refl _⟩ (fun h2 hX2 hF2 => ?_)
  refine c_XX dX4_set_14 kX4_recorded iX4_recorded q282 hX2 (t_recorded _ hX2 _) rfl rfl rfl (Nat.le_of_ble_eq_true rfl) ⟨Nat.le_refl _, Nat.le_refl _⟩ (fun h3 hX3 hF3 => ?_)
  refine x_iret dX4_set_17 (Or.inl rfl) rfl (Nat.le_refl _) ?_
  exact ⟨rfl, _, rfl, hX3, ((hF1.tr hF2).tr hF3)⟩

set_option maxRecDepth 100000 in
set_option maxHeartbeats 4000000 in
theorem x_lot {st : Nat → Nat} (d : Nat) {z : Nat} {h : Nat → Option va_E} {x : Nat} {σ : Sg} {H : Nat → Sg} {n : Nat} {sl : Nat → Sg} {sv : Nat → Int32} {T : Nat → Nat} {P : PD} (hX : XAt h x σ H n sl sv T P) (hK : Ok3 σ) (hQ : P.1 ≤ 80) (a : Int32) : CT st (d + 6) yX4_lot cX4_lot 2 (some .int) [.ref x, .int a] (z, h) 0 0 (XMO (some (.int (oLot σ a).1)) z x h (oLot σ a).2 (recH (oLot σ a).1 (hup H n σ) n) (recN (oLot σ a).1 n) sl sv T P) := by
  refine CT.of (lv := [.ref x, .int a]) (by decide) (Nat.le_of_ble_eq_true rfl) rfl rfl ?_
  refine x_aload_n dX4_lot_0 rfl ?_
  refine c_XX dX4_lot_1 kX4_draft iX4_draft q278 hX (t_draft _ hX) rfl rfl rfl (Nat.le_of_ble_eq_true rfl) ⟨Nat.le_refl _, Nat.le_refl _⟩ (fun h1 hX1 hF1 => ?_)
  refine x_aload_n dX4_lot_4 rfl ?_
  refine x_aload_n dX4_lot_5 rfl ?_
  refine x_get dX4_lot_6 fX4_10 hX1.ob rfl ?_
  refine x_iload_n dX4_lot_9 rfl ?_
  refine c_XM dX4_lot_10 kX2_addLot iX2_addLot q461 hX1 (t_addLot _ hX1.main hK.1 hK.2.1 _) rfl rfl rfl (Nat.le_of_ble_eq_true rfl) ⟨Nat.le_refl _, Nat.le_refl _⟩ (fun h2 hX2 hF2 => ?_)
  refine c_XX dX4_lot_13 kX4_recorded iX4_recorded q282 hX2 (t_recorded _ hX2 _) rfl rfl rfl (Nat.le_of_ble_eq_true rfl) ⟨Nat.le_refl _, Nat.le_refl _⟩ (fun h3 hX3 hF3 => ?_)
  refine x_iret dX4_lot_16 (Or.inl rfl) rfl (Nat.le_refl _) ?_
  exact ⟨rfl, _, rfl, hX3, ((hF1.tr hF2).tr hF3)⟩

set_option maxRecDepth 100000 in
set_option maxHeartbeats 4000000 in
theorem x_notice {st : Nat → Nat} (d : Nat) {z : Nat} {h : Nat → Option va_E} {x : Nat} {σ : Sg} {H : Nat → Sg} {n : Nat} {sl : Nat → Sg} {sv : Nat → Int32} {T : Nat → Nat} {P : PD} (hX : XAt h x σ H n sl sv T P) (hK : Ok3 σ) (hQ : P.1 ≤ 80) (a : Int32) : CT st (d + 6) yX4_notice cX4_notice 2 (some .int) [.ref x, .int a] (z, h) 0 0 (XMO (some (.int (oNotice σ a).1)) z x h (oNotice σ a).2 (recH (oNotice σ a).1 (hup H n σ) n) (recN (oNotice σ a).1 n) sl sv T P) := by
  refine CT.of (lv := [.ref x, .int a]) (by decide) (Nat.le_of_ble_eq_true rfl) rfl rfl ?_
  refine x_aload_n dX4_notice_0 rfl ?_
  refine c_XX dX4_notice_1 kX4_draft iX4_draft q278 hX (t_draft _ hX) rfl rfl rfl (Nat.le_of_ble_eq_true rfl) ⟨Nat.le_refl _, Nat.le_refl _⟩ (fun h1 hX1 hF1 => ?_)
  refine x_aload_n dX4_notice_4 rfl ?_
  refine x_aload_n dX4_notice_5 rfl ?_
  refine x_get dX4_notice_6 fX4_10 hX1.ob rfl ?_
  refine x_iload_n dX4_notice_9 rfl ?_
  refine c_XM dX4_notice_10 kX2_giveNotice iX2_giveNotice q469 hX1 (t_giveNotice _ hX1.main hK.1 hK.2.1 _) rfl rfl rfl (Nat.le_of_ble_eq_true rfl) ⟨Nat.le_refl _, Nat.le_refl _⟩ (fun h2 hX2 hF2 => ?_)
  refine c_XX dX4_notice_13 kX4_recorded iX4_recorded q282 hX2 (t_recorded _ hX2 _) rfl rfl rfl (Nat.le_of_ble_eq_true rfl) ⟨Nat.le_refl _, Nat.le_refl _⟩ (fun h3 hX3 hF3 => ?_)
  refine x_iret dX4_notice_16 (Or.inl rfl) rfl (Nat.le_refl _) ?_
  exact ⟨rfl, _, rfl, hX3, ((hF1.tr hF2).tr hF3)⟩

set_option maxRecDepth 100000 in
set_option maxHeartbeats 4000000 in
theorem x_claim {st : Nat → Nat} (d : Nat) {z : Nat} {h : Nat → Option va_E} {x : Nat} {σ : Sg} {H : Nat → Sg} {n : Nat} {sl : Nat → Sg} {sv : Nat → Int32} {T : Nat → Nat} {P : PD} (hX : XAt h x σ H n sl sv T P) (hK : Ok3 σ) (hQ : P.1 ≤ 80) (a b c : Int32) : CT st (d + 6) yX4_claim cX4_claim 4 (some .int) [.ref x, .int a, .int b, .int c] (z, h) 0 0 (XMO (some (.int (oClaim σ a b c).1)) z x h (oClaim σ a b c).2 (recH (oClaim σ a b c).1 (hup H n σ) n) (recN (oClaim σ a b c).1 n) sl sv T P) := by
  refine CT.of (lv := [.ref x, .int a, .int b, .int c]) (by decide) (Nat.le_of_ble_eq_true rfl) rfl rfl ?_
  refine x_aload_n dX4_claim_0 rfl ?_
  refine c_XX dX4_claim_1 kX4_draft iX4_draft q278 hX (t_draft _ hX) rfl rfl rfl (Nat.le_of_ble_eq_true rfl) ⟨Nat.le_refl _, Nat.le_refl _⟩ (fun h1 hX1 hF1 => ?_)
  refine x_aload_n dX4_claim_4 rfl ?_
  refine x_aload_n dX4_claim_5 rfl ?_
  refine x_get dX4_claim_6 fX4_10 hX1.ob rfl ?_
  refine x_iload_n dX4_claim_9 rfl ?_
  refine x_iload_n dX4_claim_10 rfl ?_
  refine x_iload_n dX4_claim_11 rfl ?_
  refine c_XM dX4_claim_12 kX2_addClaim iX2_addClaim q477 hX1 (t_addClaim _ hX1.main hK.1 hK.2.1 _ _ _) rfl rfl rfl (Nat.le_of_ble_eq_true rfl) ⟨Nat.le_refl _, Nat.le_refl _⟩ (fun h2 hX2 hF2 => ?_)
  refine c_XX dX4_claim_15 kX4_recorded iX4_recorded q282 hX2 (t_recorded _ hX2 _) rfl rfl rfl (Nat.le_of_ble_eq_true rfl) ⟨Nat.le_refl _, Nat.le_refl _⟩ (fun h3 hX3 hF3 => ?_)
  refine x_iret dX4_claim_18 (Or.inl rfl) rfl (Nat.le_refl _) ?_
  exact ⟨rfl, _, rfl, hX3, ((hF1.tr hF2).tr hF3)⟩

set_option maxRecDepth 100000 in
set_option maxHeartbeats 4000000 in
theorem x_prove {st : Nat → Nat} (d : Nat) {z : Nat} {h : Nat → Option va_E} {x : Nat} {σ : Sg} {H : Nat → Sg} {n : Nat} {sl : Nat → Sg} {sv : Nat → Int32} {T : Nat → Nat} {P : PD} (hX : XAt h x σ H n sl sv T P) (hK : Ok3 σ) (hQ : P.1 ≤ 80) (a b : Int32) : CT st (d + 6) yX4_prove cX4_prove 3 (some .int) [.ref x, .int a, .int b] (z, h) 0 0 (XMO (some (.int (oProve σ a b).1)) z x h (oProve σ a b).2 (recH (oProve σ a b).1 (hup H n σ) n) (recN (oProve σ a b).1 n) sl sv T P) := by
  refine CT.of (lv := [.ref x, .int a, .int b]) (by decide) (Nat.le_of_ble_eq_true rfl) rfl rfl ?_
  refine x_aload_n dX4_prove_0 rfl ?_
  refine c_XX dX4_prove_1 kX4_draft iX4_draft q278 hX (t_draft _ hX) rfl rfl rfl (Nat.le_of_ble_eq_true rfl) ⟨Nat.le_refl _, Nat.le_refl _⟩ (fun h1 hX1 hF1 => ?_)
  refine x_aload_n dX4_prove_4 rfl ?_
  refine x_aload_n dX4_prove_5 rfl ?_
  refine x_get dX4_prove_6 fX4_10 hX1.ob rfl ?_
  refine x_iload_n dX4_prove_9 rfl ?_
  refine x_iload_n dX4_prove_10 rfl ?_
  refine c_XM dX4_prove_11 kX2_addProof iX2_addProof q493 hX1 (t_addProof _ hX1.main hK.1 hK.2.1 _ _) rfl rfl rfl (Nat.le_of_ble_eq_true rfl) ⟨Nat.le_refl _, Nat.le_refl _⟩ (fun h2 hX2 hF2 => ?_)
  refine c_XX dX4_prove_14 kX4_recorded iX4_recorded q282 hX2 (t_recorded _ hX2 _) rfl rfl rfl (Nat.le_of_ble_eq_true rfl) ⟨Nat.le_refl _, Nat.le_refl _⟩ (fun h3 hX3 hF3 => ?_)
  refine x_iret dX4_prove_17 (Or.inl rfl) rfl (Nat.le_refl _) ?_
  exact ⟨rfl, _, rfl, hX3, ((hF1.tr hF2).tr hF3)⟩

set_option maxRecDepth 100000 in
set_option maxHeartbeats 4000000 in
theorem x_decide {st : Nat → Nat} (d : Nat) {z : Nat} {h : Nat → Option va_E} {x : Nat} {σ : Sg} {H : Nat → Sg} {n : Nat} {sl : Nat → Sg} {sv : Nat → Int32} {T : Nat → Nat} {P : PD} (hX : XAt h x σ H n sl sv T P) (hK : Ok3 σ) (hQ : P.1 ≤ 80) (a : Int32) : CT st (d + 6) yX4_decide cX4_decide 2 (some .int) [.ref x, .int a] (z, h) 0 0 (XMO (some (.int (oDecide σ a).1)) z x h (oDecide σ a).2 (recH (oDecide σ a).1 (hup H n σ) n) (recN (oDecide σ a).1 n) sl sv T P) := by
  refine CT.of (lv := [.ref x, .int a]) (by decide) (Nat.le_of_ble_eq_true rfl) rfl rfl ?_
  refine x_aload_n dX4_decide_0 rfl ?_
  refine c_XX dX4_decide_1 kX4_draft iX4_draft q278 hX (t_draft _ hX) rfl rfl rfl (Nat.le_of_ble_eq_true rfl) ⟨Nat.le_refl _, Nat.le_refl _⟩ (fun h1 hX1 hF1 => ?_)
  refine x_aload_n dX4_decide_4 rfl ?_
  refine x_aload_n dX4_decide_5 rfl ?_
  refine x_get dX4_decide_6 fX4_10 hX1.ob rfl ?_
  refine x_iload_n dX4_decide_9 rfl ?_
  refine c_XM dX4_decide_10 kX2_judge iX2_judge q502 hX1 (t_judge _ hX1.main hK.1 hK.2.1 _) rfl rfl rfl (Nat.le_of_ble_eq_true rfl) ⟨Nat.le_refl _, Nat.le_refl _⟩ (fun h2 hX2 hF2 => ?_)
  refine c_XX dX4_decide_13 kX4_recorded iX4_recorded q282 hX2 (t_recorded _ hX2 _) rfl rfl rfl (Nat.le_of_ble_eq_true rfl) ⟨Nat.le_refl _, Nat.le_refl _⟩ (fun h3 hX3 hF3 => ?_)
  refine x_iret dX4_decide_16 (Or.inl rfl) rfl (Nat.le_refl _) ?_
  exact ⟨rfl, _, rfl, hX3, ((hF1.tr hF2).tr hF3)⟩

set_option maxRecDepth 100000 in
set_option maxHeartbeats 4000000 in
theorem x_withdraw {st : Nat → Nat} (d : Nat) {z : Nat} {h : Nat → Option va_E} {x : Nat} {σ : Sg} {H : Nat → Sg} {n : Nat} {sl : Nat → Sg} {sv : Nat → Int32} {T : Nat → Nat} {P : PD} (hX : XAt h x σ H n sl sv T P) (hK : Ok3 σ) (hQ : P.1 ≤ 80) (a : Int32) : CT st (d + 6) yX4_withdraw cX4_withdraw 2 (some .int) [.ref x, .int a] (z, h) 0 0 (XMO (some (.int (oWithdraw σ a).1)) z x h (oWithdraw σ a).2 (recH (oWithdraw σ a).1 (hup H n σ) n) (recN (oWithdraw σ a).1 n) sl sv T P) := by
  refine CT.of (lv := [.ref x, .int a]) (by decide) (Nat.le_of_ble_eq_true rfl) rfl rfl ?_
  refine x_aload_n dX4_withdraw_0 rfl ?_
  refine c_XX dX4_withdraw_1 kX4_draft iX4_draft q278 hX (t_draft _ hX) rfl rfl rfl (Nat.le_of_ble_eq_true rfl) ⟨Nat.le_refl _, Nat.le_refl _⟩ (fun h1 hX1 hF1 => ?_)
  refine x_aload_n dX4_withdraw_4 rfl ?_
  refine x_aload_n dX4_withdraw_5 rfl ?_
  refine x_get dX4_withdraw_6 fX4_10 hX1.ob rfl ?_
  refine x_iload_n dX4_withdraw_9 rfl ?_
  refine c_XM dX4_withdraw_10 kX2_takeBack iX2_takeBack q510 hX1 (t_takeBack _ hX1.main hK.1 hK.2.1 _) rfl rfl rfl (Nat.le_of_ble_eq_true rfl) ⟨Nat.le_refl _, Nat.le_refl _⟩ (fun h2 hX2 hF2 => ?_)
  refine c_XX dX4_withdraw_13 kX4_recorded iX4_recorded q282 hX2 (t_recorded _ hX2 _) rfl rfl rfl (Nat.le_of_ble_eq_true rfl) ⟨Nat.le_refl _, Nat.le_refl _⟩ (fun h3 hX3 hF3 => ?_)
  refine x_iret dX4_withdraw_16 (Or.inl rfl) rfl (Nat.le_refl _) ?_
  exact ⟨rfl, _, rfl, hX3, ((hF1.tr hF2).tr hF3)⟩

set_option maxRecDepth 100000 in
set_option maxHeartbeats 4000000 in
theorem x_settle {st : Nat → Nat} (d : Nat) {z : Nat} {h : Nat → Option va_E} {x : Nat} {σ : Sg} {H : Nat → Sg} {n : Nat} {sl : Nat → Sg} {sv : Nat → Int32} {T : Nat → Nat} {P : PD} (hX : XAt h x σ H n sl sv T P) (hK : Ok3 σ) (hQ : P.1 ≤ 80) (a : Int32) : CT st (d + 6) yX4_settle cX4_settle 2 (some .int) [.ref x, .int a] (z, h) 0 0 (XMO (some (.int (oSettle σ a).1)) z x h (oSettle σ a).2 (recH (oSettle σ a).1 (hup H n σ) n) (recN (oSettle σ a).1 n) sl sv T P) := by
  refine CT.of (lv := [.ref x, .int a]) (by decide) (Nat.le_of_ble_eq_true rfl) rfl rfl ?_
  refine x_aload_n dX4_settle_0 rfl ?_
  refine c_XX dX4_settle_1 kX4_draft iX4_draft q278 hX (t_draft _ hX) rfl rfl rfl (Nat.le_of_ble_eq_true rfl) ⟨Nat.le_refl _, Nat.le_refl _⟩ (fun h1 hX1 hF1 => ?_)
  refine x_aload_n dX4_settle_4 rfl ?_
  refine x_aload_n dX4_settle_5 rfl ?_
  refine x_get dX4_settle_6 fX4_10 hX1.ob rfl ?_
  refine x_iload_n dX4_settle_9 rfl ?_
  refine c_XM dX4_settle_10 kX2_shareOut iX2_shareOut q522 hX1 (t_shareOut _ hX1.main hK.1 hK.2.1 hK.2.2 _) rfl rfl rfl (Nat.le_of_ble_eq_true rfl) ⟨Nat.le_refl _, Nat.le_refl _⟩ (fun h2 hX2 hF2 => ?_)
  refine c_XX dX4_settle_13 kX4_recorded iX4_recorded q282 hX2 (t_recorded _ hX2 _) rfl rfl rfl (Nat.le_of_ble_eq_true rfl) ⟨Nat.le_refl _, Nat.le_refl _⟩ (fun h3 hX3 hF3 => ?_)
  refine x_iret dX4_settle_16 (Or.inl rfl) rfl (Nat.le_refl _) ?_
  exact ⟨rfl, _, rfl, hX3, ((hF1.tr hF2).tr hF3)⟩

set_option maxRecDepth 100000 in
set_option maxHeartbeats 4000000 in
theorem x_pass {st : Nat → Nat} (d : Nat) {z : Nat} {h : Nat → Option va_E} {x : Nat} {σ : Sg} {H : Nat → Sg} {n : Nat} {sl : Nat → Sg} {sv : Nat → Int32} {T : Nat → Nat} {P : PD} (hX : XAt h x σ H n sl sv T P) (hK : Ok3 σ) (hQ : P.1 ≤ 80) (a : Int32) : CT st (d + 6) yX4_pass cX4_pass 2 (some .int) [.ref x, .int a] (z, h) 0 0 (XMO (some (.int (oPass σ a).1)) z x h (oPass σ a).2 (recH (oPass σ a).1 (hup H n σ) n) (recN (oPass σ a).1 n) sl sv T P) := by
  refine CT.of (lv := [.ref x, .int a]) (by decide) (Nat.le_of_ble_eq_true rfl) rfl rfl ?_
  refine x_aload_n dX4_pass_0 rfl ?_
  refine c_XX dX4_pass_1 kX4_draft iX4_draft q278 hX (t_draft _ hX) rfl rfl rfl (Nat.le_of_ble_eq_true rfl) ⟨Nat.le_refl _, Nat.le_refl _⟩ (fun h1 hX1 hF1 => ?_)
  refine x_aload_n dX4_pass_4 rfl ?_
  refine x_aload_n dX4_pass_5 rfl ?_
  refine x_get dX4_pass_6 fX4_10 hX1.ob rfl ?_
  refine x_iload_n dX4_pass_9 rfl ?_
  refine c_XM dX4_pass_10 kX2_passDays iX2_passDays q550 hX1 (t_passDays _ hX1.main hK.1 hK.2.1 _) rfl rfl rfl (Nat.le_of_ble_eq_true rfl) ⟨Nat.le_refl _, Nat.le_refl _⟩ (fun h2 hX2 hF2 => ?_)
  refine c_XX dX4_pass_13 kX4_recorded iX4_recorded q282 hX2 (t_recorded _ hX2 _) rfl rfl rfl (Nat.le_of_ble_eq_true rfl) ⟨Nat.le_refl _, Nat.le_refl _⟩ (fun h3 hX3 hF3 => ?_)
  refine x_iret dX4_pass_16 (Or.inl rfl) rfl (Nat.le_refl _) ?_
  exact ⟨rfl, _, rfl, hX3, ((hF1.tr hF2).tr hF3)⟩

set_option maxRecDepth 100000 in
set_option maxHeartbeats 4000000 in
theorem x_of {st : Nat → Nat} (d : Nat) {z : Nat} {h : Nat → Option va_E} {x : Nat} {σ : Sg} {H : Nat → Sg} {n : Nat} {sl : Nat → Sg} {sv : Nat → Int32} {T : Nat → Nat} {P : PD} (hX : XAt h x σ H n sl sv T P) (hK : Ok3 σ) (hQ : P.1 ≤ 80) (a b : Int32) : CT st (d + 7) yX4_of cX4_of 3 (some .int) [.ref x, .int a, .int b] (z, h) 0 0 (RO (some (.int (oOf σ a b))) (z, h)) := by
  refine CT.of (lv := [.ref x, .int a, .int b]) (by decide) (Nat.le_of_ble_eq_true rfl) rfl rfl ?_
  refine x_aload_n dX4_of_0 rfl ?_
  refine x_get dX4_of_1 fX4_10 hX.ob rfl ?_
  refine x_iload_n dX4_of_4 rfl ?_
  refine x_iload_n dX4_of_5 rfl ?_
  refine c_VR dX4_of_6 kX2_aboutLot iX2_aboutLot q313 (t_aboutLot _ hX.main hK.1 hK.2.1 _ _) hX.main.ob rfl rfl rfl (Nat.le_of_ble_eq_true rfl) ⟨Nat.le_refl _, Nat.le_refl _⟩ ?_
  refine x_iret dX4_of_9 (Or.inl rfl) rfl (Nat.le_refl _) ?_
  exact RO.mk rfl

set_option maxRecDepth 100000 in
set_option maxHeartbeats 4000000 in
theorem x_ofClaim {st : Nat → Nat} (d : Nat) {z : Nat} {h : Nat → Option va_E} {x : Nat} {σ : Sg} {H : Nat → Sg} {n : Nat} {sl : Nat → Sg} {sv : Nat → Int32} {T : Nat → Nat} {P : PD} (hX : XAt h x σ H n sl sv T P) (hK : Ok3 σ) (hQ : P.1 ≤ 80) (a b : Int32) : CT st (d + 7) yX4_ofClaim cX4_ofClaim 3 (some .int) [.ref x, .int a, .int b] (z, h) 0 0 (RO (some (.int (oOfClaim σ a b))) (z, h)) := by
  refine CT.of (lv := [.ref x, .int a, .int b]) (by decide) (Nat.le_of_ble_eq_true rfl) rfl rfl ?_
  refine x_aload_n dX4_ofClaim_0 rfl ?_
  refine x_get dX4_ofClaim_1 fX4_10 hX.ob rfl ?_
  refine x_iload_n dX4_ofClaim_4 rfl ?_
  refine x_iload_n dX4_ofClaim_5 rfl ?_
  refine c_VR dX4_ofClaim_6 kX2_aboutClaim iX2_aboutClaim q368 (t_aboutClaim _ hX.main hK.1 hK.2.1 _ _) hX.main.ob rfl rfl rfl (Nat.le_of_ble_eq_true rfl) ⟨Nat.le_refl _, Nat.le_refl _⟩ ?_
  refine x_iret dX4_ofClaim_9 (Or.inl rfl) rfl (Nat.le_refl _) ?_
  exact RO.mk rfl

set_option maxRecDepth 100000 in
set_option maxHeartbeats 4000000 in
theorem x_heir {st : Nat → Nat} (d : Nat) {z : Nat} {h : Nat → Option va_E} {x : Nat} {σ : Sg} {H : Nat → Sg} {n : Nat} {sl : Nat → Sg} {sv : Nat → Int32} {T : Nat → Nat} {P : PD} (hX : XAt h x σ H n sl sv T P) (hK : Ok3 σ) (hQ : P.1 ≤ 80) (a b : Int32) : CT st (d + 7) yX4_heir cX4_heir 3 (some .int) [.ref x, .int a, .int b] (z, h) 0 0 (RO (some (.int (oHeir σ a b))) (z, h)) := by
  refine CT.of (lv := [.ref x, .int a, .int b]) (by decide) (Nat.le_of_ble_eq_true rfl) rfl rfl ?_
  refine x_aload_n dX4_heir_0 rfl ?_
  refine x_get dX4_heir_1 fX4_10 hX.ob rfl ?_
  refine x_iload_n dX4_heir_4 rfl ?_
  refine x_iload_n dX4_heir_5 rfl ?_
  refine c_VR dX4_heir_6 kX2_aboutHeir iX2_aboutHeir q344 (t_aboutHeir _ hX.main hK.1 hK.2.1 _ _) hX.main.ob rfl rfl rfl (Nat.le_of_ble_eq_true rfl) ⟨Nat.le_refl _, Nat.le_refl _⟩ ?_
  refine x_iret dX4_heir_9 (Or.inl rfl) rfl (Nat.le_refl _) ?_
  exact RO.mk rfl

set_option maxRecDepth 100000 in
set_option maxHeartbeats 4000000 in
theorem x_paid {st : Nat → Nat} (d : Nat) {z : Nat} {h : Nat → Option va_E} {x : Nat} {σ : Sg} {H : Nat → Sg} {n : Nat} {sl : Nat → Sg} {sv : Nat → Int32} {T : Nat → Nat} {P : PD} (hX : XAt h x σ H n sl sv T P) (hK : Ok3 σ) (hQ : P.1 ≤ 80) (a : Int32) : CT st (d + 7) yX4_paid cX4_paid 2 (some .int) [.ref x, .int a] (z, h) 0 0 (RO (some (.int (oPaid σ a))) (z, h)) := by
  refine CT.of (lv := [.ref x, .int a]) (by decide) (Nat.le_of_ble_eq_true rfl) rfl rfl ?_
  refine x_aload_n dX4_paid_0 rfl ?_
  refine x_get dX4_paid_1 fX4_10 hX.ob rfl ?_
  refine x_iload_n dX4_paid_4 rfl ?_
  refine c_VR dX4_paid_5 kX2_heirPaid iX2_heirPaid q305 (t_heirPaid _ hX.main hK.1 hK.2.1 hK.2.2 _) hX.main.ob rfl rfl rfl (Nat.le_of_ble_eq_true rfl) ⟨Nat.le_refl _, Nat.le_refl _⟩ ?_
  refine x_iret dX4_paid_8 (Or.inl rfl) rfl (Nat.le_refl _) ?_
  exact RO.mk rfl

set_option maxRecDepth 100000 in
set_option maxHeartbeats 4000000 in
theorem x_why {st : Nat → Nat} (d : Nat) {z : Nat} {h : Nat → Option va_E} {x : Nat} {σ : Sg} {H : Nat → Sg} {n : Nat} {sl : Nat → Sg} {sv : Nat → Int32} {T : Nat → Nat} {P : PD} (hX : XAt h x σ H n sl sv T P) (hK : Ok3 σ) (hQ : P.1 ≤ 80) (a : Int32) : CT st (d + 7) yX4_why cX4_why 2 (some .int) [.ref x, .int a] (z, h) 0 0 (RO (some (.int (oWhy σ a))) (z, h)) := by
  refine CT.of (lv := [.ref x, .int a]) (by decide) (Nat.le_of_ble_eq_true rfl) rfl rfl ?_
  refine x_aload_n dX4_why_0 rfl ?_
  refine x_get dX4_why_1 fX4_10 hX.ob rfl ?_
  refine x_iload_n dX4_why_4 rfl ?_
  refine c_VR dX4_why_5 kX2_whyNot iX2_whyNot q383 (t_whyNot _ hX.main hK.1 hK.2.1 _) hX.main.ob rfl rfl rfl (Nat.le_of_ble_eq_true rfl) ⟨Nat.le_refl _, Nat.le_refl _⟩ ?_
  refine x_iret dX4_why_8 (Or.inl rfl) rfl (Nat.le_refl _) ?_
  exact RO.mk rfl

set_option maxRecDepth 100000 in
set_option maxHeartbeats 4000000 in
theorem x_fallsIn {st : Nat → Nat} (d : Nat) {z : Nat} {h : Nat → Option va_E} {x : Nat} {σ : Sg} {H : Nat → Sg} {n : Nat} {sl : Nat → Sg} {sv : Nat → Int32} {T : Nat → Nat} {P : PD} (hX : XAt h x σ H n sl sv T P) (hK : Ok3 σ) (hQ : P.1 ≤ 80) (a : Int32) : CT st (d + 7) yX4_fallsIn cX4_fallsIn 2 (some .int) [.ref x, .int a] (z, h) 0 0 (RO (some (.int (oFalls σ a))) (z, h)) := by
  refine CT.of (lv := [.ref x, .int a]) (by decide) (Nat.le_of_ble_eq_true rfl) rfl rfl ?_
  refine x_aload_n dX4_fallsIn_0 rfl ?_
  refine x_get dX4_fallsIn_1 fX4_10 hX.ob rfl ?_
  refine x_iload_n dX4_fallsIn_4 rfl ?_
  refine c_VR dX4_fallsIn_5 kX2_daysToFall iX2_daysToFall q395 (t_daysToFall _ hX.main hK.1 hK.2.1 _) hX.main.ob rfl rfl rfl (Nat.le_of_ble_eq_true rfl) ⟨Nat.le_refl _, Nat.le_refl _⟩ ?_
  refine x_iret dX4_fallsIn_8 (Or.inl rfl) rfl (Nat.le_refl _) ?_
  exact RO.mk rfl

set_option maxRecDepth 100000 in
set_option maxHeartbeats 4000000 in
theorem x_share {st : Nat → Nat} (d : Nat) {z : Nat} {h : Nat → Option va_E} {x : Nat} {σ : Sg} {H : Nat → Sg} {n : Nat} {sl : Nat → Sg} {sv : Nat → Int32} {T : Nat → Nat} {P : PD} (hX : XAt h x σ H n sl sv T P) (hK : Ok3 σ) (hQ : P.1 ≤ 80) (a b c : Int32) : CT st (d + 7) yX4_share cX4_share 4 (some .int) [.ref x, .int a, .int b, .int c] (z, h) 0 0 (RO (some (.int (oShare σ a b c))) (z, h)) := by
  refine CT.of (lv := [.ref x, .int a, .int b, .int c]) (by decide) (Nat.le_of_ble_eq_true rfl) rfl rfl ?_
  refine x_aload_n dX4_share_0 rfl ?_
  refine x_get dX4_share_1 fX4_10 hX.ob rfl ?_
  refine x_iload_n dX4_share_4 rfl ?_
  refine x_iload_n dX4_share_5 rfl ?_
  refine x_iload_n dX4_share_6 rfl ?_
  refine c_VR dX4_share_7 kX2_wouldGet iX2_wouldGet q576 (t_wouldGet _ hX.main hK.1 hK.2.1 _ _ _) hX.main.ob rfl rfl rfl (Nat.le_of_ble_eq_true rfl) ⟨Nat.le_refl _, Nat.le_refl _⟩ ?_
  refine x_iret dX4_share_10 (Or.inl rfl) rfl (Nat.le_refl _) ?_
  exact RO.mk rfl

set_option maxRecDepth 100000 in
set_option maxHeartbeats 4000000 in
theorem x_nextFall {st : Nat → Nat} (d : Nat) {z : Nat} {h : Nat → Option va_E} {x : Nat} {σ : Sg} {H : Nat → Sg} {n : Nat} {sl : Nat → Sg} {sv : Nat → Int32} {T : Nat → Nat} {P : PD} (hX : XAt h x σ H n sl sv T P) (hK : Ok3 σ) (hQ : P.1 ≤ 80) (a : Int32) : CT st (d + 7) yX4_nextFall cX4_nextFall 2 (some .int) [.ref x, .int a] (z, h) 0 0 (RO (some (.int (oNextFall σ a))) (z, h)) := by
  refine CT.of (lv := [.ref x, .int a]) (by decide) (Nat.le_of_ble_eq_true rfl) rfl rfl ?_
  refine x_aload_n dX4_nextFall_0 rfl ?_
  refine x_get dX4_nextFall_1 fX4_10 hX.ob rfl ?_
  refine x_iload_n dX4_nextFall_4 rfl ?_
  refine c_VR dX4_nextFall_5 kX2_firstFall iX2_firstFall q415 (t_firstFall _ hX.main hK.1 hK.2.1 _) hX.main.ob rfl rfl rfl (Nat.le_of_ble_eq_true rfl) ⟨Nat.le_refl _, Nat.le_refl _⟩ ?_
  refine x_iret dX4_nextFall_8 (Or.inl rfl) rfl (Nat.le_refl _) ?_
  exact RO.mk rfl

set_option maxRecDepth 100000 in
set_option maxHeartbeats 4000000 in
theorem x_nextLapse {st : Nat → Nat} (d : Nat) {z : Nat} {h : Nat → Option va_E} {x : Nat} {σ : Sg} {H : Nat → Sg} {n : Nat} {sl : Nat → Sg} {sv : Nat → Int32} {T : Nat → Nat} {P : PD} (hX : XAt h x σ H n sl sv T P) (hK : Ok3 σ) (hQ : P.1 ≤ 80) (a : Int32) : CT st (d + 7) yX4_nextLapse cX4_nextLapse 2 (some .int) [.ref x, .int a] (z, h) 0 0 (RO (some (.int (oNextLapse σ a))) (z, h)) := by
  refine CT.of (lv := [.ref x, .int a]) (by decide) (Nat.le_of_ble_eq_true rfl) rfl rfl ?_
  refine x_aload_n dX4_nextLapse_0 rfl ?_
  refine x_get dX4_nextLapse_1 fX4_10 hX.ob rfl ?_
  refine x_iload_n dX4_nextLapse_4 rfl ?_
  refine c_VR dX4_nextLapse_5 kX2_firstLapse iX2_firstLapse q427 (t_firstLapse _ hX.main hK.1 hK.2.1 _) hX.main.ob rfl rfl rfl (Nat.le_of_ble_eq_true rfl) ⟨Nat.le_refl _, Nat.le_refl _⟩ ?_
  refine x_iret dX4_nextLapse_8 (Or.inl rfl) rfl (Nat.le_refl _) ?_
  exact RO.mk rfl

set_option maxRecDepth 100000 in
set_option maxHeartbeats 4000000 in
theorem xcount {st : Nat → Nat} (d : Nat) {z : Nat} {h : Nat → Option va_E} {x : Nat} {σ : Sg} {H : Nat → Sg} {n : Nat} {sl : Nat → Sg} {sv : Nat → Int32} {T : Nat → Nat} {P : PD} (hX : XAt h x σ H n sl sv T P) (hK : Ok3 σ) (hQ : P.1 ≤ 80) (a : Int32) : CT st (d + 5) yX4_count cX4_count 2 (some .int) [.ref x, .int a] (z, h) 0 0 (RO (some (.int (xCount σ n P a))) (z, h)) := by
  refine CT.of (lv := [.ref x, .int a]) (by decide) (Nat.le_of_ble_eq_true rfl) rfl rfl ?_
  refine x_iload_n dX4_count_0 rfl ?_
  refine x_bipush (v := 19) dX4_count_1 rfl ?_
  refine x_icmp_ne (tgt := 14) dX4_count_3 (by decide) (fun c3 => ?_) (fun c3 => ?_)
  · refine x_iload_n dX4_count_14 rfl ?_
    refine x_bipush (v := 20) dX4_count_15 rfl ?_
    refine x_icmp_ne (tgt := 27) dX4_count_17 (by decide) (fun c17 => ?_) (fun c17 => ?_)
    · refine x_aload_n dX4_count_27 rfl ?_
      refine x_get dX4_count_28 fX4_10 hX.ob rfl ?_
      refine x_iload_n dX4_count_31 rfl ?_
      refine c_VR dX4_count_32 kX2_number iX2_number q205 (t_number _ hX.main hK.1 hK.2.1 _) hX.main.ob rfl rfl rfl (Nat.le_of_ble_eq_true rfl) ⟨Nat.le_refl _, Nat.le_refl _⟩ ?_
      refine x_iret dX4_count_35 (Or.inl rfl) rfl (Nat.le_refl _) ?_
      exact RO.mk (by simp [xCount, *])
    · refine x_aload_n dX4_count_20 rfl ?_
      refine x_get dX4_count_21 fX4_27 hX.ob rfl ?_
      refine x_goto (tgt := 35) dX4_count_24 (by decide) ?_
      refine x_iret dX4_count_35 (Or.inl rfl) rfl (Nat.le_refl _) ?_
      exact RO.mk (by simp [xCount, *])
  · refine x_aload_n dX4_count_6 rfl ?_
    refine x_get dX4_count_7 fX4_19 hX.ob rfl ?_
    refine x_get dX4_count_10 fX4_86 hX.pad.ob rfl ?_
    refine x_iret dX4_count_13 (Or.inl rfl) rfl (Nat.le_refl _) ?_
    exact RO.mk (by simp [xCount, *])

set_option maxRecDepth 100000 in
set_option maxHeartbeats 4000000 in
theorem xwipe {st : Nat → Nat} (d : Nat) {z : Nat} {h : Nat → Option va_E} {x : Nat} {σ : Sg} {H : Nat → Sg} {n : Nat} {sl : Nat → Sg} {sv : Nat → Int32} {T : Nat → Nat} {P : PD} (hX : XAt h x σ H n sl sv T P) (hK : Ok3 σ) (hQ : P.1 ≤ 80)  : CT st (d + 2) yX4_wipe cX4_wipe 1 (some .int) [.ref x] (z, h) 0 0 (XMO (some (.int (nI P.1))) z x h σ H n sl sv T (0, P.2)) := by
  refine CT.of (lv := [.ref x]) (by decide) (Nat.le_of_ble_eq_true rfl) rfl rfl ?_
  refine x_aload_n dX4_wipe_0 rfl ?_
  refine x_get dX4_wipe_1 fX4_19 hX.ob rfl ?_
  refine c_XP dX4_wipe_4 kX3_empty iX3_empty q584 hX (t_empty _ hX.pad hQ) rfl rfl rfl (Nat.le_of_ble_eq_true rfl) ⟨Nat.le_refl _, Nat.le_refl _⟩ (fun h1 hX1 hF1 => ?_)
  refine x_iret dX4_wipe_7 (Or.inl rfl) rfl (Nat.le_refl _) ?_
  exact ⟨rfl, _, rfl, hX1, hF1⟩

set_option maxRecDepth 100000 in
set_option maxHeartbeats 4000000 in
theorem xfault {st : Nat → Nat} (d : Nat) {z : Nat} {h : Nat → Option va_E} {x : Nat} {σ : Sg} {H : Nat → Sg} {n : Nat} {sl : Nat → Sg} {sv : Nat → Int32} {T : Nat → Nat} {P : PD} (hX : XAt h x σ H n sl sv T P) (hK : Ok3 σ) (hQ : P.1 ≤ 80)  : CT st (d + 6) yX4_fault cX4_fault 1 (some .int) [.ref x] (z, h) 0 0 (XMO (some (.int (sFault T P))) z x h σ H n sl sv T (ffAll T P).2) := by
  refine CT.of (lv := [.ref x]) (by decide) (Nat.le_of_ble_eq_true rfl) rfl rfl ?_
  refine x_aload_n dX4_fault_0 rfl ?_
  refine x_get dX4_fault_1 fX4_19 hX.ob rfl ?_
  refine c_XP dX4_fault_4 kX3_firstFault iX3_firstFault q592 hX (t_firstFault _ hX.pad hQ) rfl rfl rfl (Nat.le_of_ble_eq_true rfl) ⟨Nat.le_refl _, Nat.le_refl _⟩ (fun h1 hX1 hF1 => ?_)
  refine x_iret dX4_fault_7 (Or.inl rfl) rfl (Nat.le_refl _) ?_
  exact ⟨rfl, _, rfl, hX1, hF1⟩

set_option maxRecDepth 100000 in
set_option maxHeartbeats 4000000 in
theorem t_order {st : Nat → Nat} (d : Nat) {z : Nat} {h : Nat → Option va_E} {x : Nat} {σ : Sg} {H : Nat → Sg} {n : Nat} {sl : Nat → Sg} {sv : Nat → Int32} {T : Nat → Nat} {P : PD} (hX : XAt h x σ H n sl sv T P) (hK : Ok3 σ) (hQ : P.1 ≤ 80)  : CT st (d + 6) yX4_carryOutOrder cX4_carryOutOrder 1 (some .int) [.ref x] (z, h) 0 0 (XMO (some (.int (oOrder σ P).1)) z x h (oOrder σ P).2 H n sl sv T P) := by
  refine CT.of (lv := [.ref x]) (by decide) (Nat.le_of_ble_eq_true rfl) rfl rfl ?_
  refine x_aload_n dX4_carryOutOrder_0 rfl ?_
  refine x_get dX4_carryOutOrder_1 fX4_19 hX.ob rfl ?_
  refine x_get dX4_carryOutOrder_4 fX4_132 hX.pad.ob rfl ?_
  refine e_nm2 (fun w ew => ?_)
  by_cases k7_99 : w = 99
  · subst k7_99
    refine x_tableIn (off := 127) (tgt := 134) dX4_carryOutOrder_7 (by decide) (by decide) rfl (by decide) ?_
    refine x_aload_n dX4_carryOutOrder_134 rfl ?_
    refine x_get dX4_carryOutOrder_135 fX4_10 hX.ob rfl ?_
    refine x_aload_n dX4_carryOutOrder_138 rfl ?_
    refine x_get dX4_carryOutOrder_139 fX4_19 hX.ob rfl ?_
    refine x_get dX4_carryOutOrder_142 fX4_136 hX.pad.ob rfl ?_
    refine x_aload_n dX4_carryOutOrder_145 rfl ?_
    refine x_get dX4_carryOutOrder_146 fX4_19 hX.ob rfl ?_
    refine x_get dX4_carryOutOrder_149 fX4_139 hX.pad.ob rfl ?_
    refine x_aload_n dX4_carryOutOrder_152 rfl ?_
    refine x_get dX4_carryOutOrder_153 fX4_19 hX.ob rfl ?_
    refine x_get dX4_carryOutOrder_156 fX4_142 hX.pad.ob rfl ?_
    refine c_XM dX4_carryOutOrder_159 kX2_addClaim iX2_addClaim q477 hX (t_addClaim _ hX.main hK.1 hK.2.1 _ _ _) rfl rfl rfl (Nat.le_of_ble_eq_true rfl) ⟨Nat.le_refl _, Nat.le_refl _⟩ (fun h1 hX1 hF1 => ?_)
    refine x_iret dX4_carryOutOrder_162 (Or.inl rfl) rfl (Nat.le_refl _) ?_
    refine ⟨?_, _, rfl, ?_, hF1⟩
    · simp [oOrder, ew, *]
    · simpa [oOrder, ew, *] using hX1
  by_cases k7_100 : w = 100
  · subst k7_100
    refine x_tableIn (off := 178) (tgt := 185) dX4_carryOutOrder_7 (by decide) (by decide) rfl (by decide) ?_
    refine x_aload_n dX4_carryOutOrder_185 rfl ?_
    refine x_get dX4_carryOutOrder_186 fX4_10 hX.ob rfl ?_
    refine x_aload_n dX4_carryOutOrder_189 rfl ?_
    refine x_get dX4_carryOutOrder_190 fX4_19 hX.ob rfl ?_
    refine x_get dX4_carryOutOrder_193 fX4_136 hX.pad.ob rfl ?_
    refine c_XM dX4_carryOutOrder_196 kX2_judge iX2_judge q502 hX (t_judge _ hX.main hK.1 hK.2.1 _) rfl rfl rfl (Nat.le_of_ble_eq_true rfl) ⟨Nat.le_refl _, Nat.le_refl _⟩ (fun h2 hX2 hF2 => ?_)
    refine x_iret dX4_carryOutOrder_199 (Or.inl rfl) rfl (Nat.le_refl _) ?_
    refine ⟨?_, _, rfl, ?_, hF2⟩
    · simp [oOrder, ew, *]
    · simpa [oOrder, ew, *] using hX2
  by_cases k7_108 : w = 108
  · subst k7_108
    refine x_tableIn (off := 97) (tgt := 104) dX4_carryOutOrder_7 (by decide) (by decide) rfl (by decide) ?_
    refine x_aload_n dX4_carryOutOrder_104 rfl ?_
    refine x_get dX4_carryOutOrder_105 fX4_10 hX.ob rfl ?_
    refine x_aload_n dX4_carryOutOrder_108 rfl ?_
    refine x_get dX4_carryOutOrder_109 fX4_19 hX.ob rfl ?_
    refine x_get dX4_carryOutOrder_112 fX4_136 hX.pad.ob rfl ?_
    refine c_XM dX4_carryOutOrder_115 kX2_addLot iX2_addLot q461 hX (t_addLot _ hX.main hK.1 hK.2.1 _) rfl rfl rfl (Nat.le_of_ble_eq_true rfl) ⟨Nat.le_refl _, Nat.le_refl _⟩ (fun h3 hX3 hF3 => ?_)
    refine x_iret dX4_carryOutOrder_118 (Or.inl rfl) rfl (Nat.le_refl _) ?_
    refine ⟨?_, _, rfl, ?_, hF3⟩
    · simp [oOrder, ew, *]
    · simpa [oOrder, ew, *] using hX3
  by_cases k7_110 : w = 110
  · subst k7_110
    refine x_tableIn (off := 112) (tgt := 119) dX4_carryOutOrder_7 (by decide) (by decide) rfl (by decide) ?_
    refine x_aload_n dX4_carryOutOrder_119 rfl ?_
    refine x_get dX4_carryOutOrder_120 fX4_10 hX.ob rfl ?_
    refine x_aload_n dX4_carryOutOrder_123 rfl ?_
    refine x_get dX4_carryOutOrder_124 fX4_19 hX.ob rfl ?_
    refine x_get dX4_carryOutOrder_127 fX4_136 hX.pad.ob rfl ?_
    refine c_XM dX4_carryOutOrder_130 kX2_giveNotice iX2_giveNotice q469 hX (t_giveNotice _ hX.main hK.1 hK.2.1 _) rfl rfl rfl (Nat.le_of_ble_eq_true rfl) ⟨Nat.le_refl _, Nat.le_refl _⟩ (fun h4 hX4 hF4 => ?_)
    refine x_iret dX4_carryOutOrder_133 (Or.inl rfl) rfl (Nat.le_refl _) ?_
    refine ⟨?_, _, rfl, ?_, hF4⟩
    · simp [oOrder, ew, *]
    · simpa [oOrder, ew, *] using hX4
  by_cases k7_112 : w = 112
  · subst k7_112
    refine x_tableIn (off := 156) (tgt := 163) dX4_carryOutOrder_7 (by decide) (by decide) rfl (by decide) ?_
    refine x_aload_n dX4_carryOutOrder_163 rfl ?_
    refine x_get dX4_carryOutOrder_164 fX4_10 hX.ob rfl ?_
    refine x_aload_n dX4_carryOutOrder_167 rfl ?_
    refine x_get dX4_carryOutOrder_168 fX4_19 hX.ob rfl ?_
    refine x_get dX4_carryOutOrder_171 fX4_136 hX.pad.ob rfl ?_
    refine x_aload_n dX4_carryOutOrder_174 rfl ?_
    refine x_get dX4_carryOutOrder_175 fX4_19 hX.ob rfl ?_
    refine x_get dX4_carryOutOrder_178 fX4_139 hX.pad.ob rfl ?_
    refine c_XM dX4_carryOutOrder_181 kX2_addProof iX2_addProof q493 hX (t_addProof _ hX.main hK.1 hK.2.1 _ _) rfl rfl rfl (Nat.le_of_ble_eq_true rfl) ⟨Nat.le_refl _, Nat.le_refl _⟩ (fun h5 hX5 hF5 => ?_)
    refine x_iret dX4_carryOutOrder_184 (Or.inl rfl) rfl (Nat.le_refl _) ?_
    refine ⟨?_, _, rfl, ?_, hF5⟩
    · simp [oOrder, ew, *]
    · simpa [oOrder, ew, *] using hX5
  by_cases k7_115 : w = 115
  · subst k7_115
    refine x_tableIn (off := 208) (tgt := 215) dX4_carryOutOrder_7 (by decide) (by decide) rfl (by decide) ?_
    refine x_aload_n dX4_carryOutOrder_215 rfl ?_
    refine x_get dX4_carryOutOrder_216 fX4_10 hX.ob rfl ?_
    refine x_aload_n dX4_carryOutOrder_219 rfl ?_
    refine x_get dX4_carryOutOrder_220 fX4_19 hX.ob rfl ?_
    refine x_get dX4_carryOutOrder_223 fX4_136 hX.pad.ob rfl ?_
    refine c_XM dX4_carryOutOrder_226 kX2_shareOut iX2_shareOut q522 hX (t_shareOut _ hX.main hK.1 hK.2.1 hK.2.2 _) rfl rfl rfl (Nat.le_of_ble_eq_true rfl) ⟨Nat.le_refl _, Nat.le_refl _⟩ (fun h6 hX6 hF6 => ?_)
    refine x_iret dX4_carryOutOrder_229 (Or.inl rfl) rfl (Nat.le_refl _) ?_
    refine ⟨?_, _, rfl, ?_, hF6⟩
    · simp [oOrder, ew, *]
    · simpa [oOrder, ew, *] using hX6
  by_cases k7_119 : w = 119
  · subst k7_119
    refine x_tableIn (off := 193) (tgt := 200) dX4_carryOutOrder_7 (by decide) (by decide) rfl (by decide) ?_
    refine x_aload_n dX4_carryOutOrder_200 rfl ?_
    refine x_get dX4_carryOutOrder_201 fX4_10 hX.ob rfl ?_
    refine x_aload_n dX4_carryOutOrder_204 rfl ?_
    refine x_get dX4_carryOutOrder_205 fX4_19 hX.ob rfl ?_
    refine x_get dX4_carryOutOrder_208 fX4_136 hX.pad.ob rfl ?_
    refine c_XM dX4_carryOutOrder_211 kX2_takeBack iX2_takeBack q510 hX (t_takeBack _ hX.main hK.1 hK.2.1 _) rfl rfl rfl (Nat.le_of_ble_eq_true rfl) ⟨Nat.le_refl _, Nat.le_refl _⟩ (fun h7 hX7 hF7 => ?_)
    refine x_iret dX4_carryOutOrder_214 (Or.inl rfl) rfl (Nat.le_refl _) ?_
    refine ⟨?_, _, rfl, ?_, hF7⟩
    · simp [oOrder, ew, *]
    · simpa [oOrder, ew, *] using hX7
  have dft : Ev st (d + 6) yX4_carryOutOrder cX4_carryOutOrder 1 (some .int) (z, h) 0 0 (XMO (some (.int (oOrder σ P).1)) z x h (oOrder σ P).2 H n sl sv T P) 230 [.ref x] [] (z, h) 0 0 := by
    refine x_aload_n dX4_carryOutOrder_230 rfl ?_
    refine x_get dX4_carryOutOrder_231 fX4_10 hX.ob rfl ?_
    refine x_aload_n dX4_carryOutOrder_234 rfl ?_
    refine x_get dX4_carryOutOrder_235 fX4_19 hX.ob rfl ?_
    refine x_get dX4_carryOutOrder_238 fX4_136 hX.pad.ob rfl ?_
    refine c_XM dX4_carryOutOrder_241 kX2_passDays iX2_passDays q550 hX (t_passDays _ hX.main hK.1 hK.2.1 _) rfl rfl rfl (Nat.le_of_ble_eq_true rfl) ⟨Nat.le_refl _, Nat.le_refl _⟩ (fun h8 hX8 hF8 => ?_)
    refine x_iret dX4_carryOutOrder_244 (Or.inl rfl) rfl (Nat.le_refl _) ?_
    refine ⟨?_, _, rfl, ?_, hF8⟩
    · simp [oOrder, ew, *]
    · simpa [oOrder, ew, *] using hX8
  by_cases k7_101 : w = 101
  · subst k7_101
    exact x_tableIn (off := 223) (tgt := 230) dX4_carryOutOrder_7 (by decide) (by decide) rfl (by decide) dft
  by_cases k7_102 : w = 102
  · subst k7_102
    exact x_tableIn (off := 223) (tgt := 230) dX4_carryOutOrder_7 (by decide) (by decide) rfl (by decide) dft
  by_cases k7_103 : w = 103
  · subst k7_103
    exact x_tableIn (off := 223) (tgt := 230) dX4_carryOutOrder_7 (by decide) (by decide) rfl (by decide) dft
  by_cases k7_104 : w = 104
  · subst k7_104
    exact x_tableIn (off := 223) (tgt := 230) dX4_carryOutOrder_7 (by decide) (by decide) rfl (by decide) dft
  by_cases k7_105 : w = 105
  · subst k7_105
    exact x_tableIn (off := 223) (tgt := 230) dX4_carryOutOrder_7 (by decide) (by decide) rfl (by decide) dft
  by_cases k7_106 : w = 106
  · subst k7_106
    exact x_tableIn (off := 223) (tgt := 230) dX4_carryOutOrder_7 (by decide) (by decide) rfl (by decide) dft
  by_cases k7_107 : w = 107
  · subst k7_107
    exact x_tableIn (off := 223) (tgt := 230) dX4_carryOutOrder_7 (by decide) (by decide) rfl (by decide) dft
  by_cases k7_109 : w = 109
  · subst k7_109
    exact x_tableIn (off := 223) (tgt := 230) dX4_carryOutOrder_7 (by decide) (by decide) rfl (by decide) dft
  by_cases k7_111 : w = 111
  · subst k7_111
    exact x_tableIn (off := 223) (tgt := 230) dX4_carryOutOrder_7 (by decide) (by decide) rfl (by decide) dft
  by_cases k7_113 : w = 113
  · subst k7_113
    exact x_tableIn (off := 223) (tgt := 230) dX4_carryOutOrder_7 (by decide) (by decide) rfl (by decide) dft
  by_cases k7_114 : w = 114
  · subst k7_114
    exact x_tableIn (off := 223) (tgt := 230) dX4_carryOutOrder_7 (by decide) (by decide) rfl (by decide) dft
  by_cases k7_116 : w = 116
  · subst k7_116
    exact x_tableIn (off := 223) (tgt := 230) dX4_carryOutOrder_7 (by decide) (by decide) rfl (by decide) dft
  by_cases k7_117 : w = 117
  · subst k7_117
    exact x_tableIn (off := 223) (tgt := 230) dX4_carryOutOrder_7 (by decide) (by decide) rfl (by decide) dft
  by_cases k7_118 : w = 118
  · subst k7_118
    exact x_tableIn (off := 223) (tgt := 230) dX4_carryOutOrder_7 (by decide) (by decide) rfl (by decide) dft
  exact x_tableOut (tgt := 230) dX4_carryOutOrder_7 (sw_out fun n h1 h2 => by rcases (show n = 99 ∨ n = 100 ∨ n = 101 ∨ n = 102 ∨ n = 103 ∨ n = 104 ∨ n = 105 ∨ n = 106 ∨ n = 107 ∨ n = 108 ∨ n = 109 ∨ n = 110 ∨ n = 111 ∨ n = 112 ∨ n = 113 ∨ n = 114 ∨ n = 115 ∨ n = 116 ∨ n = 117 ∨ n = 118 ∨ n = 119 by omega) with rfl | rfl | rfl | rfl | rfl | rfl | rfl | rfl | rfl | rfl | rfl | rfl | rfl | rfl | rfl | rfl | rfl | rfl | rfl | rfl | rfl; exact k7_99; exact k7_100; exact k7_101; exact k7_102; exact k7_103; exact k7_104; exact k7_105; exact k7_106; exact k7_107; exact k7_108; exact k7_109; exact k7_110; exact k7_111; exact k7_112; exact k7_113; exact k7_114; exact k7_115; exact k7_116; exact k7_117; exact k7_118; exact k7_119) (by decide) dft
