def nLot (σ : Sg) (v : Int32) : Sg := up2 (up2 (up2 (up2 (up2 σ 1 (nLo σ) v) 2 (nLo σ) 0) 3 (nLo σ) 0) 4 (nLo σ) 0) 13 0 (σ 13 0 + 1)
def nClr (n : Nat) (w : Nat) (τ : Sg) : Sg := up2 τ (5 + w) n 0
def nClaim (σ : Sg) (he x l : Int32) : Sg := up2 (up2 (up2 (up2 (lp (nClr (nCl σ)) 0 7 σ) 5 (nCl σ) he) 6 (nCl σ) x) 7 (nCl σ) l) 13 1 (σ 13 1 + 1)
def nProof (σ : Sg) (j : Nat) (p : Int32) : Int32 := if σ 8 j + p ≤ 100 then σ 8 j + p else 100
def nProve (σ : Sg) (j : Nat) (p : Int32) : Sg := up2 (up2 σ 8 j (nProof σ j p)) 10 j 0
def nVerd (σ : Sg) (j : Nat) : Int32 := if σ 8 j < σ 0 1 then 2 else 1
def mPd (σ : Sg) (x : Int32) : Bool := lp (fun c b => b || decide (σ 12 c = x)) 0 (nPd σ) false
def mPay (σ : Sg) (j : Nat) (c : Int32) : Sg :=
  let τ := up2 (up2 σ 11 j c) 14 (σ 5 j).toNatClampNeg (σ 14 (σ 5 j).toNatClampNeg + c)
  if c ≤ 0 then τ else if mPd σ (σ 5 j) = true then τ else up2 (up2 τ 12 (nPd σ) (σ 5 j)) 13 2 (σ 13 2 + 1)
theorem nClr13 (n : Nat) (b : Nat) : ∀ (k i : Nat) (τ : Sg), i + k ≤ 7 → lp (nClr n) i k τ 13 b = τ 13 b
  | 0, _, _, _ => rfl
  | k + 1, i, τ, h => by
    rw [lp_s, nClr13 n b k (i + 1) _ (by omega)]
    exact up2_k _ (by omega)
theorem up2c {σ : Sg} {K j a b : Nat} {v : Int32} : up2 σ K j v a b = if a = K ∧ b = j then v else σ a b := rfl
set_option maxRecDepth 100000 in
set_option maxHeartbeats 4000000 in
theorem t_lotNow {st : Nat → Nat} (d : Nat) {z : Nat} {h : Nat → Option va_E} {m : Nat} {fs : List Value} {ζ : Sg} (H : ZAt h m fs ζ) (hL : LOk ζ) (hn : nLo ζ < 12) (x : Int32) : CT st (d + 2) yX5_lotNow cX5_lotNow 3 (some .int) [.ref m, .int x] (z, h) 0 0 (ZO (some (.int (ζ 13 0))) z m h fs (nLot ζ x)) := by
  refine CT.of (lv := [.ref m, .int x, .null]) (by decide) (Nat.le_of_ble_eq_true rfl) rfl rfl ?_
  refine x_aload_n dX5_lotNow_0 rfl ?_
  refine x_get dX5_lotNow_1 fX5_7 H.ob rfl ?_
  refine x_bipush (v := 7) dX5_lotNow_4 rfl ?_
  refine z_ald (13) (0) dX5_lotNow_6 H (show zAt 13 0 7 from ⟨by decide, rfl⟩) (show ¬ (7 : Int32) < 0 ∧ Int32.toNatClampNeg 7 = 7 by decide) ?_
  refine e_ist_n (lv' := fun w9 => [.ref m, .int x, .int w9]) dX5_lotNow_7 (Nat.le_of_ble_eq_true rfl) rfl (fun _ => rfl) (fun v1 ev1 => ?_)
  have ev1 : v1 = nI (nLo ζ) := ev1.trans hL.1
  subst ev1
  refine x_aload_n dX5_lotNow_8 rfl ?_
  refine x_iload_n dX5_lotNow_9 rfl ?_
  refine x_iconst (v := 0) dX5_lotNow_10 rfl ?_
  refine x_iload_n dX5_lotNow_11 rfl ?_
  refine c_VZn dX5_lotNow_12 kX5_layLot iX5_layLot q761 (t_layLot _ H (a := (nI (nLo ζ))) (j := (nLo ζ)) (b := 0) (w := 0) (1) rfl (by omega) rfl (by decide) rfl _) H.ob rfl rfl rfl (Nat.le_of_ble_eq_true rfl) ⟨Nat.le_refl _, Nat.le_refl _⟩ (fun h2 hO2 hF2 => ?_)
  refine x_aload_n dX5_lotNow_15 rfl ?_
  refine x_iload_n dX5_lotNow_16 rfl ?_
  refine x_iconst (v := 1) dX5_lotNow_17 rfl ?_
  refine x_iconst (v := 0) dX5_lotNow_18 rfl ?_
  refine c_VZn dX5_lotNow_19 kX5_layLot iX5_layLot q761 (t_layLot _ hO2 (a := (nI (nLo ζ))) (j := (nLo ζ)) (b := 1) (w := 1) (2) rfl (by omega) rfl (by decide) rfl _) hO2.ob rfl rfl rfl (Nat.le_of_ble_eq_true rfl) ⟨Nat.le_refl _, Nat.le_refl _⟩ (fun h3 hO3 hF3 => ?_)
  refine x_aload_n dX5_lotNow_22 rfl ?_
  refine x_iload_n dX5_lotNow_23 rfl ?_
  refine x_iconst (v := 2) dX5_lotNow_24 rfl ?_
  refine x_iconst (v := 0) dX5_lotNow_25 rfl ?_
  refine c_VZn dX5_lotNow_26 kX5_layLot iX5_layLot q761 (t_layLot _ hO3 (a := (nI (nLo ζ))) (j := (nLo ζ)) (b := 2) (w := 2) (3) rfl (by omega) rfl (by decide) rfl _) hO3.ob rfl rfl rfl (Nat.le_of_ble_eq_true rfl) ⟨Nat.le_refl _, Nat.le_refl _⟩ (fun h4 hO4 hF4 => ?_)
  refine x_aload_n dX5_lotNow_29 rfl ?_
  refine x_iload_n dX5_lotNow_30 rfl ?_
  refine x_iconst (v := 3) dX5_lotNow_31 rfl ?_
  refine x_iconst (v := 0) dX5_lotNow_32 rfl ?_
  refine c_VZn dX5_lotNow_33 kX5_layLot iX5_layLot q761 (t_layLot _ hO4 (a := (nI (nLo ζ))) (j := (nLo ζ)) (b := 3) (w := 3) (4) rfl (by omega) rfl (by decide) rfl _) hO4.ob rfl rfl rfl (Nat.le_of_ble_eq_true rfl) ⟨Nat.le_refl _, Nat.le_refl _⟩ (fun h5 hO5 hF5 => ?_)
  refine x_aload_n dX5_lotNow_36 rfl ?_
  refine x_get dX5_lotNow_37 fX5_7 hO5.ob rfl ?_
  refine x_bipush (v := 7) dX5_lotNow_40 rfl ?_
  refine x_dup2 dX5_lotNow_42 rfl rfl ?_
  refine z_ald (13) (0) dX5_lotNow_43 hO5 (show zAt 13 0 7 from ⟨by decide, rfl⟩) (show ¬ (7 : Int32) < 0 ∧ Int32.toNatClampNeg 7 = 7 by decide) ?_
  refine x_iconst (v := 1) dX5_lotNow_44 rfl ?_
  refine x_iadd dX5_lotNow_45 ?_
  refine z_ast (13) (0) dX5_lotNow_46 hO5 (show zAt 13 0 7 from ⟨by decide, rfl⟩) (show ¬ (7 : Int32) < 0 ∧ Int32.toNatClampNeg 7 = 7 by decide) (fun h6 hO6 hF6 => ?_)
  refine x_iload_n dX5_lotNow_47 rfl ?_
  refine x_iret dX5_lotNow_48 (Or.inl rfl) rfl (Nat.le_refl _) ?_
  exact ZO.mk (by exact hL.1.symm) (by simp [nLot, up2]) hO6 ((((hF2.tr hF3).tr hF4).tr hF5).tr hF6)

set_option maxRecDepth 100000 in
set_option maxHeartbeats 4000000 in
theorem t_noticeNow {st : Nat → Nat} (d : Nat) {z : Nat} {h : Nat → Option va_E} {m : Nat} {fs : List Value} {ζ : Sg} (H : ZAt h m fs ζ) (hL : LOk ζ) {j : Nat} (hj : j < 12) : CT st (d + 4) yX5_noticeNow cX5_noticeNow 2 (some .int) [.ref m, .int (nI j)] (z, h) 0 0 (ZO (some (.int (mSize (lIn (up2 ζ 2 j 1) 1)))) z m h fs (up2 ζ 2 j 1)) := by
  refine CT.of (lv := [.ref m, .int (nI j)]) (by decide) (Nat.le_of_ble_eq_true rfl) rfl rfl ?_
  refine x_aload_n dX5_noticeNow_0 rfl ?_
  refine x_iload_n dX5_noticeNow_1 rfl ?_
  refine x_iconst (v := 1) dX5_noticeNow_2 rfl ?_
  refine x_iconst (v := 1) dX5_noticeNow_3 rfl ?_
  refine c_VZn dX5_noticeNow_4 kX5_layLot iX5_layLot q761 (t_layLot _ H (a := (nI j)) (j := j) (b := 1) (w := 1) (2) rfl (by omega) rfl (by decide) rfl _) H.ob rfl rfl rfl (Nat.le_of_ble_eq_true rfl) ⟨Nat.le_refl _, Nat.le_refl _⟩ (fun h1 hO1 hF1 => ?_)
  refine x_aload_n dX5_noticeNow_7 rfl ?_
  refine x_iconst (v := 1) dX5_noticeNow_8 rfl ?_
  refine c_VR dX5_noticeNow_9 kX5_lotsThatAre iX5_lotsThatAre q785 (t_lotsThatAre _ hO1 (hL.to (by simp [up2])).1 _) hO1.ob rfl rfl rfl (Nat.le_of_ble_eq_true rfl) ⟨Nat.le_refl _, Nat.le_refl _⟩ ?_
  refine c_SR dX5_noticeNow_12 kX5_size q790 q789 (t_size _ _) rfl rfl (Nat.le_of_ble_eq_true rfl) ⟨Nat.le_refl _, Nat.le_refl _⟩ ?_
  refine x_iret dX5_noticeNow_15 (Or.inl rfl) rfl (Nat.le_refl _) ?_
  exact ZO.mk (by rfl) (by rfl) hO1 hF1

set_option maxRecDepth 100000 in
set_option maxHeartbeats 4000000 in
theorem L_claimNow {st : Nat → Nat} (d : Nat) {z : Nat} {h : Nat → Option va_E} {m : Nat} {fs : List Value} {ζ : Sg} (H : ZAt h m fs ζ) (hC : COk ζ) (hn : nCl ζ < 30) (y x l : Int32) : ∀ (k : Nat) (i : Nat) (ζ1 : Sg) (hq1 : Nat → Option va_E), i + k = 7 → ZAt hq1 m fs ζ1 → Fr (m + 1) 1 h hq1 → lp (nClr (nCl ζ)) i k ζ1 = lp (nClr (nCl ζ)) 0 7 ζ → Ev st (d + 2) yX5_claimNow cX5_claimNow 6 (some .int) (z, h) 0 0 (ZO (some (.int (ζ 13 1))) z m h fs (nClaim ζ y x l)) 12 [.ref m, .int y, .int x, .int l, .int (nI (nCl ζ)), .int (nI i)] [] (z, hq1) 0 0 := by
  intro k
  induction k with
  | zero =>
    intro i ζ1 hq1 hik HQ1 hFQ hR
    refine x_iload dX5_claimNow_12 rfl ?_
    refine x_bipush (v := 7) dX5_claimNow_14 rfl ?_
    refine x_icmp_ge (tgt := 34) dX5_claimNow_16 (by decide) (fun c16 => ?_) (fun c16 => absurd (nI_le (a := 7) (b := i) (by omega) (by omega)) c16)
    refine x_aload_n dX5_claimNow_34 rfl ?_
    refine x_iload dX5_claimNow_35 rfl ?_
    refine x_iconst (v := 0) dX5_claimNow_37 rfl ?_
    refine x_iload_n dX5_claimNow_38 rfl ?_
    refine c_VZn dX5_claimNow_39 kX5_layClaim iX5_layClaim q823 (t_layClaim _ HQ1 (a := (nI (nCl ζ))) (j := (nCl ζ)) (b := 0) (w := 0) (5) rfl (by omega) rfl (by decide) rfl _) HQ1.ob rfl rfl rfl (Nat.le_of_ble_eq_true rfl) ⟨Nat.le_refl _, Nat.le_refl _⟩ (fun h1 hO1 hF1 => ?_)
    refine x_aload_n dX5_claimNow_42 rfl ?_
    refine x_iload dX5_claimNow_43 rfl ?_
    refine x_iconst (v := 1) dX5_claimNow_45 rfl ?_
    refine x_iload_n dX5_claimNow_46 rfl ?_
    refine c_VZn dX5_claimNow_47 kX5_layClaim iX5_layClaim q823 (t_layClaim _ hO1 (a := (nI (nCl ζ))) (j := (nCl ζ)) (b := 1) (w := 1) (6) rfl (by omega) rfl (by decide) rfl _) hO1.ob rfl rfl rfl (Nat.le_of_ble_eq_true rfl) ⟨Nat.le_refl _, Nat.le_refl _⟩ (fun h2 hO2 hF2 => ?_)
    refine x_aload_n dX5_claimNow_50 rfl ?_
    refine x_iload dX5_claimNow_51 rfl ?_
    refine x_iconst (v := 2) dX5_claimNow_53 rfl ?_
    refine x_iload_n dX5_claimNow_54 rfl ?_
    refine c_VZn dX5_claimNow_55 kX5_layClaim iX5_layClaim q823 (t_layClaim _ hO2 (a := (nI (nCl ζ))) (j := (nCl ζ)) (b := 2) (w := 2) (7) rfl (by omega) rfl (by decide) rfl _) hO2.ob rfl rfl rfl (Nat.le_of_ble_eq_true rfl) ⟨Nat.le_refl _, Nat.le_refl _⟩ (fun h3 hO3 hF3 => ?_)
    refine x_aload_n dX5_claimNow_58 rfl ?_
    refine x_get dX5_claimNow_59 fX5_7 hO3.ob rfl ?_
    refine x_bipush (v := 8) dX5_claimNow_62 rfl ?_
    refine x_dup2 dX5_claimNow_64 rfl rfl ?_
    refine z_ald (13) (1) dX5_claimNow_65 hO3 (show zAt 13 1 8 from ⟨by decide, rfl⟩) (show ¬ (8 : Int32) < 0 ∧ Int32.toNatClampNeg 8 = 8 by decide) ?_
    refine x_iconst (v := 1) dX5_claimNow_66 rfl ?_
    refine x_iadd dX5_claimNow_67 ?_
    refine z_ast (13) (1) dX5_claimNow_68 hO3 (show zAt 13 1 8 from ⟨by decide, rfl⟩) (show ¬ (8 : Int32) < 0 ∧ Int32.toNatClampNeg 8 = 8 by decide) (fun h4 hO4 hF4 => ?_)
    refine x_iload dX5_claimNow_69 rfl ?_
    refine x_iret dX5_claimNow_71 (Or.inl rfl) rfl (Nat.le_refl _) ?_
    rw [lp_0] at hR
    subst hR
    exact ZO.mk hC.1.symm (by unfold nClaim; congr 1; all_goals rw [up2_k _ (by decide), up2_k _ (by decide), up2_k _ (by decide), nClr13 _ _ _ _ _ (by decide)]) hO4 (hFQ.tr (((hF1.tr hF2).tr hF3).tr hF4))
  | succ k ih =>
    intro i ζ1 hq1 hik HQ1 hFQ hR
    refine x_iload dX5_claimNow_12 rfl ?_
    refine x_bipush (v := 7) dX5_claimNow_14 rfl ?_
    refine x_icmp_ge (tgt := 34) dX5_claimNow_16 (by decide) (fun c16 => absurd c16 (nI_ge (a := i) (b := 7) (by omega) (by omega))) (fun c16 => ?_)
    refine x_aload_n dX5_claimNow_19 rfl ?_
    refine x_iload dX5_claimNow_20 rfl ?_
    refine x_iload dX5_claimNow_22 rfl ?_
    refine x_iconst (v := 0) dX5_claimNow_24 rfl ?_
    refine c_VZn dX5_claimNow_25 kX5_layClaim iX5_layClaim q823 (t_layClaim _ HQ1 (a := nI (nCl ζ)) (j := nCl ζ) (b := nI i) (w := i) (5 + i) rfl hn rfl (by omega) rfl _) HQ1.ob rfl rfl rfl (Nat.le_of_ble_eq_true rfl) ⟨Nat.le_refl _, Nat.le_refl _⟩ (fun h1 hO1 hF1 => ?_)
    refine e_inc (lv' := fun w9 => [.ref m, .int y, .int x, .int l, .int (nI (nCl ζ)), .int w9]) dX5_claimNow_28 rfl rfl (fun _ => rfl) (fun v2 ev2 => ?_)
    refine x_goto (tgt := 12) dX5_claimNow_31 (by decide) ?_
    obtain rfl := inc1 ev2
    exact ih (i + 1) _ h1 (by omega) hO1 (hFQ.tr hF1) (by rw [← hR, lp_s]; rfl)

set_option maxRecDepth 100000 in
set_option maxHeartbeats 4000000 in
theorem t_claimNow {st : Nat → Nat} (d : Nat) {z : Nat} {h : Nat → Option va_E} {m : Nat} {fs : List Value} {ζ : Sg} (H : ZAt h m fs ζ) (hC : COk ζ) (hn : nCl ζ < 30) (y x l : Int32) : CT st (d + 2) yX5_claimNow cX5_claimNow 6 (some .int) [.ref m, .int y, .int x, .int l] (z, h) 0 0 (ZO (some (.int (ζ 13 1))) z m h fs (nClaim ζ y x l)) := by
  refine CT.of (lv := [.ref m, .int y, .int x, .int l, .null, .null]) (by decide) (Nat.le_of_ble_eq_true rfl) rfl rfl ?_
  refine x_aload_n dX5_claimNow_0 rfl ?_
  refine x_get dX5_claimNow_1 fX5_7 H.ob rfl ?_
  refine x_bipush (v := 8) dX5_claimNow_4 rfl ?_
  refine z_ald (13) (1) dX5_claimNow_6 H (show zAt 13 1 8 from ⟨by decide, rfl⟩) (show ¬ (8 : Int32) < 0 ∧ Int32.toNatClampNeg 8 = 8 by decide) ?_
  refine e_ist (lv' := fun w9 => [.ref m, .int y, .int x, .int l, .int w9, .null]) dX5_claimNow_7 (Nat.le_of_ble_eq_true rfl) rfl (fun _ => rfl) (fun v1 ev1 => ?_)
  have ev1 : v1 = nI (nCl ζ) := ev1.trans hC.1
  subst ev1
  refine x_iconst (v := 0) dX5_claimNow_9 rfl ?_
  refine e_ist (lv' := fun w9 => [.ref m, .int y, .int x, .int l, .int (nI (nCl ζ)), .int w9]) dX5_claimNow_10 (Nat.le_of_ble_eq_true rfl) rfl (fun _ => rfl) (fun v2 ev2 => ?_)
  subst ev2
  exact L_claimNow d H hC hn y x l 7 0 ζ h (by omega) H Fr.rf rfl

set_option maxRecDepth 100000 in
set_option maxHeartbeats 4000000 in
theorem t_proveNow {st : Nat → Nat} (d : Nat) {z : Nat} {h : Nat → Option va_E} {m : Nat} {fs : List Value} {ζ : Sg} (H : ZAt h m fs ζ) {j : Nat} (hj : j < 30) (x : Int32) : CT st (d + 2) yX5_proveNow cX5_proveNow 4 (some .int) [.ref m, .int (nI j), .int x] (z, h) 0 0 (ZO (some (.int (nProof ζ j x))) z m h fs (nProve ζ j x)) := by
  refine CT.of (lv := [.ref m, .int (nI j), .int x, .null]) (by decide) (Nat.le_of_ble_eq_true rfl) rfl rfl ?_
  refine x_aload_n dX5_proveNow_0 rfl ?_
  refine x_iload_n dX5_proveNow_1 rfl ?_
  refine x_iconst (v := 3) dX5_proveNow_2 rfl ?_
  refine c_VR dX5_proveNow_3 kX5_claimOf iX5_claimOf q811 (t_claimOf _ H (a := (nI j)) (j := j) (b := 3) (w := 3) (8) rfl (by omega) rfl (by decide) rfl) H.ob rfl rfl rfl (Nat.le_of_ble_eq_true rfl) ⟨Nat.le_refl _, Nat.le_refl _⟩ ?_
  refine x_iload_n dX5_proveNow_6 rfl ?_
  refine x_iadd dX5_proveNow_7 ?_
  refine e_ist_n (lv' := fun w9 => [.ref m, .int (nI j), .int x, .int w9]) dX5_proveNow_8 (Nat.le_of_ble_eq_true rfl) rfl (fun _ => rfl) (fun v1 ev1 => ?_)
  refine x_aload_n dX5_proveNow_9 rfl ?_
  refine x_iload_n dX5_proveNow_10 rfl ?_
  refine x_iconst (v := 3) dX5_proveNow_11 rfl ?_
  refine x_iload_n dX5_proveNow_12 rfl ?_
  refine x_bipush (v := 100) dX5_proveNow_13 rfl ?_
  refine x_icmp_le (tgt := 23) dX5_proveNow_15 (by decide) (fun c15 => ?_) (fun c15 => ?_)
  · refine x_iload_n dX5_proveNow_23 rfl ?_
    refine c_VZn dX5_proveNow_24 kX5_layClaim iX5_layClaim q823 (t_layClaim _ H (a := (nI j)) (j := j) (b := 3) (w := 3) (8) rfl (by omega) rfl (by decide) rfl _) H.ob rfl rfl rfl (Nat.le_of_ble_eq_true rfl) ⟨Nat.le_refl _, Nat.le_refl _⟩ (fun h2 hO2 hF2 => ?_)
    refine x_aload_n dX5_proveNow_27 rfl ?_
    refine x_iload_n dX5_proveNow_28 rfl ?_
    refine x_iconst (v := 5) dX5_proveNow_29 rfl ?_
    refine x_iconst (v := 0) dX5_proveNow_30 rfl ?_
    refine c_VZn dX5_proveNow_31 kX5_layClaim iX5_layClaim q823 (t_layClaim _ hO2 (a := (nI j)) (j := j) (b := 5) (w := 5) (10) rfl (by omega) rfl (by decide) rfl _) hO2.ob rfl rfl rfl (Nat.le_of_ble_eq_true rfl) ⟨Nat.le_refl _, Nat.le_refl _⟩ (fun h3 hO3 hF3 => ?_)
    refine x_aload_n dX5_proveNow_34 rfl ?_
    refine x_iload_n dX5_proveNow_35 rfl ?_
    refine x_iconst (v := 3) dX5_proveNow_36 rfl ?_
    refine c_VR dX5_proveNow_37 kX5_claimOf iX5_claimOf q811 (t_claimOf _ hO3 (a := (nI j)) (j := j) (b := 3) (w := 3) (8) rfl (by omega) rfl (by decide) rfl) hO3.ob rfl rfl rfl (Nat.le_of_ble_eq_true rfl) ⟨Nat.le_refl _, Nat.le_refl _⟩ ?_
    refine x_iret dX5_proveNow_40 (Or.inl rfl) rfl (Nat.le_refl _) ?_
    exact ZO.mk (by subst_vars; simp [nProof, up2c, *]) (by subst_vars; simp [nProve, nProof, *]) hO3 (hF2.tr hF3)
  · refine x_bipush (v := 100) dX5_proveNow_18 rfl ?_
    refine x_goto (tgt := 24) dX5_proveNow_20 (by decide) ?_
    refine c_VZn dX5_proveNow_24 kX5_layClaim iX5_layClaim q823 (t_layClaim _ H (a := (nI j)) (j := j) (b := 3) (w := 3) (8) rfl (by omega) rfl (by decide) rfl _) H.ob rfl rfl rfl (Nat.le_of_ble_eq_true rfl) ⟨Nat.le_refl _, Nat.le_refl _⟩ (fun h4 hO4 hF4 => ?_)
    refine x_aload_n dX5_proveNow_27 rfl ?_
    refine x_iload_n dX5_proveNow_28 rfl ?_
    refine x_iconst (v := 5) dX5_proveNow_29 rfl ?_
    refine x_iconst (v := 0) dX5_proveNow_30 rfl ?_
    refine c_VZn dX5_proveNow_31 kX5_layClaim iX5_layClaim q823 (t_layClaim _ hO4 (a := (nI j)) (j := j) (b := 5) (w := 5) (10) rfl (by omega) rfl (by decide) rfl _) hO4.ob rfl rfl rfl (Nat.le_of_ble_eq_true rfl) ⟨Nat.le_refl _, Nat.le_refl _⟩ (fun h5 hO5 hF5 => ?_)
    refine x_aload_n dX5_proveNow_34 rfl ?_
    refine x_iload_n dX5_proveNow_35 rfl ?_
    refine x_iconst (v := 3) dX5_proveNow_36 rfl ?_
    refine c_VR dX5_proveNow_37 kX5_claimOf iX5_claimOf q811 (t_claimOf _ hO5 (a := (nI j)) (j := j) (b := 3) (w := 3) (8) rfl (by omega) rfl (by decide) rfl) hO5.ob rfl rfl rfl (Nat.le_of_ble_eq_true rfl) ⟨Nat.le_refl _, Nat.le_refl _⟩ ?_
    refine x_iret dX5_proveNow_40 (Or.inl rfl) rfl (Nat.le_refl _) ?_
    exact ZO.mk (by subst_vars; simp [nProof, up2c, *]) (by subst_vars; simp [nProve, nProof, *]) hO5 (hF4.tr hF5)

set_option maxRecDepth 100000 in
set_option maxHeartbeats 4000000 in
theorem t_decideNow {st : Nat → Nat} (d : Nat) {z : Nat} {h : Nat → Option va_E} {m : Nat} {fs : List Value} {ζ : Sg} (H : ZAt h m fs ζ) {j : Nat} (hj : j < 30) : CT st (d + 2) yX5_decideNow cX5_decideNow 2 (some .int) [.ref m, .int (nI j)] (z, h) 0 0 (ZO (some (.int (nVerd ζ j))) z m h fs (up2 ζ 9 j (nVerd ζ j))) := by
  refine CT.of (lv := [.ref m, .int (nI j)]) (by decide) (Nat.le_of_ble_eq_true rfl) rfl rfl ?_
  refine x_aload_n dX5_decideNow_0 rfl ?_
  refine x_iload_n dX5_decideNow_1 rfl ?_
  refine x_iconst (v := 4) dX5_decideNow_2 rfl ?_
  refine x_aload_n dX5_decideNow_3 rfl ?_
  refine x_iload_n dX5_decideNow_4 rfl ?_
  refine x_iconst (v := 3) dX5_decideNow_5 rfl ?_
  refine c_VR dX5_decideNow_6 kX5_claimOf iX5_claimOf q811 (t_claimOf _ H (a := (nI j)) (j := j) (b := 3) (w := 3) (8) rfl (by omega) rfl (by decide) rfl) H.ob rfl rfl rfl (Nat.le_of_ble_eq_true rfl) ⟨Nat.le_refl _, Nat.le_refl _⟩ ?_
  refine x_aload_n dX5_decideNow_9 rfl ?_
  refine x_get dX5_decideNow_10 fX5_7 H.ob rfl ?_
  refine x_iconst (v := 1) dX5_decideNow_13 rfl ?_
  refine z_ald (0) (1) dX5_decideNow_14 H (show zAt 0 1 1 from ⟨by decide, rfl⟩) (show ¬ (1 : Int32) < 0 ∧ Int32.toNatClampNeg 1 = 1 by decide) ?_
  refine x_icmp_lt (tgt := 22) dX5_decideNow_15 (by decide) (fun c15 => ?_) (fun c15 => ?_)
  · refine x_iconst (v := 2) dX5_decideNow_22 rfl ?_
    refine c_VZn dX5_decideNow_23 kX5_layClaim iX5_layClaim q823 (t_layClaim _ H (a := (nI j)) (j := j) (b := 4) (w := 4) (9) rfl (by omega) rfl (by decide) rfl _) H.ob rfl rfl rfl (Nat.le_of_ble_eq_true rfl) ⟨Nat.le_refl _, Nat.le_refl _⟩ (fun h1 hO1 hF1 => ?_)
    refine x_aload_n dX5_decideNow_26 rfl ?_
    refine x_iload_n dX5_decideNow_27 rfl ?_
    refine x_iconst (v := 4) dX5_decideNow_28 rfl ?_
    refine c_VR dX5_decideNow_29 kX5_claimOf iX5_claimOf q811 (t_claimOf _ hO1 (a := (nI j)) (j := j) (b := 4) (w := 4) (9) rfl (by omega) rfl (by decide) rfl) hO1.ob rfl rfl rfl (Nat.le_of_ble_eq_true rfl) ⟨Nat.le_refl _, Nat.le_refl _⟩ ?_
    refine x_iret dX5_decideNow_32 (Or.inl rfl) rfl (Nat.le_refl _) ?_
    exact ZO.mk (by simp [nVerd, up2c, *]) (by simp [nVerd, *]) hO1 hF1
  · refine x_iconst (v := 1) dX5_decideNow_18 rfl ?_
    refine x_goto (tgt := 23) dX5_decideNow_19 (by decide) ?_
    refine c_VZn dX5_decideNow_23 kX5_layClaim iX5_layClaim q823 (t_layClaim _ H (a := (nI j)) (j := j) (b := 4) (w := 4) (9) rfl (by omega) rfl (by decide) rfl _) H.ob rfl rfl rfl (Nat.le_of_ble_eq_true rfl) ⟨Nat.le_refl _, Nat.le_refl _⟩ (fun h2 hO2 hF2 => ?_)
    refine x_aload_n dX5_decideNow_26 rfl ?_
    refine x_iload_n dX5_decideNow_27 rfl ?_
    refine x_iconst (v := 4) dX5_decideNow_28 rfl ?_
    refine c_VR dX5_decideNow_29 kX5_claimOf iX5_claimOf q811 (t_claimOf _ hO2 (a := (nI j)) (j := j) (b := 4) (w := 4) (9) rfl (by omega) rfl (by decide) rfl) hO2.ob rfl rfl rfl (Nat.le_of_ble_eq_true rfl) ⟨Nat.le_refl _, Nat.le_refl _⟩ ?_
    refine x_iret dX5_decideNow_32 (Or.inl rfl) rfl (Nat.le_refl _) ?_
    exact ZO.mk (by simp [nVerd, up2c, *]) (by simp [nVerd, *]) hO2 hF2

set_option maxRecDepth 100000 in
set_option maxHeartbeats 4000000 in
theorem t_withdrawNow {st : Nat → Nat} (d : Nat) {z : Nat} {h : Nat → Option va_E} {m : Nat} {fs : List Value} {ζ : Sg} (H : ZAt h m fs ζ) (hC : COk ζ) {j : Nat} (hj : j < 30) : CT st (d + 5) yX5_withdrawNow cX5_withdrawNow 2 (some .int) [.ref m, .int (nI j)] (z, h) 0 0 (ZO (some (.int (mSize (cStandTo (up2 ζ 9 j 3) (ζ 6 j))))) z m h fs (up2 ζ 9 j 3)) := by
  refine CT.of (lv := [.ref m, .int (nI j)]) (by decide) (Nat.le_of_ble_eq_true rfl) rfl rfl ?_
  refine x_aload_n dX5_withdrawNow_0 rfl ?_
  refine x_iload_n dX5_withdrawNow_1 rfl ?_
  refine x_iconst (v := 4) dX5_withdrawNow_2 rfl ?_
  refine x_iconst (v := 3) dX5_withdrawNow_3 rfl ?_
  refine c_VZn dX5_withdrawNow_4 kX5_layClaim iX5_layClaim q823 (t_layClaim _ H (a := (nI j)) (j := j) (b := 4) (w := 4) (9) rfl (by omega) rfl (by decide) rfl _) H.ob rfl rfl rfl (Nat.le_of_ble_eq_true rfl) ⟨Nat.le_refl _, Nat.le_refl _⟩ (fun h1 hO1 hF1 => ?_)
  refine x_aload_n dX5_withdrawNow_7 rfl ?_
  refine x_aload_n dX5_withdrawNow_8 rfl ?_
  refine x_iload_n dX5_withdrawNow_9 rfl ?_
  refine x_iconst (v := 1) dX5_withdrawNow_10 rfl ?_
  refine c_VR dX5_withdrawNow_11 kX5_claimOf iX5_claimOf q811 (t_claimOf _ hO1 (a := (nI j)) (j := j) (b := 1) (w := 1) (6) rfl (by omega) rfl (by decide) rfl) hO1.ob rfl rfl rfl (Nat.le_of_ble_eq_true rfl) ⟨Nat.le_refl _, Nat.le_refl _⟩ ?_
  refine c_VR dX5_withdrawNow_14 kX5_standing iX5_standing q871 (t_mstanding _ hO1 (hC.to (by simp [up2])).1 _) hO1.ob rfl rfl rfl (Nat.le_of_ble_eq_true rfl) ⟨Nat.le_refl _, Nat.le_refl _⟩ ?_
  refine c_SR dX5_withdrawNow_17 kX5_size q790 q789 (t_size _ _) rfl rfl (Nat.le_of_ble_eq_true rfl) ⟨Nat.le_refl _, Nat.le_refl _⟩ ?_
  refine x_iret dX5_withdrawNow_20 (Or.inl rfl) rfl (Nat.le_refl _) ?_
  exact ZO.mk (by simp [up2c]) (by rfl) hO1 hF1

set_option maxRecDepth 100000 in
set_option maxHeartbeats 4000000 in
theorem L_isPaid {st : Nat → Nat} (d : Nat) {z : Nat} {h : Nat → Option va_E} {m : Nat} {fs : List Value} {ζ : Sg} (H : ZAt h m fs ζ) (hP : POk ζ) (x : Int32) : ∀ (k : Nat) (i : Nat) (b : Bool), i + k = nPd ζ → lp (fun c b => b || decide (ζ 12 c = x)) i k b = mPd ζ x → Ev st (d + 1) yX5_isPaid cX5_isPaid 4 (some .boolean) (z, h) 0 0 (RO (some (.int (bI (mPd ζ x)))) (z, h)) 4 [.ref m, .int x, .int (bI b), .int (nI i)] [] (z, h) 0 0 := by
  intro k
  induction k with
  | zero =>
    intro i b hik hR
    refine x_iload_n dX5_isPaid_4 rfl ?_
    refine x_aload_n dX5_isPaid_5 rfl ?_
    refine x_get dX5_isPaid_6 fX5_7 H.ob rfl ?_
    refine x_bipush (v := 9) dX5_isPaid_9 rfl ?_
    refine z_ald (13) (2) dX5_isPaid_11 H (show zAt 13 2 9 from ⟨by decide, rfl⟩) (show ¬ (9 : Int32) < 0 ∧ Int32.toNatClampNeg 9 = 9 by decide) ?_
    rw [hP.1]
    have hC30 := hP.2
    refine x_icmp_ge (tgt := 45) dX5_isPaid_12 (by decide) (fun c12 => ?_) (fun c12 => absurd (nI_le (a := nPd ζ) (b := i) (by omega) (by omega)) c12)
    refine x_iload_n dX5_isPaid_45 rfl ?_
    refine x_iret dX5_isPaid_46 (Or.inr ⟨rfl, by first | rfl | exact bI_z _⟩) rfl (Nat.le_refl _) ?_
    exact RO.mk (congrArg bI hR)
  | succ k ih =>
    intro i b hik hR
    refine x_iload_n dX5_isPaid_4 rfl ?_
    refine x_aload_n dX5_isPaid_5 rfl ?_
    refine x_get dX5_isPaid_6 fX5_7 H.ob rfl ?_
    refine x_bipush (v := 9) dX5_isPaid_9 rfl ?_
    refine z_ald (13) (2) dX5_isPaid_11 H (show zAt 13 2 9 from ⟨by decide, rfl⟩) (show ¬ (9 : Int32) < 0 ∧ Int32.toNatClampNeg 9 = 9 by decide) ?_
    rw [hP.1]
    have hC30 := hP.2
    refine x_icmp_ge (tgt := 45) dX5_isPaid_12 (by decide) (fun c12 => absurd c12 (nI_ge (a := i) (b := nPd ζ) (by omega) (by omega))) (fun c12 => ?_)
    refine x_iload_n dX5_isPaid_15 rfl ?_
    refine x_if_ne (tgt := 33) dX5_isPaid_16 (by decide) (fun c16 => ?_) (fun c16 => ?_)
    · have c16 := bI_ne c16
      refine x_iconst (v := 1) dX5_isPaid_33 rfl ?_
      refine x_goto (tgt := 38) dX5_isPaid_34 (by decide) ?_
      refine e_ist_n (lv' := fun w9 => [.ref m, .int x, .int w9, .int (nI i)]) dX5_isPaid_38 (Nat.le_of_ble_eq_true rfl) rfl (fun _ => rfl) (fun v1 ev1 => ?_)
      subst ev1
      refine e_inc (lv' := fun w9 => [.ref m, .int x, .int 1, .int w9]) dX5_isPaid_39 rfl rfl (fun _ => rfl) (fun v2 ev2 => ?_)
      refine x_goto (tgt := 4) dX5_isPaid_42 (by decide) ?_
      obtain rfl := inc1 ev2
      exact ih (i + 1) true (by omega) (by rw [← hR, lp_s]; congr 1; all_goals (simp [*]))
    · have c16 := bI_eq c16
      refine x_aload_n dX5_isPaid_19 rfl ?_
      refine x_get dX5_isPaid_20 fX5_7 H.ob rfl ?_
      refine x_sipush (v := 284) dX5_isPaid_23 rfl ?_
      refine x_iload_n dX5_isPaid_26 rfl ?_
      refine x_iadd dX5_isPaid_27 ?_
      refine z_ald (12) (i) dX5_isPaid_28 H (zAt_pd (by omega)) (ix_eq (b := 284 + i) (by rw [show (284 : Int32) = nI 284 from rfl, nI_add]) (by omega)) ?_
      refine x_iload_n dX5_isPaid_29 rfl ?_
      refine x_icmp_ne (tgt := 37) dX5_isPaid_30 (by decide) (fun c30 => ?_) (fun c30 => ?_)
      · refine x_iconst (v := 0) dX5_isPaid_37 rfl ?_
        refine e_ist_n (lv' := fun w9 => [.ref m, .int x, .int w9, .int (nI i)]) dX5_isPaid_38 (Nat.le_of_ble_eq_true rfl) rfl (fun _ => rfl) (fun v3 ev3 => ?_)
        subst ev3
        refine e_inc (lv' := fun w9 => [.ref m, .int x, .int 0, .int w9]) dX5_isPaid_39 rfl rfl (fun _ => rfl) (fun v4 ev4 => ?_)
        refine x_goto (tgt := 4) dX5_isPaid_42 (by decide) ?_
        obtain rfl := inc1 ev4
        exact ih (i + 1) false (by omega) (by rw [← hR, lp_s]; congr 1; all_goals (simp [*]))
      · refine x_iconst (v := 1) dX5_isPaid_33 rfl ?_
        refine x_goto (tgt := 38) dX5_isPaid_34 (by decide) ?_
        refine e_ist_n (lv' := fun w9 => [.ref m, .int x, .int w9, .int (nI i)]) dX5_isPaid_38 (Nat.le_of_ble_eq_true rfl) rfl (fun _ => rfl) (fun v5 ev5 => ?_)
        subst ev5
        refine e_inc (lv' := fun w9 => [.ref m, .int x, .int 1, .int w9]) dX5_isPaid_39 rfl rfl (fun _ => rfl) (fun v6 ev6 => ?_)
        refine x_goto (tgt := 4) dX5_isPaid_42 (by decide) ?_
        obtain rfl := inc1 ev6
        exact ih (i + 1) true (by omega) (by rw [← hR, lp_s]; congr 1; all_goals (simp [*]))

set_option maxRecDepth 100000 in
set_option maxHeartbeats 4000000 in
theorem t_isPaid {st : Nat → Nat} (d : Nat) {z : Nat} {h : Nat → Option va_E} {m : Nat} {fs : List Value} {ζ : Sg} (H : ZAt h m fs ζ) (hP : POk ζ) (x : Int32) : CT st (d + 1) yX5_isPaid cX5_isPaid 4 (some .boolean) [.ref m, .int x] (z, h) 0 0 (RO (some (.int (bI (mPd ζ x)))) (z, h)) := by
  refine CT.of (lv := [.ref m, .int x, .null, .null]) (by decide) (Nat.le_of_ble_eq_true rfl) rfl rfl ?_
  refine x_iconst (v := 0) dX5_isPaid_0 rfl ?_
  refine e_ist_n (lv' := fun w9 => [.ref m, .int x, .int w9, .null]) dX5_isPaid_1 (Nat.le_of_ble_eq_true rfl) rfl (fun _ => rfl) (fun v1 ev1 => ?_)
  refine x_iconst (v := 0) dX5_isPaid_2 rfl ?_
  refine e_ist_n (lv' := fun w9 => [.ref m, .int x, .int v1, .int w9]) dX5_isPaid_3 (Nat.le_of_ble_eq_true rfl) rfl (fun _ => rfl) (fun v2 ev2 => ?_)
  subst ev1 ev2
  exact L_isPaid d H hP x (nPd ζ) 0 false (by omega) rfl

set_option maxRecDepth 100000 in
set_option maxHeartbeats 4000000 in
theorem t_pay {st : Nat → Nat} (d : Nat) {z : Nat} {h : Nat → Option va_E} {m : Nat} {fs : List Value} {ζ : Sg} (H : ZAt h m fs ζ) (hP : POk ζ) {j g : Nat} (hj : j < 30) (hg : g < 16) (e5 : ζ 5 j = nI g) (x : Int32) (hp16 : mPd ζ (nI g) = false → nPd ζ < 16) : CT st (d + 2) yX5_pay cX5_pay 4 none [.ref m, .int (nI j), .int x] (z, h) 0 0 (ZO none z m h fs (mPay ζ j x)) := by
  refine CT.of (lv := [.ref m, .int (nI j), .int x, .null]) (by decide) (Nat.le_of_ble_eq_true rfl) rfl rfl ?_
  refine x_aload_n dX5_pay_0 rfl ?_
  refine x_iload_n dX5_pay_1 rfl ?_
  refine x_iconst (v := 0) dX5_pay_2 rfl ?_
  refine c_VR dX5_pay_3 kX5_claimOf iX5_claimOf q811 (t_claimOf _ H (a := (nI j)) (j := j) (b := 0) (w := 0) (5) rfl (by omega) rfl (by decide) rfl) H.ob rfl rfl rfl (Nat.le_of_ble_eq_true rfl) ⟨Nat.le_refl _, Nat.le_refl _⟩ ?_
  refine e_ist_n (lv' := fun w9 => [.ref m, .int (nI j), .int x, .int w9]) dX5_pay_6 (Nat.le_of_ble_eq_true rfl) rfl (fun _ => rfl) (fun v1 ev1 => ?_)
  have ev1 : v1 = nI g := ev1.trans e5
  subst ev1
  refine x_aload_n dX5_pay_7 rfl ?_
  refine x_iload_n dX5_pay_8 rfl ?_
  refine x_bipush (v := 6) dX5_pay_9 rfl ?_
  refine x_iload_n dX5_pay_11 rfl ?_
  refine c_VZn dX5_pay_12 kX5_layClaim iX5_layClaim q823 (t_layClaim _ H (a := (nI j)) (j := j) (b := 6) (w := 6) (11) rfl (by omega) rfl (by decide) rfl _) H.ob rfl rfl rfl (Nat.le_of_ble_eq_true rfl) ⟨Nat.le_refl _, Nat.le_refl _⟩ (fun h2 hO2 hF2 => ?_)
  refine x_aload_n dX5_pay_15 rfl ?_
  refine x_get dX5_pay_16 fX5_7 hO2.ob rfl ?_
  refine x_sipush (v := 268) dX5_pay_19 rfl ?_
  refine x_iload_n dX5_pay_22 rfl ?_
  refine x_iadd dX5_pay_23 ?_
  refine x_dup2 dX5_pay_24 rfl rfl ?_
  refine z_ald (14) (g) dX5_pay_25 hO2 (zAt_pu hg) (ix_eq (b := 268 + g) (by rw [show (268 : Int32) = nI 268 from rfl, nI_add]) (by omega)) ?_
  refine x_iload_n dX5_pay_26 rfl ?_
  refine x_iadd dX5_pay_27 ?_
  refine z_ast (14) (g) dX5_pay_28 hO2 (zAt_pu hg) (ix_eq (b := 268 + g) (by rw [show (268 : Int32) = nI 268 from rfl, nI_add]) (by omega)) (fun h3 hO3 hF3 => ?_)
  refine x_iload_n dX5_pay_29 rfl ?_
  refine x_if_le (tgt := 69) dX5_pay_30 (by decide) (fun c30 => ?_) (fun c30 => ?_)
  · refine x_vret dX5_pay_69 rfl rfl (Nat.le_refl _) ?_
    have eg : (ζ 5 j).toNatClampNeg = g := by rw [e5]; exact nI_cl (by omega)
    have es : up2 ζ 11 j x 14 g = ζ 14 g := up2_k _ (by decide)
    have en : nPd (up2 (up2 ζ 11 j x) 14 g (up2 ζ 11 j x 14 g + x)) = nPd ζ := rfl
    have e13 : ∀ v, up2 (up2 (up2 ζ 11 j x) 14 g (up2 ζ 11 j x 14 g + x)) 12 (nPd ζ) v 13 2 = ζ 13 2 := fun v => rfl
    exact ZO.mkn (by unfold mPay; rw [e5, nI_cl (show g < 2 ^ 31 by omega)]; dsimp only; first | rw [if_pos c30, es] | rw [if_neg c30, if_pos (show mPd ζ (nI g) = true from c38), es] | rw [if_neg c30, if_neg (by rw [show mPd ζ (nI g) = false from c38]; decide), es]; try rfl) hO3 (hF2.tr hF3)
  · refine x_aload_n dX5_pay_33 rfl ?_
    refine x_iload_n dX5_pay_34 rfl ?_
    refine c_VR dX5_pay_35 kX5_isPaid iX5_isPaid q910 (t_isPaid _ hO3 (hP.to (by simp [up2])).1 _) hO3.ob rfl rfl rfl (Nat.le_of_ble_eq_true rfl) ⟨Nat.le_refl _, Nat.le_refl _⟩ ?_
    refine x_if_ne (tgt := 69) dX5_pay_38 (by decide) (fun c38 => ?_) (fun c38 => ?_)
    · have c38 := bI_ne c38
      refine x_vret dX5_pay_69 rfl rfl (Nat.le_refl _) ?_
      have eg : (ζ 5 j).toNatClampNeg = g := by rw [e5]; exact nI_cl (by omega)
      have es : up2 ζ 11 j x 14 g = ζ 14 g := up2_k _ (by decide)
      have en : nPd (up2 (up2 ζ 11 j x) 14 g (up2 ζ 11 j x 14 g + x)) = nPd ζ := rfl
      have e13 : ∀ v, up2 (up2 (up2 ζ 11 j x) 14 g (up2 ζ 11 j x 14 g + x)) 12 (nPd ζ) v 13 2 = ζ 13 2 := fun v => rfl
      exact ZO.mkn (by unfold mPay; rw [e5, nI_cl (show g < 2 ^ 31 by omega)]; dsimp only; first | rw [if_pos c30, es] | rw [if_neg c30, if_pos (show mPd ζ (nI g) = true from c38), es] | rw [if_neg c30, if_neg (by rw [show mPd ζ (nI g) = false from c38]; decide), es]; try rfl) hO3 (hF2.tr hF3)
    · have c38 := bI_eq c38
      have hn : nPd ζ < 16 := hp16 (by simpa [mPd, nPd, up2] using c38)
      refine x_aload_n dX5_pay_41 rfl ?_
      refine x_get dX5_pay_42 fX5_7 hO3.ob rfl ?_
      refine x_sipush (v := 284) dX5_pay_45 rfl ?_
      refine x_aload_n dX5_pay_48 rfl ?_
      refine x_get dX5_pay_49 fX5_7 hO3.ob rfl ?_
      refine x_bipush (v := 9) dX5_pay_52 rfl ?_
      refine z_ald (13) (2) dX5_pay_54 hO3 (show zAt 13 2 9 from ⟨by decide, rfl⟩) (show ¬ (9 : Int32) < 0 ∧ Int32.toNatClampNeg 9 = 9 by decide) ?_
      refine x_iadd dX5_pay_55 ?_
      refine x_iload_n dX5_pay_56 rfl ?_
      refine z_ast (12) (nPd ζ) dX5_pay_57 hO3 (zAt_pd hn) (ix_eq (b := 284 + nPd ζ) (by rw [show up2 (up2 ζ 11 j x) 14 g (up2 ζ 11 j x 14 g + x) 13 2 = ζ 13 2 by simp [up2], hP.1, show (284 : Int32) = nI 284 from rfl, nI_add]) (by omega)) (fun h4 hO4 hF4 => ?_)
      refine x_aload_n dX5_pay_58 rfl ?_
      refine x_get dX5_pay_59 fX5_7 hO4.ob rfl ?_
      refine x_bipush (v := 9) dX5_pay_62 rfl ?_
      refine x_dup2 dX5_pay_64 rfl rfl ?_
      refine z_ald (13) (2) dX5_pay_65 hO4 (show zAt 13 2 9 from ⟨by decide, rfl⟩) (show ¬ (9 : Int32) < 0 ∧ Int32.toNatClampNeg 9 = 9 by decide) ?_
      refine x_iconst (v := 1) dX5_pay_66 rfl ?_
      refine x_iadd dX5_pay_67 ?_
      refine z_ast (13) (2) dX5_pay_68 hO4 (show zAt 13 2 9 from ⟨by decide, rfl⟩) (show ¬ (9 : Int32) < 0 ∧ Int32.toNatClampNeg 9 = 9 by decide) (fun h5 hO5 hF5 => ?_)
      refine x_vret dX5_pay_69 rfl rfl (Nat.le_refl _) ?_
      have eg : (ζ 5 j).toNatClampNeg = g := by rw [e5]; exact nI_cl (by omega)
      have es : up2 ζ 11 j x 14 g = ζ 14 g := up2_k _ (by decide)
      have en : nPd (up2 (up2 ζ 11 j x) 14 g (up2 ζ 11 j x 14 g + x)) = nPd ζ := rfl
      have e13 : ∀ v, up2 (up2 (up2 ζ 11 j x) 14 g (up2 ζ 11 j x 14 g + x)) 12 (nPd ζ) v 13 2 = ζ 13 2 := fun v => rfl
      exact ZO.mkn (by unfold mPay; rw [e5, nI_cl (show g < 2 ^ 31 by omega)]; dsimp only; first | rw [if_pos c30, es] | rw [if_neg c30, if_pos (show mPd ζ (nI g) = true from c38), es] | rw [if_neg c30, if_neg (by rw [show mPd ζ (nI g) = false from c38]; decide), es]; try rfl) hO5 (((hF2.tr hF3).tr hF4).tr hF5)
