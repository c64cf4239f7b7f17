theorem lp_inv {α : Type} {f : Nat → α → α} (P : α → Prop) (hs : ∀ i a, P a → P (f i a)) : ∀ (k i : Nat) (a : α), P a → P (lp f i k a)
  | 0, _, _, h => h
  | k + 1, i, a, h => lp_inv P hs k (i + 1) (f i a) (hs i a h)
theorem wLong13 (σ : Sg) (c : Nat) (l : Int32) : wLong σ c l 13 = σ 13 := by
  funext b
  unfold wLong
  split <;> simp [up2]
theorem wDayF13 (l : Int32) (c : Nat) (q : Sg × Int32) : (wDayF l c q).1 13 = q.1 13 := by
  unfold wDayF
  dsimp only
  split
  · exact wLong13 _ _ _
  · rfl
theorem wDay13 (σ : Sg) (l : Int32) : (wDay σ l).1 13 = σ 13 := lp_inv (fun q : Sg × Int32 => q.1 13 = σ 13) (fun i q h => (wDayF13 l i q).trans h) (nCl σ) 0 (σ, 0) rfl
theorem sCount13 (σ : Sg) (j b : Nat) (hb : b < 3) : (sCount σ j).2 13 b = σ 13 b := by
  unfold sCount
  dsimp only
  split
  · exact (up2_j (j := 3) (b := b) _ (by omega)).trans ((up2_k (k := 2) (a := 13) _ (by decide)).trans (up2_k (k := 3) (a := 13) _ (by decide)))
  · show up2 σ 3 j (σ 3 j + 1) 13 b = σ 13 b
    exact up2_k (k := 3) (a := 13) _ (by decide)
theorem pDayF13 (c : Int32) (j b : Nat) (hb : b < 3) (q : Sg × Int32) : (pDayF c j q).1 13 b = q.1 13 b := by
  unfold pDayF
  split
  · show up2 q.1 4 j (q.1 4 j + 1) 13 b = q.1 13 b
    exact up2_k (k := 4) (a := 13) _ (by decide)
  split
  · split
    · rfl
    · exact sCount13 _ _ _ hb
  · rfl
theorem pDay13 (σ : Sg) (b : Nat) (hb : b < 3) : (pDay σ).1 13 b = σ 13 b := by
  unfold pDay
  dsimp only
  rw [up2_j (j := 4) (b := b) _ (by omega)]
  refine (lp_inv (f := pDayF (wDay σ (σ 0 2)).2) (fun q : Sg × Int32 => q.1 13 b = (wDay σ (σ 0 2)).1 13 b) (fun i q h => (pDayF13 _ i b hb q).trans h) (nLo (wDay σ (σ 0 2)).1) 0 ((wDay σ (σ 0 2)).1, 0) rfl).trans ?_
  rw [wDay13]
set_option maxRecDepth 100000 in
set_option maxHeartbeats 4000000 in
theorem t_waitLonger {st : Nat → Nat} (d : Nat) {z : Nat} {h : Nat → Option va_E} {o : Nat} {σ : Sg} (H : OffAt h o σ) {j : Nat} (hj : j < 30) (x : Int32) : CT st (d + 1) yX0_waitLonger cX0_waitLonger 3 none [.ref (o + 7), .int (nI j), .int x] (z, h) 0 0 (MO none z o h (wLong σ j x)) := by
  refine CT.of (lv := [.ref (o + 7), .int (nI j), .int x]) (by decide) (Nat.le_of_ble_eq_true rfl) rfl rfl ?_
  refine x_aload_n dX0_waitLonger_0 rfl ?_
  refine x_get dX0_waitLonger_1 fX0_31 H.cl.ob rfl ?_
  refine x_iload_n dX0_waitLonger_4 rfl ?_
  refine x_dup2 dX0_waitLonger_5 rfl rfl ?_
  refine e_ald dX0_waitLonger_6 H.cl.r10 (ax_ixN (j := j) (by omega) (Nat.le_of_ble_eq_true rfl)) ?_
  refine x_iconst (v := 1) dX0_waitLonger_7 rfl ?_
  refine x_iadd dX0_waitLonger_8 ?_
  refine e_oast (K := 10) dX0_waitLonger_9 H (Nat.le_of_ble_eq_true rfl) (show ax_ix _ 30 _ from (ax_ixN (j := j) (by omega) (Nat.le_of_ble_eq_true rfl))) (fun h1 hO1 hF1 => ?_)
  refine x_aload_n dX0_waitLonger_10 rfl ?_
  refine x_get dX0_waitLonger_11 fX0_31 hO1.cl.ob rfl ?_
  refine x_iload_n dX0_waitLonger_14 rfl ?_
  refine e_ald dX0_waitLonger_15 hO1.cl.r10 (ax_ixN (j := j) (by omega) (Nat.le_of_ble_eq_true rfl)) ?_
  refine x_iload_n dX0_waitLonger_16 rfl ?_
  refine x_icmp_lt (tgt := 27) dX0_waitLonger_17 (by decide) (fun c17 => ?_) (fun c17 => ?_)
  · refine x_vret dX0_waitLonger_27 rfl rfl (Nat.le_refl _) ?_
    exact MO.mkn (by simp only [up2_s] at c17; simp [wLong, *]) hO1 hF1
  · refine x_aload_n dX0_waitLonger_20 rfl ?_
    refine x_get dX0_waitLonger_21 fX0_28 hO1.cl.ob rfl ?_
    refine x_iload_n dX0_waitLonger_24 rfl ?_
    refine x_iconst (v := 4) dX0_waitLonger_25 rfl ?_
    refine e_oast (K := 9) dX0_waitLonger_26 hO1 (Nat.le_of_ble_eq_true rfl) (show ax_ix _ 30 _ from (ax_ixN (j := j) (by omega) (Nat.le_of_ble_eq_true rfl))) (fun h2 hO2 hF2 => ?_)
    refine x_vret dX0_waitLonger_27 rfl rfl (Nat.le_refl _) ?_
    exact MO.mkn (by simp only [up2_s] at c17; simp [wLong, *]) hO2 (hF1.tr hF2)

set_option maxRecDepth 100000 in
set_option maxHeartbeats 4000000 in
theorem L_waitOneDay {st : Nat → Nat} (d : Nat) {z : Nat} {h : Nat → Option va_E} {o N : Nat} {n : Int32} {τ : Sg × Int32} (l : Int32) (hN : N ≤ 30) : ∀ (k : Nat) (i : Nat) (r : Int32) (σ1 : Sg) (hq1 : Nat → Option va_E), i + k = N → OffAt hq1 o σ1 → Fr o 16 h hq1 → σ1 13 1 = nI N → lp (wDayF l) i k (σ1, r) = τ → Ev st (d + 2) yX0_waitOneDay cX0_waitOneDay 4 (some .int) (z, h) 0 0 (MO (some (.int τ.2)) z o h τ.1) 4 [.ref (o + 7), .int l, .int r, .int (nI i)] [] (z, hq1) 0 0 := by
  intro k
  induction k with
  | zero =>
    intro i r σ1 hq1 hik HQ1 hFQ k1 hR
    refine x_iload_n dX0_waitOneDay_4 rfl ?_
    refine x_aload_n dX0_waitOneDay_5 rfl ?_
    refine x_get dX0_waitOneDay_6 fX0_9 HQ1.cl.ob rfl ?_
    rw [k1]
    refine x_icmp_ge (tgt := 51) dX0_waitOneDay_9 (by decide) (fun c9 => ?_) (fun c9 => absurd (nI_le (a := N) (b := i) (by omega) (by omega)) c9)
    refine x_iload_n dX0_waitOneDay_51 rfl ?_
    refine x_iret dX0_waitOneDay_52 (Or.inl rfl) rfl (Nat.le_refl _) ?_
    subst hR
    exact ⟨rfl, _, rfl, HQ1, hFQ⟩
  | succ k ih =>
    intro i r σ1 hq1 hik HQ1 hFQ k1 hR
    refine x_iload_n dX0_waitOneDay_4 rfl ?_
    refine x_aload_n dX0_waitOneDay_5 rfl ?_
    refine x_get dX0_waitOneDay_6 fX0_9 HQ1.cl.ob rfl ?_
    rw [k1]
    refine x_icmp_ge (tgt := 51) dX0_waitOneDay_9 (by decide) (fun c9 => absurd c9 (nI_ge (a := i) (b := N) (by omega) (by omega))) (fun c9 => ?_)
    refine x_aload_n dX0_waitOneDay_12 rfl ?_
    refine x_iload_n dX0_waitOneDay_13 rfl ?_
    refine c_VR dX0_waitOneDay_14 kX0_isOpen iX0_isOpen q562 (t_isOpen _ HQ1.cl (by omega)) HQ1.cl.ob rfl rfl rfl (Nat.le_of_ble_eq_true rfl) ⟨Nat.le_refl _, Nat.le_refl _⟩ ?_
    refine x_if_eq (tgt := 26) dX0_waitOneDay_17 (by decide) (fun c17 => ?_) (fun c17 => ?_)
    · have c17 := bI_eq c17
      refine x_aload_n dX0_waitOneDay_26 rfl ?_
      refine x_iload_n dX0_waitOneDay_27 rfl ?_
      refine c_VR dX0_waitOneDay_28 kX0_stands iX0_stands q567 (t_stands _ HQ1.cl (by omega)) HQ1.cl.ob rfl rfl rfl (Nat.le_of_ble_eq_true rfl) ⟨Nat.le_refl _, Nat.le_refl _⟩ ?_
      refine x_if_eq (tgt := 45) dX0_waitOneDay_31 (by decide) (fun c31 => ?_) (fun c31 => ?_)
      · have c31 := bI_eq c31
        refine e_inc (lv' := fun w9 => [.ref (o + 7), .int l, .int r, .int w9]) dX0_waitOneDay_45 rfl rfl (fun _ => rfl) (fun v1 ev1 => ?_)
        refine x_goto (tgt := 4) dX0_waitOneDay_48 (by decide) ?_
        obtain rfl := inc1 ev1
        exact ih (i + 1) r _ hq1 (by omega) HQ1 hFQ k1 (by rw [← hR, lp_s]; congr 1; simp [wDayF, *])
      · have c31 := bI_ne c31
        refine x_iload_n dX0_waitOneDay_34 rfl ?_
        refine x_iconst (v := 1) dX0_waitOneDay_35 rfl ?_
        refine x_aload_n dX0_waitOneDay_36 rfl ?_
        refine x_get dX0_waitOneDay_37 fX0_19 HQ1.cl.ob rfl ?_
        refine x_iload_n dX0_waitOneDay_40 rfl ?_
        refine e_ald dX0_waitOneDay_41 HQ1.cl.r6 (ax_ixN (j := i) (by omega) (Nat.le_of_ble_eq_true rfl)) ?_
        refine x_ishl dX0_waitOneDay_42 ?_
        refine x_ior dX0_waitOneDay_43 ?_
        refine e_ist_n (lv' := fun w9 => [.ref (o + 7), .int l, .int w9, .int (nI i)]) dX0_waitOneDay_44 (Nat.le_of_ble_eq_true rfl) rfl (fun _ => rfl) (fun v2 ev2 => ?_)
        refine e_inc (lv' := fun w9 => [.ref (o + 7), .int l, .int v2, .int w9]) dX0_waitOneDay_45 rfl rfl (fun _ => rfl) (fun v3 ev3 => ?_)
        refine x_goto (tgt := 4) dX0_waitOneDay_48 (by decide) ?_
        obtain rfl := inc1 ev3
        exact ih (i + 1) v2 _ hq1 (by omega) HQ1 hFQ k1 (by rw [← hR, lp_s]; congr 1; subst ev2; simp [wDayF, *])
    · have c17 := bI_ne c17
      refine x_aload_n dX0_waitOneDay_20 rfl ?_
      refine x_iload_n dX0_waitOneDay_21 rfl ?_
      refine x_iload_n dX0_waitOneDay_22 rfl ?_
      refine c_VMn dX0_waitOneDay_23 kX0_waitLonger iX0_waitLonger q563 (t_waitLonger _ HQ1 (by omega) _) HQ1.cl.ob rfl rfl rfl (Nat.le_of_ble_eq_true rfl) ⟨Nat.le_refl _, Nat.le_refl _⟩ (fun h4 hO4 hF4 => ?_)
      refine x_aload_n dX0_waitOneDay_26 rfl ?_
      refine x_iload_n dX0_waitOneDay_27 rfl ?_
      refine c_VR dX0_waitOneDay_28 kX0_stands iX0_stands q567 (t_stands _ hO4.cl (by omega)) hO4.cl.ob rfl rfl rfl (Nat.le_of_ble_eq_true rfl) ⟨Nat.le_refl _, Nat.le_refl _⟩ ?_
      refine x_if_eq (tgt := 45) dX0_waitOneDay_31 (by decide) (fun c31 => ?_) (fun c31 => ?_)
      · have c31 := bI_eq c31
        refine e_inc (lv' := fun w9 => [.ref (o + 7), .int l, .int r, .int w9]) dX0_waitOneDay_45 rfl rfl (fun _ => rfl) (fun v5 ev5 => ?_)
        refine x_goto (tgt := 4) dX0_waitOneDay_48 (by decide) ?_
        obtain rfl := inc1 ev5
        exact ih (i + 1) r _ h4 (by omega) hO4 (hFQ.tr hF4) ((congrFun (wLong13 _ _ _) 1).trans k1) (by rw [← hR, lp_s]; congr 1; simp [wDayF, *])
      · have c31 := bI_ne c31
        refine x_iload_n dX0_waitOneDay_34 rfl ?_
        refine x_iconst (v := 1) dX0_waitOneDay_35 rfl ?_
        refine x_aload_n dX0_waitOneDay_36 rfl ?_
        refine x_get dX0_waitOneDay_37 fX0_19 hO4.cl.ob rfl ?_
        refine x_iload_n dX0_waitOneDay_40 rfl ?_
        refine e_ald dX0_waitOneDay_41 hO4.cl.r6 (ax_ixN (j := i) (by omega) (Nat.le_of_ble_eq_true rfl)) ?_
        refine x_ishl dX0_waitOneDay_42 ?_
        refine x_ior dX0_waitOneDay_43 ?_
        refine e_ist_n (lv' := fun w9 => [.ref (o + 7), .int l, .int w9, .int (nI i)]) dX0_waitOneDay_44 (Nat.le_of_ble_eq_true rfl) rfl (fun _ => rfl) (fun v6 ev6 => ?_)
        refine e_inc (lv' := fun w9 => [.ref (o + 7), .int l, .int v6, .int w9]) dX0_waitOneDay_45 rfl rfl (fun _ => rfl) (fun v7 ev7 => ?_)
        refine x_goto (tgt := 4) dX0_waitOneDay_48 (by decide) ?_
        obtain rfl := inc1 ev7
        exact ih (i + 1) v6 _ h4 (by omega) hO4 (hFQ.tr hF4) ((congrFun (wLong13 _ _ _) 1).trans k1) (by rw [← hR, lp_s]; congr 1; subst ev6; simp [wDayF, *])

set_option maxRecDepth 100000 in
set_option maxHeartbeats 4000000 in
theorem t_waitOneDay {st : Nat → Nat} (d : Nat) {z : Nat} {h : Nat → Option va_E} {o : Nat} {σ : Sg} (H : OffAt h o σ) (hC : COk σ) (x : Int32) : CT st (d + 2) yX0_waitOneDay cX0_waitOneDay 4 (some .int) [.ref (o + 7), .int x] (z, h) 0 0 (MO (some (.int (wDay σ x).2)) z o h (wDay σ x).1) := by
  refine CT.of (lv := [.ref (o + 7), .int x, .null, .null]) (by decide) (Nat.le_of_ble_eq_true rfl) rfl rfl ?_
  refine x_iconst (v := 0) dX0_waitOneDay_0 rfl ?_
  refine e_ist_n (lv' := fun w9 => [.ref (o + 7), .int x, .int w9, .null]) dX0_waitOneDay_1 (Nat.le_of_ble_eq_true rfl) rfl (fun _ => rfl) (fun v1 ev1 => ?_)
  refine x_iconst (v := 0) dX0_waitOneDay_2 rfl ?_
  refine e_ist_n (lv' := fun w9 => [.ref (o + 7), .int x, .int v1, .int w9]) dX0_waitOneDay_3 (Nat.le_of_ble_eq_true rfl) rfl (fun _ => rfl) (fun v2 ev2 => ?_)
  subst ev1 ev2
  exact L_waitOneDay d (n := 0) (τ := wDay σ x) x hC.2 (nCl σ) 0 0 σ h (by omega) H Fr.rf hC.1 rfl

set_option maxRecDepth 100000 in
set_option maxHeartbeats 4000000 in
theorem t_countDay {st : Nat → Nat} (d : Nat) {z : Nat} {h : Nat → Option va_E} {o : Nat} {σ : Sg} (H : OffAt h o σ) {j : Nat} (hj : j < 12) : CT st (d + 1) yX2_countDay cX2_countDay 2 (some .int) [.ref o, .int (nI j)] (z, h) 0 0 (MO (some (.int (sCount σ j).1)) z o h (sCount σ j).2) := by
  refine CT.of (lv := [.ref o, .int (nI j)]) (by decide) (Nat.le_of_ble_eq_true rfl) rfl rfl ?_
  refine x_aload_n dX2_countDay_0 rfl ?_
  refine x_get dX2_countDay_1 fX2_18 H.ob rfl ?_
  refine x_get dX2_countDay_4 fX2_175 H.lo.ob rfl ?_
  refine x_iload_n dX2_countDay_7 rfl ?_
  refine x_dup2 dX2_countDay_8 rfl rfl ?_
  refine e_ald dX2_countDay_9 H.lo.r3 (ax_ixN (j := j) (by omega) (Nat.le_of_ble_eq_true rfl)) ?_
  refine x_iconst (v := 1) dX2_countDay_10 rfl ?_
  refine x_iadd dX2_countDay_11 ?_
  refine e_oast (K := 3) dX2_countDay_12 H (Nat.le_of_ble_eq_true rfl) (show ax_ix _ 12 _ from (ax_ixN (j := j) (by omega) (Nat.le_of_ble_eq_true rfl))) (fun h1 hO1 hF1 => ?_)
  refine x_aload_n dX2_countDay_13 rfl ?_
  refine x_get dX2_countDay_14 fX2_18 hO1.ob rfl ?_
  refine x_get dX2_countDay_17 fX2_175 hO1.lo.ob rfl ?_
  refine x_iload_n dX2_countDay_20 rfl ?_
  refine e_ald dX2_countDay_21 hO1.lo.r3 (ax_ixN (j := j) (by omega) (Nat.le_of_ble_eq_true rfl)) ?_
  refine x_aload_n dX2_countDay_22 rfl ?_
  refine x_get dX2_countDay_23 fX2_9 hO1.ob rfl ?_
  refine x_iconst (v := 0) dX2_countDay_26 rfl ?_
  refine e_ald dX2_countDay_27 hO1.r0 (ax_ixN (j := 0) (Nat.le_of_ble_eq_true rfl) (Nat.le_of_ble_eq_true rfl)) ?_
  refine x_icmp_ge (tgt := 33) dX2_countDay_28 (by decide) (fun c28 => ?_) (fun c28 => ?_)
  · refine x_aload_n dX2_countDay_33 rfl ?_
    refine x_get dX2_countDay_34 fX2_18 hO1.ob rfl ?_
    refine x_get dX2_countDay_37 fX2_72 hO1.lo.ob rfl ?_
    refine x_iload_n dX2_countDay_40 rfl ?_
    refine x_iconst (v := 3) dX2_countDay_41 rfl ?_
    refine e_oast (K := 2) dX2_countDay_42 hO1 (Nat.le_of_ble_eq_true rfl) (show ax_ix _ 12 _ from (ax_ixN (j := j) (by omega) (Nat.le_of_ble_eq_true rfl))) (fun h2 hO2 hF2 => ?_)
    refine x_aload_n dX2_countDay_43 rfl ?_
    refine x_dup dX2_countDay_44 rfl ?_
    refine x_get dX2_countDay_45 fX2_36 hO2.ob rfl ?_
    refine x_aload_n dX2_countDay_48 rfl ?_
    refine x_get dX2_countDay_49 fX2_18 hO2.ob rfl ?_
    refine x_get dX2_countDay_52 fX2_65 hO2.lo.ob rfl ?_
    refine x_iload_n dX2_countDay_55 rfl ?_
    refine e_ald dX2_countDay_56 hO2.lo.r1 (ax_ixN (j := j) (by omega) (Nat.le_of_ble_eq_true rfl)) ?_
    refine x_iadd dX2_countDay_57 ?_
    refine e_oput (j := 5) dX2_countDay_58 (Or.inr (Or.inl rfl)) fX2_36 hO2 (fun h3 hO3 hF3 => ?_)
    refine x_iconst (v := 1) dX2_countDay_61 rfl ?_
    refine x_iret dX2_countDay_62 (Or.inl rfl) rfl (Nat.le_refl _) ?_
    exact MO.mk (by have u1 : ∀ v, up2 σ 3 j v 13 3 = σ 13 3 := fun v => up2_k v (by decide); have u2 : ∀ v w, up2 (up2 σ 3 j v) 2 j w 13 3 = σ 13 3 := fun v w => (up2_k w (by decide)).trans (u1 v); have u3 : ∀ v w, up2 (up2 σ 3 j v) 2 j w 1 j = σ 1 j := fun v w => (up2_k w (by decide)).trans (up2_k v (by decide)); simp [sCount, *]) hO3 ((hF1.tr hF2).tr hF3)
  · refine x_iconst (v := 0) dX2_countDay_31 rfl ?_
    refine x_iret dX2_countDay_32 (Or.inl rfl) rfl (Nat.le_refl _) ?_
    exact MO.mk (by have u1 : ∀ v, up2 σ 3 j v 13 3 = σ 13 3 := fun v => up2_k v (by decide); have u2 : ∀ v w, up2 (up2 σ 3 j v) 2 j w 13 3 = σ 13 3 := fun v w => (up2_k w (by decide)).trans (u1 v); have u3 : ∀ v w, up2 (up2 σ 3 j v) 2 j w 1 j = σ 1 j := fun v w => (up2_k w (by decide)).trans (up2_k v (by decide)); simp [sCount, *]) hO1 hF1

set_option maxRecDepth 100000 in
set_option maxHeartbeats 4000000 in
theorem L_passDay {st : Nat → Nat} (d : Nat) {z : Nat} {h : Nat → Option va_E} {o N : Nat} {τ : Sg × Int32} (c : Int32) (hN : N ≤ 12) : ∀ (k : Nat) (i : Nat) (r : Int32) (σ1 : Sg) (hq1 : Nat → Option va_E), i + k = N → OffAt hq1 o σ1 → Fr o 16 h hq1 → σ1 13 0 = nI N → lp (pDayF c) i k (σ1, r) = τ → Ev st (d + 3) yX2_passDay cX2_passDay 4 (some .int) (z, h) 0 0 (MO (some (.int τ.2)) z o h (up2 τ.1 13 4 (τ.1 13 4 + 1))) 18 [.ref o, .int c, .int r, .int (nI i)] [] (z, hq1) 0 0 := by
  intro k
  induction k with
  | zero =>
    intro i r σ1 hq1 hik HQ1 hFQ k0 hR
    refine x_iload_n dX2_passDay_18 rfl ?_
    refine x_aload_n dX2_passDay_19 rfl ?_
    refine x_get dX2_passDay_20 fX2_18 HQ1.ob rfl ?_
    refine x_get dX2_passDay_23 fX2_62 HQ1.lo.ob rfl ?_
    rw [k0]
    refine x_icmp_ge (tgt := 93) dX2_passDay_26 (by decide) (fun c26 => ?_) (fun c26 => absurd (nI_le (a := N) (b := i) (by omega) (by omega)) c26)
    refine x_aload_n dX2_passDay_93 rfl ?_
    refine x_dup dX2_passDay_94 rfl ?_
    refine x_get dX2_passDay_95 fX2_39 HQ1.ob rfl ?_
    refine x_iconst (v := 1) dX2_passDay_98 rfl ?_
    refine x_iadd dX2_passDay_99 ?_
    refine e_oput (j := 6) dX2_passDay_100 (Or.inr (Or.inr rfl)) fX2_39 HQ1 (fun h1 hO1 hF1 => ?_)
    refine x_iload_n dX2_passDay_103 rfl ?_
    refine x_iret dX2_passDay_104 (Or.inl rfl) rfl (Nat.le_refl _) ?_
    subst hR
    exact ⟨rfl, _, rfl, hO1, hFQ.tr hF1⟩
  | succ k ih =>
    intro i r σ1 hq1 hik HQ1 hFQ k0 hR
    refine x_iload_n dX2_passDay_18 rfl ?_
    refine x_aload_n dX2_passDay_19 rfl ?_
    refine x_get dX2_passDay_20 fX2_18 HQ1.ob rfl ?_
    refine x_get dX2_passDay_23 fX2_62 HQ1.lo.ob rfl ?_
    rw [k0]
    refine x_icmp_ge (tgt := 93) dX2_passDay_26 (by decide) (fun c26 => absurd c26 (nI_ge (a := i) (b := N) (by omega) (by omega))) (fun c26 => ?_)
    refine x_aload_n dX2_passDay_29 rfl ?_
    refine x_get dX2_passDay_30 fX2_18 HQ1.ob rfl ?_
    refine x_get dX2_passDay_33 fX2_72 HQ1.lo.ob rfl ?_
    refine x_iload_n dX2_passDay_36 rfl ?_
    refine e_ald dX2_passDay_37 HQ1.lo.r2 (ax_ixN (j := i) (by omega) (Nat.le_of_ble_eq_true rfl)) ?_
    refine x_iconst (v := 3) dX2_passDay_38 rfl ?_
    refine x_icmp_ne (tgt := 58) dX2_passDay_39 (by decide) (fun c39 => ?_) (fun c39 => ?_)
    · refine x_aload_n dX2_passDay_58 rfl ?_
      refine x_get dX2_passDay_59 fX2_18 HQ1.ob rfl ?_
      refine x_get dX2_passDay_62 fX2_72 HQ1.lo.ob rfl ?_
      refine x_iload_n dX2_passDay_65 rfl ?_
      refine e_ald dX2_passDay_66 HQ1.lo.r2 (ax_ixN (j := i) (by omega) (Nat.le_of_ble_eq_true rfl)) ?_
      refine x_iconst (v := 1) dX2_passDay_67 rfl ?_
      refine x_icmp_ne (tgt := 87) dX2_passDay_68 (by decide) (fun c68 => ?_) (fun c68 => ?_)
      · refine e_inc (lv' := fun w9 => [.ref o, .int c, .int r, .int w9]) dX2_passDay_87 rfl rfl (fun _ => rfl) (fun v1 ev1 => ?_)
        refine x_goto (tgt := 18) dX2_passDay_90 (by decide) ?_
        obtain rfl := inc1 ev1
        exact ih (i + 1) r _ hq1 (by omega) HQ1 hFQ k0 (by rw [← hR, lp_s]; congr 1; simp [pDayF, *])
      · refine x_iload_n dX2_passDay_71 rfl ?_
        refine x_iload_n dX2_passDay_72 rfl ?_
        refine c_NR dX2_passDay_73 kX4_holds q227 q403 (t_holds _ _ _) rfl rfl (Nat.le_of_ble_eq_true rfl) ⟨Nat.le_refl _, Nat.le_refl _⟩ ?_
        refine x_if_ne (tgt := 87) dX2_passDay_76 (by decide) (fun c76 => ?_) (fun c76 => ?_)
        · have c76 := bI_ne c76
          refine e_inc (lv' := fun w9 => [.ref o, .int c, .int r, .int w9]) dX2_passDay_87 rfl rfl (fun _ => rfl) (fun v2 ev2 => ?_)
          refine x_goto (tgt := 18) dX2_passDay_90 (by decide) ?_
          obtain rfl := inc1 ev2
          exact ih (i + 1) r _ hq1 (by omega) HQ1 hFQ k0 (by rw [← hR, lp_s]; congr 1; simp [pDayF, *])
        · have c76 := bI_eq c76
          refine x_iload_n dX2_passDay_79 rfl ?_
          refine x_aload_n dX2_passDay_80 rfl ?_
          refine x_iload_n dX2_passDay_81 rfl ?_
          refine c_VM dX2_passDay_82 kX2_countDay iX2_countDay q568 (t_countDay _ HQ1 (by omega)) HQ1.ob rfl rfl rfl (Nat.le_of_ble_eq_true rfl) ⟨Nat.le_refl _, Nat.le_refl _⟩ (fun h3 hO3 hF3 => ?_)
          refine x_iadd dX2_passDay_85 ?_
          refine e_ist_n (lv' := fun w9 => [.ref o, .int c, .int w9, .int (nI i)]) dX2_passDay_86 (Nat.le_of_ble_eq_true rfl) rfl (fun _ => rfl) (fun v4 ev4 => ?_)
          refine e_inc (lv' := fun w9 => [.ref o, .int c, .int v4, .int w9]) dX2_passDay_87 rfl rfl (fun _ => rfl) (fun v5 ev5 => ?_)
          refine x_goto (tgt := 18) dX2_passDay_90 (by decide) ?_
          obtain rfl := inc1 ev5
          exact ih (i + 1) v4 _ h3 (by omega) hO3 (hFQ.tr hF3) (by first | exact (up2_k _ (by decide)).trans k0 | exact (sCount13 _ _ 0 (by decide)).trans k0) (by rw [← hR, lp_s]; congr 1; subst ev4; simp [pDayF, *])
    · refine x_aload_n dX2_passDay_42 rfl ?_
      refine x_get dX2_passDay_43 fX2_18 HQ1.ob rfl ?_
      refine x_get dX2_passDay_46 fX2_106 HQ1.lo.ob rfl ?_
      refine x_iload_n dX2_passDay_49 rfl ?_
      refine x_dup2 dX2_passDay_50 rfl rfl ?_
      refine e_ald dX2_passDay_51 HQ1.lo.r4 (ax_ixN (j := i) (by omega) (Nat.le_of_ble_eq_true rfl)) ?_
      refine x_iconst (v := 1) dX2_passDay_52 rfl ?_
      refine x_iadd dX2_passDay_53 ?_
      refine e_oast (K := 4) dX2_passDay_54 HQ1 (Nat.le_of_ble_eq_true rfl) (show ax_ix _ 12 _ from (ax_ixN (j := i) (by omega) (Nat.le_of_ble_eq_true rfl))) (fun h6 hO6 hF6 => ?_)
      refine x_goto (tgt := 87) dX2_passDay_55 (by decide) ?_
      refine e_inc (lv' := fun w9 => [.ref o, .int c, .int r, .int w9]) dX2_passDay_87 rfl rfl (fun _ => rfl) (fun v7 ev7 => ?_)
      refine x_goto (tgt := 18) dX2_passDay_90 (by decide) ?_
      obtain rfl := inc1 ev7
      exact ih (i + 1) r _ h6 (by omega) hO6 (hFQ.tr hF6) (by first | exact (up2_k _ (by decide)).trans k0 | exact (sCount13 _ _ 0 (by decide)).trans k0) (by rw [← hR, lp_s]; congr 1; simp [pDayF, *])

set_option maxRecDepth 100000 in
set_option maxHeartbeats 4000000 in
theorem t_passDay {st : Nat → Nat} (d : Nat) {z : Nat} {h : Nat → Option va_E} {o : Nat} {σ : Sg} (H : OffAt h o σ) (hL : LOk σ) (hC : COk σ)  : CT st (d + 3) yX2_passDay cX2_passDay 4 (some .int) [.ref o] (z, h) 0 0 (MO (some (.int (pDay σ).2)) z o h (pDay σ).1) := by
  refine CT.of (lv := [.ref o, .null, .null, .null]) (by decide) (Nat.le_of_ble_eq_true rfl) rfl rfl ?_
  refine x_aload_n dX2_passDay_0 rfl ?_
  refine x_get dX2_passDay_1 fX2_25 H.ob rfl ?_
  refine x_aload_n dX2_passDay_4 rfl ?_
  refine x_get dX2_passDay_5 fX2_9 H.ob rfl ?_
  refine x_iconst (v := 2) dX2_passDay_8 rfl ?_
  refine e_ald dX2_passDay_9 H.r0 (ax_ixN (j := 2) (Nat.le_of_ble_eq_true rfl) (Nat.le_of_ble_eq_true rfl)) ?_
  refine c_VM dX2_passDay_10 kX0_waitOneDay iX0_waitOneDay q558 (t_waitOneDay _ H hC _) H.cl.ob rfl rfl rfl (Nat.le_of_ble_eq_true rfl) ⟨Nat.le_refl _, Nat.le_refl _⟩ (fun h1 hO1 hF1 => ?_)
  refine e_ist_n (lv' := fun w9 => [.ref o, .int w9, .null, .null]) dX2_passDay_13 (Nat.le_of_ble_eq_true rfl) rfl (fun _ => rfl) (fun v2 ev2 => ?_)
  refine x_iconst (v := 0) dX2_passDay_14 rfl ?_
  refine e_ist_n (lv' := fun w9 => [.ref o, .int v2, .int w9, .null]) dX2_passDay_15 (Nat.le_of_ble_eq_true rfl) rfl (fun _ => rfl) (fun v3 ev3 => ?_)
  refine x_iconst (v := 0) dX2_passDay_16 rfl ?_
  refine e_ist_n (lv' := fun w9 => [.ref o, .int v2, .int v3, .int w9]) dX2_passDay_17 (Nat.le_of_ble_eq_true rfl) rfl (fun _ => rfl) (fun v4 ev4 => ?_)
  subst ev2 ev3 ev4
  have k0 : (wDay σ (σ 0 2)).1 13 0 = nI (nLo (wDay σ (σ 0 2)).1) := (hL.to (congrFun (wDay13 σ (σ 0 2)) 0)).1.1
  have e : pDay σ = (up2 (lp (pDayF (wDay σ (σ 0 2)).2) 0 (nLo (wDay σ (σ 0 2)).1) ((wDay σ (σ 0 2)).1, 0)).1 13 4 ((lp (pDayF (wDay σ (σ 0 2)).2) 0 (nLo (wDay σ (σ 0 2)).1) ((wDay σ (σ 0 2)).1, 0)).1 13 4 + 1), (lp (pDayF (wDay σ (σ 0 2)).2) 0 (nLo (wDay σ (σ 0 2)).1) ((wDay σ (σ 0 2)).1, 0)).2) := rfl
  rw [e]
  exact L_passDay d (τ := lp (pDayF (wDay σ (σ 0 2)).2) 0 (nLo (wDay σ (σ 0 2)).1) ((wDay σ (σ 0 2)).1, 0)) (wDay σ (σ 0 2)).2 (hL.to (congrFun (wDay13 σ (σ 0 2)) 0)).1.2 (nLo (wDay σ (σ 0 2)).1) 0 0 _ h1 (by omega) hO1 hF1 k0 rfl

set_option maxRecDepth 100000 in
set_option maxHeartbeats 4000000 in
theorem L_passDays {st : Nat → Nat} (d : Nat) {z : Nat} {h : Nat → Option va_E} {o N : Nat} {σ : Sg} (hL : LOk σ) (hC : COk σ) {τ : Sg × Int32} (hN : N < 1000) : ∀ (k : Nat) (i : Nat) (r : Int32) (σ1 : Sg) (hq1 : Nat → Option va_E), i + k = N → OffAt hq1 o σ1 → Fr o 16 h hq1 → σ1 13 0 = σ 13 0 → σ1 13 1 = σ 13 1 → lp pDaysF i k (σ1, r) = τ → Ev st (d + 4) yX2_passDays cX2_passDays 4 (some .int) (z, h) 0 0 (MO (some (.int τ.2)) z o h τ.1) 34 [.ref o, .int (nI N), .int r, .int (nI i)] [] (z, hq1) 0 0 := by
  intro k
  induction k with
  | zero =>
    intro i r σ1 hq1 hik HQ1 hFQ k0 k1 hR
    refine x_iload_n dX2_passDays_34 rfl ?_
    refine x_iload_n dX2_passDays_35 rfl ?_
    refine x_icmp_ge (tgt := 52) dX2_passDays_36 (by decide) (fun c36 => ?_) (fun c36 => absurd (nI_le (a := N) (b := i) (by omega) (by omega)) c36)
    refine x_iload_n dX2_passDays_52 rfl ?_
    refine x_iret dX2_passDays_53 (Or.inl rfl) rfl (Nat.le_refl _) ?_
    subst hR
    exact ⟨rfl, _, rfl, HQ1, hFQ⟩
  | succ k ih =>
    intro i r σ1 hq1 hik HQ1 hFQ k0 k1 hR
    refine x_iload_n dX2_passDays_34 rfl ?_
    refine x_iload_n dX2_passDays_35 rfl ?_
    refine x_icmp_ge (tgt := 52) dX2_passDays_36 (by decide) (fun c36 => absurd c36 (nI_ge (a := i) (b := N) (by omega) (by omega))) (fun c36 => ?_)
    refine x_iload_n dX2_passDays_39 rfl ?_
    refine x_aload_n dX2_passDays_40 rfl ?_
    refine c_VM dX2_passDays_41 kX2_passDay iX2_passDay q554 (t_passDay _ HQ1 (hL.to k0).1 (hC.to k1).1) HQ1.ob rfl rfl rfl (Nat.le_of_ble_eq_true rfl) ⟨Nat.le_refl _, Nat.le_refl _⟩ (fun h1 hO1 hF1 => ?_)
    refine x_iadd dX2_passDays_44 ?_
    refine e_ist_n (lv' := fun w9 => [.ref o, .int (nI N), .int w9, .int (nI i)]) dX2_passDays_45 (Nat.le_of_ble_eq_true rfl) rfl (fun _ => rfl) (fun v2 ev2 => ?_)
    refine e_inc (lv' := fun w9 => [.ref o, .int (nI N), .int v2, .int w9]) dX2_passDays_46 rfl rfl (fun _ => rfl) (fun v3 ev3 => ?_)
    refine x_goto (tgt := 34) dX2_passDays_49 (by decide) ?_
    obtain rfl := inc1 ev3
    exact ih (i + 1) v2 _ h1 (by omega) hO1 (hFQ.tr hF1) ((pDay13 _ 0 (by decide)).trans k0) ((pDay13 _ 1 (by decide)).trans k1) (by rw [← hR, lp_s]; subst ev2; rfl)

set_option maxRecDepth 100000 in
set_option maxHeartbeats 4000000 in
theorem t_passDays {st : Nat → Nat} (d : Nat) {z : Nat} {h : Nat → Option va_E} {o : Nat} {σ : Sg} (H : OffAt h o σ) (hL : LOk σ) (hC : COk σ) (x : Int32) : CT st (d + 4) yX2_passDays cX2_passDays 4 (some .int) [.ref o, .int x] (z, h) 0 0 (MO (some (.int (oPass σ x).1)) z o h (oPass σ x).2) := by
  refine CT.of (lv := [.ref o, .int x, .null, .null]) (by decide) (Nat.le_of_ble_eq_true rfl) rfl rfl ?_
  refine x_iload_n dX2_passDays_0 rfl ?_
  refine x_iconst (v := 1) dX2_passDays_1 rfl ?_
  refine x_icmp_lt (tgt := 12) dX2_passDays_2 (by decide) (fun c2 => ?_) (fun c2 => ?_)
  · refine x_bipush (v := (-2)) dX2_passDays_12 rfl ?_
    refine x_iret dX2_passDays_14 (Or.inl rfl) rfl (Nat.le_refl _) ?_
    exact MO.mk (by subst_vars; simp [oPass, *]) H Fr.rf
  · refine x_iload_n dX2_passDays_5 rfl ?_
    refine x_sipush (v := 400) dX2_passDays_6 rfl ?_
    refine x_icmp_le (tgt := 15) dX2_passDays_9 (by decide) (fun c9 => ?_) (fun c9 => ?_)
    · obtain ⟨j, hj, rfl⟩ : ∃ j : Nat, j < 1000 ∧ x = nI j := by
        have h0 : ¬ x < 0 := fun q => c2 (Int32.lt_trans q (by decide))
        obtain ⟨j, hj, rfl⟩ := nI_of h0
        exact ⟨j, by have := (nI_leI (a := j) (b := 400) hj (by decide)).mp c9; omega, rfl⟩
      have hcl := nI_cl (j := j) (by omega)
      refine x_aload_n dX2_passDays_15 rfl ?_
      refine x_get dX2_passDays_16 fX2_39 H.ob rfl ?_
      refine x_iload_n dX2_passDays_19 rfl ?_
      refine x_iadd dX2_passDays_20 ?_
      refine x_sipush (v := 9999) dX2_passDays_21 rfl ?_
      refine x_icmp_le (tgt := 30) dX2_passDays_24 (by decide) (fun c24 => ?_) (fun c24 => ?_)
      · refine x_iconst (v := 0) dX2_passDays_30 rfl ?_
        refine e_ist_n (lv' := fun w9 => [.ref o, .int (nI j), .int w9, .null]) dX2_passDays_31 (Nat.le_of_ble_eq_true rfl) rfl (fun _ => rfl) (fun v1 ev1 => ?_)
        refine x_iconst (v := 0) dX2_passDays_32 rfl ?_
        refine e_ist_n (lv' := fun w9 => [.ref o, .int (nI j), .int v1, .int w9]) dX2_passDays_33 (Nat.le_of_ble_eq_true rfl) rfl (fun _ => rfl) (fun v2 ev2 => ?_)
        subst ev1 ev2
        have e : oPass σ (nI j) = ((lp pDaysF 0 j (σ, 0)).2, (lp pDaysF 0 j (σ, 0)).1) := by simp [oPass, *]
        rw [e]
        exact L_passDays d hL hC (τ := lp pDaysF 0 j (σ, 0)) hj j 0 0 σ h (by omega) H Fr.rf rfl rfl rfl
      · refine x_bipush (v := (-5)) dX2_passDays_27 rfl ?_
        refine x_iret dX2_passDays_29 (Or.inl rfl) rfl (Nat.le_refl _) ?_
        exact MO.mk (by subst_vars; simp [oPass, *]) H Fr.rf
    · refine x_bipush (v := (-2)) dX2_passDays_12 rfl ?_
      refine x_iret dX2_passDays_14 (Or.inl rfl) rfl (Nat.le_refl _) ?_
      exact MO.mk (by subst_vars; simp [oPass, *]) H Fr.rf
