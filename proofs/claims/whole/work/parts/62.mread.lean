def mSzf (s : Int32) (i : Nat) (a : Int32) : Int32 := a + ((s >>> (nI i &&& 31)) &&& 1)
def mSize (s : Int32) : Int32 := lp (mSzf s) 0 30 0
set_option maxRecDepth 100000 in
set_option maxHeartbeats 4000000 in
theorem t_in {st : Nat → Nat} (d : Nat) {z : Nat} {h : Nat → Option va_E} (v l u : Int32) : CT st (d + 1) yX5_in cX5_in 3 (some .boolean) [.int v, .int l, .int u] (z, h) 0 0 (RO (some (.int (bI (mIn v l u)))) (z, h)) := by
  refine CT.of (lv := [.int v, .int l, .int u]) (by decide) (Nat.le_of_ble_eq_true rfl) rfl rfl ?_
  refine x_iload_n dX5_in_0 rfl ?_
  refine x_iload_n dX5_in_1 rfl ?_
  refine x_icmp_lt (tgt := 14) dX5_in_2 (by decide) (fun c2 => ?_) (fun c2 => ?_)
  · refine x_iconst (v := 0) dX5_in_14 rfl ?_
    refine x_iret dX5_in_15 (Or.inr ⟨rfl, by first | rfl | exact bI_z _⟩) rfl (Nat.le_refl _) ?_
    exact RO.mk (by simp [bI, mIn, *])
  · refine x_iload_n dX5_in_5 rfl ?_
    refine x_iload_n dX5_in_6 rfl ?_
    refine x_icmp_gt (tgt := 14) dX5_in_7 (by decide) (fun c7 => ?_) (fun c7 => ?_)
    · refine x_iconst (v := 0) dX5_in_14 rfl ?_
      refine x_iret dX5_in_15 (Or.inr ⟨rfl, by first | rfl | exact bI_z _⟩) rfl (Nat.le_refl _) ?_
      exact RO.mk (by simp [bI, mIn, *])
    · refine x_iconst (v := 1) dX5_in_10 rfl ?_
      refine x_goto (tgt := 15) dX5_in_11 (by decide) ?_
      refine x_iret dX5_in_15 (Or.inr ⟨rfl, by first | rfl | exact bI_z _⟩) rfl (Nat.le_refl _) ?_
      exact RO.mk (by simp [bI, mIn, *])

set_option maxRecDepth 100000 in
set_option maxHeartbeats 4000000 in
theorem t_lotOf {st : Nat → Nat} (d : Nat) {z : Nat} {h : Nat → Option va_E} {m : Nat} {fs : List Value} {ζ : Sg} (H : ZAt h m fs ζ) {j w : Nat} {a b : Int32} (K : Nat) (ha : a = nI j) (hj : j < 12) (hb : b = nI w) (hw : w < 4) (hK : K = 1 + w) : CT st (d + 1) yX5_lotOf cX5_lotOf 3 (some .int) [.ref m, .int a, .int b] (z, h) 0 0 (RO (some (.int (ζ K j))) (z, h)) := by
  refine CT.of (lv := [.ref m, .int a, .int b]) (by decide) (Nat.le_of_ble_eq_true rfl) rfl rfl ?_
  refine x_aload_n dX5_lotOf_0 rfl ?_
  refine x_get dX5_lotOf_1 fX5_7 H.ob rfl ?_
  subst ha hb hK
  refine x_bipush (v := 10) dX5_lotOf_4 rfl ?_
  refine x_iconst (v := 4) dX5_lotOf_6 rfl ?_
  refine x_iload_n dX5_lotOf_7 rfl ?_
  refine x_imul dX5_lotOf_8 ?_
  refine x_iadd dX5_lotOf_9 ?_
  refine x_iload_n dX5_lotOf_10 rfl ?_
  refine x_iadd dX5_lotOf_11 ?_
  refine z_ald (1 + w) (j) dX5_lotOf_12 H (zAt_lot hj hw) (ix_lot hj hw) ?_
  refine x_iret dX5_lotOf_13 (Or.inl rfl) rfl (Nat.le_refl _) ?_
  exact RO.mk rfl

set_option maxRecDepth 100000 in
set_option maxHeartbeats 4000000 in
theorem t_layLot {st : Nat → Nat} (d : Nat) {z : Nat} {h : Nat → Option va_E} {m : Nat} {fs : List Value} {ζ : Sg} (H : ZAt h m fs ζ) {j w : Nat} {a b : Int32} (K : Nat) (ha : a = nI j) (hj : j < 12) (hb : b = nI w) (hw : w < 4) (hK : K = 1 + w) (v : Int32) : CT st (d + 1) yX5_layLot cX5_layLot 4 none [.ref m, .int a, .int b, .int v] (z, h) 0 0 (ZO (none) z m h fs (up2 ζ K j v)) := by
  refine CT.of (lv := [.ref m, .int a, .int b, .int v]) (by decide) (Nat.le_of_ble_eq_true rfl) rfl rfl ?_
  refine x_aload_n dX5_layLot_0 rfl ?_
  refine x_get dX5_layLot_1 fX5_7 H.ob rfl ?_
  subst ha hb hK
  refine x_bipush (v := 10) dX5_layLot_4 rfl ?_
  refine x_iconst (v := 4) dX5_layLot_6 rfl ?_
  refine x_iload_n dX5_layLot_7 rfl ?_
  refine x_imul dX5_layLot_8 ?_
  refine x_iadd dX5_layLot_9 ?_
  refine x_iload_n dX5_layLot_10 rfl ?_
  refine x_iadd dX5_layLot_11 ?_
  refine x_iload_n dX5_layLot_12 rfl ?_
  refine z_ast (1 + w) (j) dX5_layLot_13 H (zAt_lot hj hw) (ix_lot hj hw) (fun h1 hO1 hF1 => ?_)
  refine x_vret dX5_layLot_14 rfl rfl (Nat.le_refl _) ?_
  exact ZO.mkn rfl hO1 hF1

set_option maxRecDepth 100000 in
set_option maxHeartbeats 4000000 in
theorem t_claimOf {st : Nat → Nat} (d : Nat) {z : Nat} {h : Nat → Option va_E} {m : Nat} {fs : List Value} {ζ : Sg} (H : ZAt h m fs ζ) {j w : Nat} {a b : Int32} (K : Nat) (ha : a = nI j) (hj : j < 30) (hb : b = nI w) (hw : w < 7) (hK : K = 5 + w) : CT st (d + 1) yX5_claimOf cX5_claimOf 3 (some .int) [.ref m, .int a, .int b] (z, h) 0 0 (RO (some (.int (ζ K j))) (z, h)) := by
  refine CT.of (lv := [.ref m, .int a, .int b]) (by decide) (Nat.le_of_ble_eq_true rfl) rfl rfl ?_
  refine x_aload_n dX5_claimOf_0 rfl ?_
  refine x_get dX5_claimOf_1 fX5_7 H.ob rfl ?_
  subst ha hb hK
  refine x_bipush (v := 58) dX5_claimOf_4 rfl ?_
  refine x_bipush (v := 7) dX5_claimOf_6 rfl ?_
  refine x_iload_n dX5_claimOf_8 rfl ?_
  refine x_imul dX5_claimOf_9 ?_
  refine x_iadd dX5_claimOf_10 ?_
  refine x_iload_n dX5_claimOf_11 rfl ?_
  refine x_iadd dX5_claimOf_12 ?_
  refine z_ald (5 + w) (j) dX5_claimOf_13 H (zAt_cl hj hw) (ix_cl hj hw) ?_
  refine x_iret dX5_claimOf_14 (Or.inl rfl) rfl (Nat.le_refl _) ?_
  exact RO.mk rfl

set_option maxRecDepth 100000 in
set_option maxHeartbeats 4000000 in
theorem t_layClaim {st : Nat → Nat} (d : Nat) {z : Nat} {h : Nat → Option va_E} {m : Nat} {fs : List Value} {ζ : Sg} (H : ZAt h m fs ζ) {j w : Nat} {a b : Int32} (K : Nat) (ha : a = nI j) (hj : j < 30) (hb : b = nI w) (hw : w < 7) (hK : K = 5 + w) (v : Int32) : CT st (d + 1) yX5_layClaim cX5_layClaim 4 none [.ref m, .int a, .int b, .int v] (z, h) 0 0 (ZO (none) z m h fs (up2 ζ K j v)) := by
  refine CT.of (lv := [.ref m, .int a, .int b, .int v]) (by decide) (Nat.le_of_ble_eq_true rfl) rfl rfl ?_
  refine x_aload_n dX5_layClaim_0 rfl ?_
  refine x_get dX5_layClaim_1 fX5_7 H.ob rfl ?_
  subst ha hb hK
  refine x_bipush (v := 58) dX5_layClaim_4 rfl ?_
  refine x_bipush (v := 7) dX5_layClaim_6 rfl ?_
  refine x_iload_n dX5_layClaim_8 rfl ?_
  refine x_imul dX5_layClaim_9 ?_
  refine x_iadd dX5_layClaim_10 ?_
  refine x_iload_n dX5_layClaim_11 rfl ?_
  refine x_iadd dX5_layClaim_12 ?_
  refine x_iload_n dX5_layClaim_13 rfl ?_
  refine z_ast (5 + w) (j) dX5_layClaim_14 H (zAt_cl hj hw) (ix_cl hj hw) (fun h1 hO1 hF1 => ?_)
  refine x_vret dX5_layClaim_15 rfl rfl (Nat.le_refl _) ?_
  exact ZO.mkn rfl hO1 hF1

set_option maxRecDepth 100000 in
set_option maxHeartbeats 4000000 in
theorem t_misHeir {st : Nat → Nat} (d : Nat) {z : Nat} {h : Nat → Option va_E} (x : Int32) : CT st (d + 2) yX5_isHeir cX5_isHeir 1 (some .boolean) [.int x] (z, h) 0 0 (RO (some (.int (bI (sHeir x)))) (z, h)) := by
  refine CT.of (lv := [.int x]) (by decide) (Nat.le_of_ble_eq_true rfl) rfl rfl ?_
  refine x_iload_n dX5_isHeir_0 rfl ?_
  refine x_iconst (v := 0) dX5_isHeir_1 rfl ?_
  refine x_bipush (v := 15) dX5_isHeir_2 rfl ?_
  refine c_SR dX5_isHeir_4 kX5_in q732 q731 (t_in _ _ _ _) rfl rfl (Nat.le_of_ble_eq_true rfl) ⟨Nat.le_refl _, Nat.le_refl _⟩ ?_
  refine x_iret dX5_isHeir_7 (Or.inr ⟨rfl, by first | rfl | exact bI_z _⟩) rfl (Nat.le_refl _) ?_
  exact RO.mk (congrArg bI (mIn_16 x))

set_option maxRecDepth 100000 in
set_option maxHeartbeats 4000000 in
theorem t_misLot {st : Nat → Nat} (d : Nat) {z : Nat} {h : Nat → Option va_E} {m : Nat} {fs : List Value} {ζ : Sg} (H : ZAt h m fs ζ) (hL : LOk ζ) (x : Int32) : CT st (d + 2) yX5_isLot cX5_isLot 2 (some .boolean) [.ref m, .int x] (z, h) 0 0 (RO (some (.int (bI (sExists (ζ 13 0) x)))) (z, h)) := by
  refine CT.of (lv := [.ref m, .int x]) (by decide) (Nat.le_of_ble_eq_true rfl) rfl rfl ?_
  refine x_iload_n dX5_isLot_0 rfl ?_
  refine x_iconst (v := 0) dX5_isLot_1 rfl ?_
  refine x_aload_n dX5_isLot_2 rfl ?_
  refine x_get dX5_isLot_3 fX5_7 H.ob rfl ?_
  refine x_bipush (v := 7) dX5_isLot_6 rfl ?_
  refine z_ald (13) (0) dX5_isLot_8 H (show zAt 13 0 7 from ⟨by decide, rfl⟩) (show ¬ (7 : Int32) < 0 ∧ Int32.toNatClampNeg 7 = 7 by decide) ?_
  refine x_iconst (v := 1) dX5_isLot_9 rfl ?_
  refine x_isub dX5_isLot_10 ?_
  refine c_SR dX5_isLot_11 kX5_in q732 q731 (t_in _ _ _ _) rfl rfl (Nat.le_of_ble_eq_true rfl) ⟨Nat.le_refl _, Nat.le_refl _⟩ ?_
  refine x_iret dX5_isLot_14 (Or.inr ⟨rfl, by first | rfl | exact bI_z _⟩) rfl (Nat.le_refl _) ?_
  exact RO.mk (congrArg bI (mIn_n hL.1 (Nat.le_trans hL.2 (by decide))))

set_option maxRecDepth 100000 in
set_option maxHeartbeats 4000000 in
theorem t_misClaim {st : Nat → Nat} (d : Nat) {z : Nat} {h : Nat → Option va_E} {m : Nat} {fs : List Value} {ζ : Sg} (H : ZAt h m fs ζ) (hC : COk ζ) (x : Int32) : CT st (d + 2) yX5_isClaim cX5_isClaim 2 (some .boolean) [.ref m, .int x] (z, h) 0 0 (RO (some (.int (bI (sExists (ζ 13 1) x)))) (z, h)) := by
  refine CT.of (lv := [.ref m, .int x]) (by decide) (Nat.le_of_ble_eq_true rfl) rfl rfl ?_
  refine x_iload_n dX5_isClaim_0 rfl ?_
  refine x_iconst (v := 0) dX5_isClaim_1 rfl ?_
  refine x_aload_n dX5_isClaim_2 rfl ?_
  refine x_get dX5_isClaim_3 fX5_7 H.ob rfl ?_
  refine x_bipush (v := 8) dX5_isClaim_6 rfl ?_
  refine z_ald (13) (1) dX5_isClaim_8 H (show zAt 13 1 8 from ⟨by decide, rfl⟩) (show ¬ (8 : Int32) < 0 ∧ Int32.toNatClampNeg 8 = 8 by decide) ?_
  refine x_iconst (v := 1) dX5_isClaim_9 rfl ?_
  refine x_isub dX5_isClaim_10 ?_
  refine c_SR dX5_isClaim_11 kX5_in q732 q731 (t_in _ _ _ _) rfl rfl (Nat.le_of_ble_eq_true rfl) ⟨Nat.le_refl _, Nat.le_refl _⟩ ?_
  refine x_iret dX5_isClaim_14 (Or.inr ⟨rfl, by first | rfl | exact bI_z _⟩) rfl (Nat.le_refl _) ?_
  exact RO.mk (congrArg bI (mIn_n hC.1 hC.2))

set_option maxRecDepth 100000 in
set_option maxHeartbeats 4000000 in
theorem t_mstands {st : Nat → Nat} (d : Nat) {z : Nat} {h : Nat → Option va_E} {m : Nat} {fs : List Value} {ζ : Sg} (H : ZAt h m fs ζ) {j : Nat} (hj : j < 30) : CT st (d + 2) yX5_stands cX5_stands 2 (some .boolean) [.ref m, .int (nI j)] (z, h) 0 0 (RO (some (.int (bI (sStands ζ j)))) (z, h)) := by
  refine CT.of (lv := [.ref m, .int (nI j)]) (by decide) (Nat.le_of_ble_eq_true rfl) rfl rfl ?_
  refine x_aload_n dX5_stands_0 rfl ?_
  refine x_iload_n dX5_stands_1 rfl ?_
  refine x_iconst (v := 4) dX5_stands_2 rfl ?_
  refine c_VR dX5_stands_3 kX5_claimOf iX5_claimOf q811 (t_claimOf _ H (a := (nI j)) (j := j) (b := 4) (w := 4) (9) rfl (by omega) rfl (by decide) rfl) H.ob rfl rfl rfl (Nat.le_of_ble_eq_true rfl) ⟨Nat.le_refl _, Nat.le_refl _⟩ ?_
  refine x_if_eq (tgt := 19) dX5_stands_6 (by decide) (fun c6 => ?_) (fun c6 => ?_)
  · refine x_iconst (v := 1) dX5_stands_19 rfl ?_
    refine x_goto (tgt := 24) dX5_stands_20 (by decide) ?_
    refine x_iret dX5_stands_24 (Or.inr ⟨rfl, by first | rfl | exact bI_z _⟩) rfl (Nat.le_refl _) ?_
    exact RO.mk (by simp [bI, sStands, *])
  · refine x_aload_n dX5_stands_9 rfl ?_
    refine x_iload_n dX5_stands_10 rfl ?_
    refine x_iconst (v := 4) dX5_stands_11 rfl ?_
    refine c_VR dX5_stands_12 kX5_claimOf iX5_claimOf q811 (t_claimOf _ H (a := (nI j)) (j := j) (b := 4) (w := 4) (9) rfl (by omega) rfl (by decide) rfl) H.ob rfl rfl rfl (Nat.le_of_ble_eq_true rfl) ⟨Nat.le_refl _, Nat.le_refl _⟩ ?_
    refine x_iconst (v := 1) dX5_stands_15 rfl ?_
    refine x_icmp_ne (tgt := 23) dX5_stands_16 (by decide) (fun c16 => ?_) (fun c16 => ?_)
    · refine x_iconst (v := 0) dX5_stands_23 rfl ?_
      refine x_iret dX5_stands_24 (Or.inr ⟨rfl, by first | rfl | exact bI_z _⟩) rfl (Nat.le_refl _) ?_
      exact RO.mk (by simp [bI, sStands, *])
    · refine x_iconst (v := 1) dX5_stands_19 rfl ?_
      refine x_goto (tgt := 24) dX5_stands_20 (by decide) ?_
      refine x_iret dX5_stands_24 (Or.inr ⟨rfl, by first | rfl | exact bI_z _⟩) rfl (Nat.le_refl _) ?_
      exact RO.mk (by simp [bI, sStands, *])

set_option maxRecDepth 100000 in
set_option maxHeartbeats 4000000 in
theorem t_misEnded {st : Nat → Nat} (d : Nat) {z : Nat} {h : Nat → Option va_E} {m : Nat} {fs : List Value} {ζ : Sg} (H : ZAt h m fs ζ) {j : Nat} (hj : j < 12) : CT st (d + 2) yX5_isEnded cX5_isEnded 2 (some .boolean) [.ref m, .int (nI j)] (z, h) 0 0 (RO (some (.int (bI (sOver ζ j)))) (z, h)) := by
  refine CT.of (lv := [.ref m, .int (nI j)]) (by decide) (Nat.le_of_ble_eq_true rfl) rfl rfl ?_
  refine x_aload_n dX5_isEnded_0 rfl ?_
  refine x_iload_n dX5_isEnded_1 rfl ?_
  refine x_iconst (v := 1) dX5_isEnded_2 rfl ?_
  refine c_VR dX5_isEnded_3 kX5_lotOf iX5_lotOf q777 (t_lotOf _ H (a := (nI j)) (j := j) (b := 1) (w := 1) (2) rfl (by omega) rfl (by decide) rfl) H.ob rfl rfl rfl (Nat.le_of_ble_eq_true rfl) ⟨Nat.le_refl _, Nat.le_refl _⟩ ?_
  refine x_iconst (v := 2) dX5_isEnded_6 rfl ?_
  refine x_icmp_eq (tgt := 20) dX5_isEnded_7 (by decide) (fun c7 => ?_) (fun c7 => ?_)
  · refine x_iconst (v := 1) dX5_isEnded_20 rfl ?_
    refine x_goto (tgt := 25) dX5_isEnded_21 (by decide) ?_
    refine x_iret dX5_isEnded_25 (Or.inr ⟨rfl, by first | rfl | exact bI_z _⟩) rfl (Nat.le_refl _) ?_
    exact RO.mk (by simp [bI, sOver, *])
  · refine x_aload_n dX5_isEnded_10 rfl ?_
    refine x_iload_n dX5_isEnded_11 rfl ?_
    refine x_iconst (v := 1) dX5_isEnded_12 rfl ?_
    refine c_VR dX5_isEnded_13 kX5_lotOf iX5_lotOf q777 (t_lotOf _ H (a := (nI j)) (j := j) (b := 1) (w := 1) (2) rfl (by omega) rfl (by decide) rfl) H.ob rfl rfl rfl (Nat.le_of_ble_eq_true rfl) ⟨Nat.le_refl _, Nat.le_refl _⟩ ?_
    refine x_iconst (v := 4) dX5_isEnded_16 rfl ?_
    refine x_icmp_ne (tgt := 24) dX5_isEnded_17 (by decide) (fun c17 => ?_) (fun c17 => ?_)
    · refine x_iconst (v := 0) dX5_isEnded_24 rfl ?_
      refine x_iret dX5_isEnded_25 (Or.inr ⟨rfl, by first | rfl | exact bI_z _⟩) rfl (Nat.le_refl _) ?_
      exact RO.mk (by simp [bI, sOver, *])
    · refine x_iconst (v := 1) dX5_isEnded_20 rfl ?_
      refine x_goto (tgt := 25) dX5_isEnded_21 (by decide) ?_
      refine x_iret dX5_isEnded_25 (Or.inr ⟨rfl, by first | rfl | exact bI_z _⟩) rfl (Nat.le_refl _) ?_
      exact RO.mk (by simp [bI, sOver, *])

set_option maxRecDepth 100000 in
set_option maxHeartbeats 4000000 in
theorem L_claimsTo {st : Nat → Nat} (d : Nat) {z : Nat} {h : Nat → Option va_E} {m : Nat} {fs : List Value} {ζ : Sg} (H : ZAt h m fs ζ) (hC : COk ζ) (x w : Int32) : ∀ (k : Nat) (i : Nat) (r : Int32), i + k = nCl ζ → lp (bsf (fun c => decide (ζ 6 c = x) && decide (ζ 9 c = w))) i k r = bs (fun c => decide (ζ 6 c = x) && decide (ζ 9 c = w)) (nCl ζ) → Ev st (d + 3) yX5_claimsTo cX5_claimsTo 5 (some .int) (z, h) 0 0 (RO (some (.int (bs (fun c => decide (ζ 6 c = x) && decide (ζ 9 c = w)) (nCl ζ)))) (z, h)) 5 [.ref m, .int x, .int w, .int r, .int (nI i)] [] (z, h) 0 0 := by
  intro k
  induction k with
  | zero =>
    intro i r hik hR
    refine x_iload dX5_claimsTo_5 rfl ?_
    refine x_aload_n dX5_claimsTo_7 rfl ?_
    refine x_get dX5_claimsTo_8 fX5_7 H.ob rfl ?_
    refine x_bipush (v := 8) dX5_claimsTo_11 rfl ?_
    refine z_ald (13) (1) dX5_claimsTo_13 H (show zAt 13 1 8 from ⟨by decide, rfl⟩) (show ¬ (8 : Int32) < 0 ∧ Int32.toNatClampNeg 8 = 8 by decide) ?_
    rw [hC.1]
    have hC30 := hC.2
    refine x_icmp_ge (tgt := 56) dX5_claimsTo_14 (by decide) (fun c14 => ?_) (fun c14 => absurd (nI_le (a := nCl ζ) (b := i) (by omega) (by omega)) c14)
    refine x_iload_n dX5_claimsTo_56 rfl ?_
    refine x_iret dX5_claimsTo_57 (Or.inl rfl) rfl (Nat.le_refl _) ?_
    exact RO.mk hR
  | succ k ih =>
    intro i r hik hR
    refine x_iload dX5_claimsTo_5 rfl ?_
    refine x_aload_n dX5_claimsTo_7 rfl ?_
    refine x_get dX5_claimsTo_8 fX5_7 H.ob rfl ?_
    refine x_bipush (v := 8) dX5_claimsTo_11 rfl ?_
    refine z_ald (13) (1) dX5_claimsTo_13 H (show zAt 13 1 8 from ⟨by decide, rfl⟩) (show ¬ (8 : Int32) < 0 ∧ Int32.toNatClampNeg 8 = 8 by decide) ?_
    rw [hC.1]
    have hC30 := hC.2
    refine x_icmp_ge (tgt := 56) dX5_claimsTo_14 (by decide) (fun c14 => absurd c14 (nI_ge (a := i) (b := nCl ζ) (by omega) (by omega))) (fun c14 => ?_)
    refine x_iload_n dX5_claimsTo_17 rfl ?_
    refine x_aload_n dX5_claimsTo_18 rfl ?_
    refine x_iload dX5_claimsTo_19 rfl ?_
    refine x_iconst (v := 1) dX5_claimsTo_21 rfl ?_
    refine c_VR dX5_claimsTo_22 kX5_claimOf iX5_claimOf q811 (t_claimOf _ H (a := (nI i)) (j := i) (b := 1) (w := 1) (6) rfl (by omega) rfl (by decide) rfl) H.ob rfl rfl rfl (Nat.le_of_ble_eq_true rfl) ⟨Nat.le_refl _, Nat.le_refl _⟩ ?_
    refine x_iload_n dX5_claimsTo_25 rfl ?_
    refine x_icmp_ne (tgt := 47) dX5_claimsTo_26 (by decide) (fun c26 => ?_) (fun c26 => ?_)
    · refine x_iconst (v := 0) dX5_claimsTo_47 rfl ?_
      refine x_ior dX5_claimsTo_48 ?_
      refine e_ist_n (lv' := fun w9 => [.ref m, .int x, .int w, .int w9, .int (nI i)]) dX5_claimsTo_49 (Nat.le_of_ble_eq_true rfl) rfl (fun _ => rfl) (fun v1 ev1 => ?_)
      refine e_inc (lv' := fun w9 => [.ref m, .int x, .int w, .int v1, .int w9]) dX5_claimsTo_50 rfl rfl (fun _ => rfl) (fun v2 ev2 => ?_)
      refine x_goto (tgt := 5) dX5_claimsTo_53 (by decide) ?_
      obtain rfl := inc1 ev2
      exact ih (i + 1) v1 (by omega) (by rw [← hR, lp_s]; congr 1; all_goals (subst ev1; simp [bsf, bit, *]))
    · refine x_aload_n dX5_claimsTo_29 rfl ?_
      refine x_iload dX5_claimsTo_30 rfl ?_
      refine x_iconst (v := 4) dX5_claimsTo_32 rfl ?_
      refine c_VR dX5_claimsTo_33 kX5_claimOf iX5_claimOf q811 (t_claimOf _ H (a := (nI i)) (j := i) (b := 4) (w := 4) (9) rfl (by omega) rfl (by decide) rfl) H.ob rfl rfl rfl (Nat.le_of_ble_eq_true rfl) ⟨Nat.le_refl _, Nat.le_refl _⟩ ?_
      refine x_iload_n dX5_claimsTo_36 rfl ?_
      refine x_icmp_ne (tgt := 47) dX5_claimsTo_37 (by decide) (fun c37 => ?_) (fun c37 => ?_)
      · refine x_iconst (v := 0) dX5_claimsTo_47 rfl ?_
        refine x_ior dX5_claimsTo_48 ?_
        refine e_ist_n (lv' := fun w9 => [.ref m, .int x, .int w, .int w9, .int (nI i)]) dX5_claimsTo_49 (Nat.le_of_ble_eq_true rfl) rfl (fun _ => rfl) (fun v3 ev3 => ?_)
        refine e_inc (lv' := fun w9 => [.ref m, .int x, .int w, .int v3, .int w9]) dX5_claimsTo_50 rfl rfl (fun _ => rfl) (fun v4 ev4 => ?_)
        refine x_goto (tgt := 5) dX5_claimsTo_53 (by decide) ?_
        obtain rfl := inc1 ev4
        exact ih (i + 1) v3 (by omega) (by rw [← hR, lp_s]; congr 1; all_goals (subst ev3; simp [bsf, bit, *]))
      · refine x_iconst (v := 1) dX5_claimsTo_40 rfl ?_
        refine x_iload dX5_claimsTo_41 rfl ?_
        refine x_ishl dX5_claimsTo_43 ?_
        refine x_goto (tgt := 48) dX5_claimsTo_44 (by decide) ?_
        refine x_ior dX5_claimsTo_48 ?_
        refine e_ist_n (lv' := fun w9 => [.ref m, .int x, .int w, .int w9, .int (nI i)]) dX5_claimsTo_49 (Nat.le_of_ble_eq_true rfl) rfl (fun _ => rfl) (fun v5 ev5 => ?_)
        refine e_inc (lv' := fun w9 => [.ref m, .int x, .int w, .int v5, .int w9]) dX5_claimsTo_50 rfl rfl (fun _ => rfl) (fun v6 ev6 => ?_)
        refine x_goto (tgt := 5) dX5_claimsTo_53 (by decide) ?_
        obtain rfl := inc1 ev6
        exact ih (i + 1) v5 (by omega) (by rw [← hR, lp_s]; congr 1; all_goals (subst ev5; simp [bsf, bit, *]))

set_option maxRecDepth 100000 in
set_option maxHeartbeats 4000000 in
theorem t_claimsTo {st : Nat → Nat} (d : Nat) {z : Nat} {h : Nat → Option va_E} {m : Nat} {fs : List Value} {ζ : Sg} (H : ZAt h m fs ζ) (hC : COk ζ) (x w : Int32) : CT st (d + 3) yX5_claimsTo cX5_claimsTo 5 (some .int) [.ref m, .int x, .int w] (z, h) 0 0 (RO (some (.int (cToLot ζ x &&& cIn ζ w))) (z, h)) := by
  refine CT.of (lv := [.ref m, .int x, .int w, .null, .null]) (by decide) (Nat.le_of_ble_eq_true rfl) rfl rfl ?_
  refine x_iconst (v := 0) dX5_claimsTo_0 rfl ?_
  refine e_ist_n (lv' := fun w9 => [.ref m, .int x, .int w, .int w9, .null]) dX5_claimsTo_1 (Nat.le_of_ble_eq_true rfl) rfl (fun _ => rfl) (fun v1 ev1 => ?_)
  refine x_iconst (v := 0) dX5_claimsTo_2 rfl ?_
  refine e_ist (lv' := fun w9 => [.ref m, .int x, .int w, .int v1, .int w9]) dX5_claimsTo_3 (Nat.le_of_ble_eq_true rfl) rfl (fun _ => rfl) (fun v2 ev2 => ?_)
  subst ev1 ev2
  rw [show cToLot ζ x &&& cIn ζ w = _ from bs_and _ _ (by have := hC.2; omega)]
  exact L_claimsTo d H hC x w (nCl ζ) 0 0 (by omega) rfl

set_option maxRecDepth 100000 in
set_option maxHeartbeats 4000000 in
theorem t_mstanding {st : Nat → Nat} (d : Nat) {z : Nat} {h : Nat → Option va_E} {m : Nat} {fs : List Value} {ζ : Sg} (H : ZAt h m fs ζ) (hC : COk ζ) (x : Int32) : CT st (d + 4) yX5_standing cX5_standing 2 (some .int) [.ref m, .int x] (z, h) 0 0 (RO (some (.int (cStandTo ζ x))) (z, h)) := by
  refine CT.of (lv := [.ref m, .int x]) (by decide) (Nat.le_of_ble_eq_true rfl) rfl rfl ?_
  refine x_aload_n dX5_standing_0 rfl ?_
  refine x_iload_n dX5_standing_1 rfl ?_
  refine x_iconst (v := 0) dX5_standing_2 rfl ?_
  refine c_VR dX5_standing_3 kX5_claimsTo iX5_claimsTo q875 (t_claimsTo _ H hC _ _) H.ob rfl rfl rfl (Nat.le_of_ble_eq_true rfl) ⟨Nat.le_refl _, Nat.le_refl _⟩ ?_
  refine x_aload_n dX5_standing_6 rfl ?_
  refine x_iload_n dX5_standing_7 rfl ?_
  refine x_iconst (v := 1) dX5_standing_8 rfl ?_
  refine c_VR dX5_standing_9 kX5_claimsTo iX5_claimsTo q875 (t_claimsTo _ H hC _ _) H.ob rfl rfl rfl (Nat.le_of_ble_eq_true rfl) ⟨Nat.le_refl _, Nat.le_refl _⟩ ?_
  refine x_ior dX5_standing_12 ?_
  refine x_iret dX5_standing_13 (Or.inl rfl) rfl (Nat.le_refl _) ?_
  exact RO.mk (cStandTo_or hC x)

set_option maxRecDepth 100000 in
set_option maxHeartbeats 4000000 in
theorem L_size {st : Nat → Nat} (d : Nat) {z : Nat} {h : Nat → Option va_E} (x : Int32) : ∀ (k : Nat) (i : Nat) (r : Int32), i + k = 30 → lp (mSzf x) i k r = mSize x → Ev st (d + 1) yX5_size cX5_size 3 (some .int) (z, h) 0 0 (RO (some (.int (mSize x))) (z, h)) 4 [.int x, .int r, .int (nI i)] [] (z, h) 0 0 := by
  intro k
  induction k with
  | zero =>
    intro i r hik hR
    refine x_iload_n dX5_size_4 rfl ?_
    refine x_bipush (v := 30) dX5_size_5 rfl ?_
    refine x_icmp_ge (tgt := 24) dX5_size_7 (by decide) (fun c7 => ?_) (fun c7 => absurd (nI_le (a := 30) (b := i) (by omega) (by omega)) c7)
    refine x_iload_n dX5_size_24 rfl ?_
    refine x_iret dX5_size_25 (Or.inl rfl) rfl (Nat.le_refl _) ?_
    exact RO.mk hR
  | succ k ih =>
    intro i r hik hR
    refine x_iload_n dX5_size_4 rfl ?_
    refine x_bipush (v := 30) dX5_size_5 rfl ?_
    refine x_icmp_ge (tgt := 24) dX5_size_7 (by decide) (fun c7 => absurd c7 (nI_ge (a := i) (b := 30) (by omega) (by omega))) (fun c7 => ?_)
    refine x_iload_n dX5_size_10 rfl ?_
    refine x_iload_n dX5_size_11 rfl ?_
    refine x_iload_n dX5_size_12 rfl ?_
    refine x_ishr dX5_size_13 ?_
    refine x_iconst (v := 1) dX5_size_14 rfl ?_
    refine x_iand dX5_size_15 ?_
    refine x_iadd dX5_size_16 ?_
    refine e_ist_n (lv' := fun w9 => [.int x, .int w9, .int (nI i)]) dX5_size_17 (Nat.le_of_ble_eq_true rfl) rfl (fun _ => rfl) (fun v1 ev1 => ?_)
    refine e_inc (lv' := fun w9 => [.int x, .int v1, .int w9]) dX5_size_18 rfl rfl (fun _ => rfl) (fun v2 ev2 => ?_)
    refine x_goto (tgt := 4) dX5_size_21 (by decide) ?_
    obtain rfl := inc1 ev2
    exact ih (i + 1) v1 (by omega) (by rw [← hR, lp_s]; congr 1; all_goals (subst ev1; simp [mSzf, *]))

set_option maxRecDepth 100000 in
set_option maxHeartbeats 4000000 in
theorem t_size {st : Nat → Nat} (d : Nat) {z : Nat} {h : Nat → Option va_E} (x : Int32) : CT st (d + 1) yX5_size cX5_size 3 (some .int) [.int x] (z, h) 0 0 (RO (some (.int (mSize x))) (z, h)) := by
  refine CT.of (lv := [.int x, .null, .null]) (by decide) (Nat.le_of_ble_eq_true rfl) rfl rfl ?_
  refine x_iconst (v := 0) dX5_size_0 rfl ?_
  refine e_ist_n (lv' := fun w9 => [.int x, .int w9, .null]) dX5_size_1 (Nat.le_of_ble_eq_true rfl) rfl (fun _ => rfl) (fun v1 ev1 => ?_)
  refine x_iconst (v := 0) dX5_size_2 rfl ?_
  refine e_ist_n (lv' := fun w9 => [.int x, .int v1, .int w9]) dX5_size_3 (Nat.le_of_ble_eq_true rfl) rfl (fun _ => rfl) (fun v2 ev2 => ?_)
  subst ev1 ev2
  exact L_size d x 30 0 0 (by omega) rfl

set_option maxRecDepth 100000 in
set_option maxHeartbeats 4000000 in
theorem L_lotsThatAre {st : Nat → Nat} (d : Nat) {z : Nat} {h : Nat → Option va_E} {m : Nat} {fs : List Value} {ζ : Sg} (H : ZAt h m fs ζ) (hL : LOk ζ) (x : Int32) : ∀ (k : Nat) (i : Nat) (r : Int32), i + k = nLo ζ → lp (bsf (fun c => decide (ζ 2 c = x))) i k r = lIn ζ x → Ev st (d + 3) yX5_lotsThatAre cX5_lotsThatAre 4 (some .int) (z, h) 0 0 (RO (some (.int (lIn ζ x))) (z, h)) 4 [.ref m, .int x, .int r, .int (nI i)] [] (z, h) 0 0 := by
  intro k
  induction k with
  | zero =>
    intro i r hik hR
    refine x_iload_n dX5_lotsThatAre_4 rfl ?_
    refine x_aload_n dX5_lotsThatAre_5 rfl ?_
    refine x_get dX5_lotsThatAre_6 fX5_7 H.ob rfl ?_
    refine x_bipush (v := 7) dX5_lotsThatAre_9 rfl ?_
    refine z_ald (13) (0) dX5_lotsThatAre_11 H (show zAt 13 0 7 from ⟨by decide, rfl⟩) (show ¬ (7 : Int32) < 0 ∧ Int32.toNatClampNeg 7 = 7 by decide) ?_
    rw [hL.1]
    have hL12 := hL.2
    refine x_icmp_ge (tgt := 41) dX5_lotsThatAre_12 (by decide) (fun c12 => ?_) (fun c12 => absurd (nI_le (a := nLo ζ) (b := i) (by omega) (by omega)) c12)
    refine x_iload_n dX5_lotsThatAre_41 rfl ?_
    refine x_iret dX5_lotsThatAre_42 (Or.inl rfl) rfl (Nat.le_refl _) ?_
    exact RO.mk hR
  | succ k ih =>
    intro i r hik hR
    refine x_iload_n dX5_lotsThatAre_4 rfl ?_
    refine x_aload_n dX5_lotsThatAre_5 rfl ?_
    refine x_get dX5_lotsThatAre_6 fX5_7 H.ob rfl ?_
    refine x_bipush (v := 7) dX5_lotsThatAre_9 rfl ?_
    refine z_ald (13) (0) dX5_lotsThatAre_11 H (show zAt 13 0 7 from ⟨by decide, rfl⟩) (show ¬ (7 : Int32) < 0 ∧ Int32.toNatClampNeg 7 = 7 by decide) ?_
    rw [hL.1]
    have hL12 := hL.2
    refine x_icmp_ge (tgt := 41) dX5_lotsThatAre_12 (by decide) (fun c12 => absurd c12 (nI_ge (a := i) (b := nLo ζ) (by omega) (by omega))) (fun c12 => ?_)
    refine x_iload_n dX5_lotsThatAre_15 rfl ?_
    refine x_aload_n dX5_lotsThatAre_16 rfl ?_
    refine x_iload_n dX5_lotsThatAre_17 rfl ?_
    refine x_iconst (v := 1) dX5_lotsThatAre_18 rfl ?_
    refine c_VR dX5_lotsThatAre_19 kX5_lotOf iX5_lotOf q777 (t_lotOf _ H (a := (nI i)) (j := i) (b := 1) (w := 1) (2) rfl (by omega) rfl (by decide) rfl) H.ob rfl rfl rfl (Nat.le_of_ble_eq_true rfl) ⟨Nat.le_refl _, Nat.le_refl _⟩ ?_
    refine x_iload_n dX5_lotsThatAre_22 rfl ?_
    refine x_icmp_ne (tgt := 32) dX5_lotsThatAre_23 (by decide) (fun c23 => ?_) (fun c23 => ?_)
    · refine x_iconst (v := 0) dX5_lotsThatAre_32 rfl ?_
      refine x_ior dX5_lotsThatAre_33 ?_
      refine e_ist_n (lv' := fun w9 => [.ref m, .int x, .int w9, .int (nI i)]) dX5_lotsThatAre_34 (Nat.le_of_ble_eq_true rfl) rfl (fun _ => rfl) (fun v1 ev1 => ?_)
      refine e_inc (lv' := fun w9 => [.ref m, .int x, .int v1, .int w9]) dX5_lotsThatAre_35 rfl rfl (fun _ => rfl) (fun v2 ev2 => ?_)
      refine x_goto (tgt := 4) dX5_lotsThatAre_38 (by decide) ?_
      obtain rfl := inc1 ev2
      exact ih (i + 1) v1 (by omega) (by rw [← hR, lp_s]; congr 1; all_goals (subst ev1; simp [bsf, bit, *]))
    · refine x_iconst (v := 1) dX5_lotsThatAre_26 rfl ?_
      refine x_iload_n dX5_lotsThatAre_27 rfl ?_
      refine x_ishl dX5_lotsThatAre_28 ?_
      refine x_goto (tgt := 33) dX5_lotsThatAre_29 (by decide) ?_
      refine x_ior dX5_lotsThatAre_33 ?_
      refine e_ist_n (lv' := fun w9 => [.ref m, .int x, .int w9, .int (nI i)]) dX5_lotsThatAre_34 (Nat.le_of_ble_eq_true rfl) rfl (fun _ => rfl) (fun v3 ev3 => ?_)
      refine e_inc (lv' := fun w9 => [.ref m, .int x, .int v3, .int w9]) dX5_lotsThatAre_35 rfl rfl (fun _ => rfl) (fun v4 ev4 => ?_)
      refine x_goto (tgt := 4) dX5_lotsThatAre_38 (by decide) ?_
      obtain rfl := inc1 ev4
      exact ih (i + 1) v3 (by omega) (by rw [← hR, lp_s]; congr 1; all_goals (subst ev3; simp [bsf, bit, *]))

set_option maxRecDepth 100000 in
set_option maxHeartbeats 4000000 in
theorem t_lotsThatAre {st : Nat → Nat} (d : Nat) {z : Nat} {h : Nat → Option va_E} {m : Nat} {fs : List Value} {ζ : Sg} (H : ZAt h m fs ζ) (hL : LOk ζ) (x : Int32) : CT st (d + 3) yX5_lotsThatAre cX5_lotsThatAre 4 (some .int) [.ref m, .int x] (z, h) 0 0 (RO (some (.int (lIn ζ x))) (z, h)) := by
  refine CT.of (lv := [.ref m, .int x, .null, .null]) (by decide) (Nat.le_of_ble_eq_true rfl) rfl rfl ?_
  refine x_iconst (v := 0) dX5_lotsThatAre_0 rfl ?_
  refine e_ist_n (lv' := fun w9 => [.ref m, .int x, .int w9, .null]) dX5_lotsThatAre_1 (Nat.le_of_ble_eq_true rfl) rfl (fun _ => rfl) (fun v1 ev1 => ?_)
  refine x_iconst (v := 0) dX5_lotsThatAre_2 rfl ?_
  refine e_ist_n (lv' := fun w9 => [.ref m, .int x, .int v1, .int w9]) dX5_lotsThatAre_3 (Nat.le_of_ble_eq_true rfl) rfl (fun _ => rfl) (fun v2 ev2 => ?_)
  subst ev1 ev2
  exact L_lotsThatAre d H hL x (nLo ζ) 0 0 (by omega) rfl
