set_option maxRecDepth 100000 in
set_option maxHeartbeats 4000000 in
theorem t_holds {st : Nat → Nat} (d : Nat) {z : Nat} {h : Nat → Option va_E} (x m : Int32) : CT st (d + 1) yX4_holds cX4_holds 2 (some .boolean) [.int x, .int m] (z, h) 0 0 (RO (some (.int (bI (sHolds x m)))) (z, h)) := by
  refine CT.of (lv := [.int x, .int m]) (by decide) (Nat.le_of_ble_eq_true rfl) rfl rfl ?_
  refine x_iload_n dX4_holds_0 rfl ?_
  refine x_iload_n dX4_holds_1 rfl ?_
  refine x_ishr dX4_holds_2 ?_
  refine x_iconst (v := 1) dX4_holds_3 rfl ?_
  refine x_iand dX4_holds_4 ?_
  refine x_iconst (v := 1) dX4_holds_5 rfl ?_
  refine x_icmp_ne (tgt := 13) dX4_holds_6 (by decide) (fun c6 => ?_) (fun c6 => ?_)
  · refine x_iconst (v := 0) dX4_holds_13 rfl ?_
    refine x_iret dX4_holds_14 (Or.inr ⟨rfl, by first | rfl | exact bI_z _⟩) rfl (Nat.le_refl _) ?_
    exact RO.mk (by simp [bI, sHolds, c6])
  · refine x_iconst (v := 1) dX4_holds_9 rfl ?_
    refine x_goto (tgt := 14) dX4_holds_10 (by decide) ?_
    refine x_iret dX4_holds_14 (Or.inr ⟨rfl, by first | rfl | exact bI_z _⟩) rfl (Nat.le_refl _) ?_
    exact RO.mk (by simp [bI, sHolds, c6])

set_option maxRecDepth 100000 in
set_option maxHeartbeats 4000000 in
theorem t_firstOnes {st : Nat → Nat} (d : Nat) {z : Nat} {h : Nat → Option va_E} (n : Int32) : CT st (d + 1) yX4_firstOnes cX4_firstOnes 1 (some .int) [.int n] (z, h) 0 0 (RO (some (.int (((1 : Int32) <<< (n &&& 31)) - 1))) (z, h)) := by
  refine CT.of (lv := [.int n]) (by decide) (Nat.le_of_ble_eq_true rfl) rfl rfl ?_
  refine x_iconst (v := 1) dX4_firstOnes_0 rfl ?_
  refine x_iload_n dX4_firstOnes_1 rfl ?_
  refine x_ishl dX4_firstOnes_2 ?_
  refine x_iconst (v := 1) dX4_firstOnes_3 rfl ?_
  refine x_isub dX4_firstOnes_4 ?_
  refine x_iret dX4_firstOnes_5 (Or.inl rfl) rfl (Nat.le_refl _) ?_
  exact RO.mk rfl

set_option maxRecDepth 100000 in
set_option maxHeartbeats 4000000 in
theorem L_rowsWith {st : Nat → Nat} (d : Nat) {z : Nat} {h : Nat → Option va_E} {a len N : Nat} {g : Nat → Int32} (H : RwAt h 0 a len g) (hl : len < 2 ^ 31) (hN : N ≤ len) (w : Int32) : ∀ (k : Nat) (i : Nat) (r : Int32), i + k = N → lp (bsf (fun i => decide (g i = w))) i k r = bs (fun i => decide (g i = w)) N → Ev st (d + 1) yX4_rowsWith cX4_rowsWith 5 (some .int) (z, h) 0 0 (RO (some (.int (bs (fun i => decide (g i = w)) N))) (z, h)) 5 [.ref a, .int (nI N), .int w, .int r, .int (nI i)] [] (z, h) 0 0 := by
  intro k
  induction k with
  | zero =>
    intro i r hik hR
    refine x_iload dX4_rowsWith_5 rfl ?_
    refine x_iload_n dX4_rowsWith_7 rfl ?_
    refine x_icmp_ge (tgt := 39) dX4_rowsWith_8 (by decide) (fun c8 => ?_) (fun c8 => absurd (nI_le (a := N) (b := i) (by omega) (by omega)) c8)
    refine x_iload_n dX4_rowsWith_39 rfl ?_
    refine x_iret dX4_rowsWith_40 (Or.inl rfl) rfl (Nat.le_refl _) ?_
    exact RO.mk hR
  | succ k ih =>
    intro i r hik hR
    refine x_iload dX4_rowsWith_5 rfl ?_
    refine x_iload_n dX4_rowsWith_7 rfl ?_
    refine x_icmp_ge (tgt := 39) dX4_rowsWith_8 (by decide) (fun c8 => absurd c8 (nI_ge (a := i) (b := N) (by omega) (by omega))) (fun c8 => ?_)
    refine x_iload dX4_rowsWith_11 rfl ?_
    refine x_aload_n dX4_rowsWith_13 rfl ?_
    refine e_len dX4_rowsWith_14 H (Nat.le_of_ble_eq_true rfl) rfl ?_
    refine x_icmp_ge (tgt := 39) dX4_rowsWith_15 (by decide) (fun c15 => absurd c15 (nI_ge (a := i) (b := len) (by omega) (by omega))) (fun c15 => ?_)
    refine x_aload_n dX4_rowsWith_18 rfl ?_
    refine x_iload dX4_rowsWith_19 rfl ?_
    refine e_ald dX4_rowsWith_21 H (ax_ixN (j := i) (by omega) hl) ?_
    refine x_iload_n dX4_rowsWith_22 rfl ?_
    refine x_icmp_ne (tgt := 33) dX4_rowsWith_23 (by decide) (fun c23 => ?_) (fun c23 => ?_)
    · refine e_inc (lv' := fun w9 => [.ref a, .int (nI N), .int w, .int r, .int w9]) dX4_rowsWith_33 rfl rfl (fun _ => rfl) (fun v1 ev1 => ?_)
      refine x_goto (tgt := 5) dX4_rowsWith_36 (by decide) ?_
      obtain rfl := inc1 ev1
      exact ih (i + 1) _ (by omega) (by rw [← hR, lp_s, bsf_f _ (by simp [c23])])
    · refine x_iload_n dX4_rowsWith_26 rfl ?_
      refine x_iconst (v := 1) dX4_rowsWith_27 rfl ?_
      refine x_iload dX4_rowsWith_28 rfl ?_
      refine x_ishl dX4_rowsWith_30 ?_
      refine x_ior dX4_rowsWith_31 ?_
      refine e_ist_n (lv' := fun w9 => [.ref a, .int (nI N), .int w, .int w9, .int (nI i)]) dX4_rowsWith_32 (Nat.le_of_ble_eq_true rfl) rfl (fun _ => rfl) (fun v2 ev2 => ?_)
      refine e_inc (lv' := fun w9 => [.ref a, .int (nI N), .int w, .int v2, .int w9]) dX4_rowsWith_33 rfl rfl (fun _ => rfl) (fun v3 ev3 => ?_)
      refine x_goto (tgt := 5) dX4_rowsWith_36 (by decide) ?_
      obtain rfl := inc1 ev3
      exact ih (i + 1) _ (by omega) (by rw [← hR, lp_s, bsf_t _ (by simp [c23]), ev2]; rfl)

set_option maxRecDepth 100000 in
set_option maxHeartbeats 4000000 in
theorem t_rowsWith0 {st : Nat → Nat} (d : Nat) {z : Nat} {h : Nat → Option va_E} {a len N : Nat} {g : Nat → Int32} (H : RwAt h 0 a len g) (hl : len < 2 ^ 31) (hN : N ≤ len) (w : Int32) : CT st (d + 1) yX4_rowsWith cX4_rowsWith 5 (some .int) [.ref a, .int (nI N), .int w] (z, h) 0 0 (RO (some (.int (bs (fun i => decide (g i = w)) N))) (z, h)) := by
  refine CT.of (lv := [.ref a, .int (nI N), .int w, .null, .null]) (by decide) (Nat.le_of_ble_eq_true rfl) rfl rfl ?_
  refine x_iconst (v := 0) dX4_rowsWith_0 rfl ?_
  refine e_ist_n (lv' := fun w9 => [.ref a, .int (nI N), .int w, .int w9, .null]) dX4_rowsWith_1 (Nat.le_of_ble_eq_true rfl) rfl (fun _ => rfl) (fun v1 ev1 => ?_)
  refine x_iconst (v := 0) dX4_rowsWith_2 rfl ?_
  refine e_ist (lv' := fun w9 => [.ref a, .int (nI N), .int w, .int v1, .int w9]) dX4_rowsWith_3 (Nat.le_of_ble_eq_true rfl) rfl (fun _ => rfl) (fun v2 ev2 => ?_)
  subst ev1 ev2
  exact L_rowsWith d H hl hN w N 0 0 (by omega) rfl

set_option maxRecDepth 100000 in
set_option maxHeartbeats 4000000 in
theorem t_rowsWith {st : Nat → Nat} (d : Nat) {z : Nat} {h : Nat → Option va_E} {a len N : Nat} {g : Nat → Int32} {n : Int32} (hn : n = nI N) (H : RwAt h 0 a len g) (hl : len < 2 ^ 31) (hN : N ≤ len) (w : Int32) : CT st (d + 1) yX4_rowsWith cX4_rowsWith 5 (some .int) [.ref a, .int n, .int w] (z, h) 0 0 (RO (some (.int (bs (fun i => decide (g i = w)) N))) (z, h)) := by
  subst hn
  exact t_rowsWith0 d H hl hN w

set_option maxRecDepth 100000 in
set_option maxHeartbeats 4000000 in
theorem L_sum {st : Nat → Nat} (d : Nat) {z : Nat} {h : Nat → Option va_E} {a len : Nat} {g : Nat → Int32} (H : RwAt h 0 a len g) (hl : len < 2 ^ 31) (w : Int32) : ∀ (k : Nat) (i : Nat) (r : Int32), i + k = len → lp (sSumf g w) i k r = lp (sSumf g w) 0 len 0 → Ev st (d + 2) yX4_sum cX4_sum 4 (some .int) (z, h) 0 0 (RO (some (.int (lp (sSumf g w) 0 len 0))) (z, h)) 4 [.ref a, .int w, .int r, .int (nI i)] [] (z, h) 0 0 := by
  intro k
  induction k with
  | zero =>
    intro i r hik hR
    refine x_iload_n dX4_sum_4 rfl ?_
    refine x_aload_n dX4_sum_5 rfl ?_
    refine e_len dX4_sum_6 H (Nat.le_of_ble_eq_true rfl) rfl ?_
    refine x_icmp_ge (tgt := 30) dX4_sum_7 (by decide) (fun c7 => ?_) (fun c7 => absurd (nI_le (a := len) (b := i) (by omega) (by omega)) c7)
    refine x_iload_n dX4_sum_30 rfl ?_
    refine x_iret dX4_sum_31 (Or.inl rfl) rfl (Nat.le_refl _) ?_
    exact RO.mk hR
  | succ k ih =>
    intro i r hik hR
    refine x_iload_n dX4_sum_4 rfl ?_
    refine x_aload_n dX4_sum_5 rfl ?_
    refine e_len dX4_sum_6 H (Nat.le_of_ble_eq_true rfl) rfl ?_
    refine x_icmp_ge (tgt := 30) dX4_sum_7 (by decide) (fun c7 => absurd c7 (nI_ge (a := i) (b := len) (by omega) (by omega))) (fun c7 => ?_)
    refine x_iload_n dX4_sum_10 rfl ?_
    refine x_iload_n dX4_sum_11 rfl ?_
    refine c_SR dX4_sum_12 kX4_holds q227 q226 (t_holds _ _ _) rfl rfl (Nat.le_of_ble_eq_true rfl) ⟨Nat.le_refl _, Nat.le_refl _⟩ ?_
    refine x_if_eq (tgt := 24) dX4_sum_15 (by decide) (fun c15 => ?_) (fun c15 => ?_)
    · have c15 := bI_eq c15
      refine e_inc (lv' := fun w9 => [.ref a, .int w, .int r, .int w9]) dX4_sum_24 rfl rfl (fun _ => rfl) (fun v1 ev1 => ?_)
      refine x_goto (tgt := 4) dX4_sum_27 (by decide) ?_
      obtain rfl := inc1 ev1
      exact ih (i + 1) _ (by omega) (by rw [← hR, lp_s, show sSumf g w i r = r from if_neg (by rw [c15]; decide)])
    · have c15 := bI_ne c15
      refine x_iload_n dX4_sum_18 rfl ?_
      refine x_aload_n dX4_sum_19 rfl ?_
      refine x_iload_n dX4_sum_20 rfl ?_
      refine e_ald dX4_sum_21 H (ax_ixN (j := i) (by omega) hl) ?_
      refine x_iadd dX4_sum_22 ?_
      refine e_ist_n (lv' := fun w9 => [.ref a, .int w, .int w9, .int (nI i)]) dX4_sum_23 (Nat.le_of_ble_eq_true rfl) rfl (fun _ => rfl) (fun v2 ev2 => ?_)
      refine e_inc (lv' := fun w9 => [.ref a, .int w, .int v2, .int w9]) dX4_sum_24 rfl rfl (fun _ => rfl) (fun v3 ev3 => ?_)
      refine x_goto (tgt := 4) dX4_sum_27 (by decide) ?_
      obtain rfl := inc1 ev3
      exact ih (i + 1) _ (by omega) (by rw [← hR, lp_s, ev2, show sSumf g w i r = _ from if_pos c15])

set_option maxRecDepth 100000 in
set_option maxHeartbeats 4000000 in
theorem t_sum {st : Nat → Nat} (d : Nat) {z : Nat} {h : Nat → Option va_E} {a len : Nat} {g : Nat → Int32} (H : RwAt h 0 a len g) (hl : len < 2 ^ 31) (w : Int32) : CT st (d + 2) yX4_sum cX4_sum 4 (some .int) [.ref a, .int w] (z, h) 0 0 (RO (some (.int (lp (sSumf g w) 0 len 0))) (z, h)) := by
  refine CT.of (lv := [.ref a, .int w, .null, .null]) (by decide) (Nat.le_of_ble_eq_true rfl) rfl rfl ?_
  refine x_iconst (v := 0) dX4_sum_0 rfl ?_
  refine e_ist_n (lv' := fun w9 => [.ref a, .int w, .int w9, .null]) dX4_sum_1 (Nat.le_of_ble_eq_true rfl) rfl (fun _ => rfl) (fun v1 ev1 => ?_)
  refine x_iconst (v := 0) dX4_sum_2 rfl ?_
  refine e_ist_n (lv' := fun w9 => [.ref a, .int w, .int v1, .int w9]) dX4_sum_3 (Nat.le_of_ble_eq_true rfl) rfl (fun _ => rfl) (fun v2 ev2 => ?_)
  subst ev1 ev2
  exact L_sum d H hl w len 0 0 (by omega) rfl

set_option maxRecDepth 100000 in
set_option maxHeartbeats 4000000 in
theorem L_numbersIn {st : Nat → Nat} (d : Nat) {z : Nat} {h : Nat → Option va_E} {a len : Nat} {g : Nat → Int32} (H : RwAt h 0 a len g) (hl : len < 2 ^ 31) (w : Int32) : ∀ (k : Nat) (i : Nat) (r : Int32), i + k = len → lp (sNumf g w) i k r = lp (sNumf g w) 0 len 0 → Ev st (d + 2) yX4_numbersIn cX4_numbersIn 4 (some .int) (z, h) 0 0 (RO (some (.int (lp (sNumf g w) 0 len 0))) (z, h)) 4 [.ref a, .int w, .int r, .int (nI i)] [] (z, h) 0 0 := by
  intro k
  induction k with
  | zero =>
    intro i r hik hR
    refine x_iload_n dX4_numbersIn_4 rfl ?_
    refine x_aload_n dX4_numbersIn_5 rfl ?_
    refine e_len dX4_numbersIn_6 H (Nat.le_of_ble_eq_true rfl) rfl ?_
    refine x_icmp_ge (tgt := 32) dX4_numbersIn_7 (by decide) (fun c7 => ?_) (fun c7 => absurd (nI_le (a := len) (b := i) (by omega) (by omega)) c7)
    refine x_iload_n dX4_numbersIn_32 rfl ?_
    refine x_iret dX4_numbersIn_33 (Or.inl rfl) rfl (Nat.le_refl _) ?_
    exact RO.mk hR
  | succ k ih =>
    intro i r hik hR
    refine x_iload_n dX4_numbersIn_4 rfl ?_
    refine x_aload_n dX4_numbersIn_5 rfl ?_
    refine e_len dX4_numbersIn_6 H (Nat.le_of_ble_eq_true rfl) rfl ?_
    refine x_icmp_ge (tgt := 32) dX4_numbersIn_7 (by decide) (fun c7 => absurd c7 (nI_ge (a := i) (b := len) (by omega) (by omega))) (fun c7 => ?_)
    refine x_iload_n dX4_numbersIn_10 rfl ?_
    refine x_iload_n dX4_numbersIn_11 rfl ?_
    refine c_SR dX4_numbersIn_12 kX4_holds q227 q226 (t_holds _ _ _) rfl rfl (Nat.le_of_ble_eq_true rfl) ⟨Nat.le_refl _, Nat.le_refl _⟩ ?_
    refine x_if_eq (tgt := 26) dX4_numbersIn_15 (by decide) (fun c15 => ?_) (fun c15 => ?_)
    · have c15 := bI_eq c15
      refine e_inc (lv' := fun w9 => [.ref a, .int w, .int r, .int w9]) dX4_numbersIn_26 rfl rfl (fun _ => rfl) (fun v1 ev1 => ?_)
      refine x_goto (tgt := 4) dX4_numbersIn_29 (by decide) ?_
      obtain rfl := inc1 ev1
      exact ih (i + 1) _ (by omega) (by rw [← hR, lp_s, show sNumf g w i r = r from if_neg (by rw [c15]; decide)])
    · have c15 := bI_ne c15
      refine x_iload_n dX4_numbersIn_18 rfl ?_
      refine x_iconst (v := 1) dX4_numbersIn_19 rfl ?_
      refine x_aload_n dX4_numbersIn_20 rfl ?_
      refine x_iload_n dX4_numbersIn_21 rfl ?_
      refine e_ald dX4_numbersIn_22 H (ax_ixN (j := i) (by omega) hl) ?_
      refine x_ishl dX4_numbersIn_23 ?_
      refine x_ior dX4_numbersIn_24 ?_
      refine e_ist_n (lv' := fun w9 => [.ref a, .int w, .int w9, .int (nI i)]) dX4_numbersIn_25 (Nat.le_of_ble_eq_true rfl) rfl (fun _ => rfl) (fun v2 ev2 => ?_)
      refine e_inc (lv' := fun w9 => [.ref a, .int w, .int v2, .int w9]) dX4_numbersIn_26 rfl rfl (fun _ => rfl) (fun v3 ev3 => ?_)
      refine x_goto (tgt := 4) dX4_numbersIn_29 (by decide) ?_
      obtain rfl := inc1 ev3
      exact ih (i + 1) _ (by omega) (by rw [← hR, lp_s, ev2, show sNumf g w i r = _ from if_pos c15])

set_option maxRecDepth 100000 in
set_option maxHeartbeats 4000000 in
theorem t_numbersIn {st : Nat → Nat} (d : Nat) {z : Nat} {h : Nat → Option va_E} {a len : Nat} {g : Nat → Int32} (H : RwAt h 0 a len g) (hl : len < 2 ^ 31) (w : Int32) : CT st (d + 2) yX4_numbersIn cX4_numbersIn 4 (some .int) [.ref a, .int w] (z, h) 0 0 (RO (some (.int (lp (sNumf g w) 0 len 0))) (z, h)) := by
  refine CT.of (lv := [.ref a, .int w, .null, .null]) (by decide) (Nat.le_of_ble_eq_true rfl) rfl rfl ?_
  refine x_iconst (v := 0) dX4_numbersIn_0 rfl ?_
  refine e_ist_n (lv' := fun w9 => [.ref a, .int w, .int w9, .null]) dX4_numbersIn_1 (Nat.le_of_ble_eq_true rfl) rfl (fun _ => rfl) (fun v1 ev1 => ?_)
  refine x_iconst (v := 0) dX4_numbersIn_2 rfl ?_
  refine e_ist_n (lv' := fun w9 => [.ref a, .int w, .int v1, .int w9]) dX4_numbersIn_3 (Nat.le_of_ble_eq_true rfl) rfl (fun _ => rfl) (fun v2 ev2 => ?_)
  subst ev1 ev2
  exact L_numbersIn d H hl w len 0 0 (by omega) rfl
