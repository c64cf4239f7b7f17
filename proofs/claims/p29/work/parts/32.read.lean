theorem t_rowsWith2 : True := trivial
set_option maxRecDepth 100000 in
set_option maxHeartbeats 4000000 in
theorem t_bitCount {st : Nat → Nat} (d : Nat) {z : Nat} {h : Nat → Option va_E} (x : Int32) : CT st (d + 1) yJ6_bitCount_0f7a4 cJ6_bitCount_0f7a4 1 (some .int) [.int x] (z, h) 0 0 (RO (some (.int (sBit x))) (z, h)) := by
  refine CT.of (lv := [.int x]) (by decide) (Nat.le_of_ble_eq_true rfl) rfl rfl ?_
  refine x_iload_n dJ6_bitCount_0f7a4_0 rfl ?_
  refine x_iload_n dJ6_bitCount_0f7a4_1 rfl ?_
  refine x_iconst (v := 1) dJ6_bitCount_0f7a4_2 rfl ?_
  refine x_iushr dJ6_bitCount_0f7a4_3 rfl ?_
  refine x_ldcw dJ6_bitCount_0f7a4_4 q249 ?_
  refine x_iand dJ6_bitCount_0f7a4_7 ?_
  refine x_isub dJ6_bitCount_0f7a4_8 ?_
  refine e_ist_n (lv' := fun w9 => [.int w9]) dJ6_bitCount_0f7a4_9 (Nat.le_of_ble_eq_true rfl) rfl (fun _ => rfl) (fun v1 ev1 => ?_)
  refine x_iload_n dJ6_bitCount_0f7a4_10 rfl ?_
  refine x_ldcw dJ6_bitCount_0f7a4_11 q250 ?_
  refine x_iand dJ6_bitCount_0f7a4_14 ?_
  refine x_iload_n dJ6_bitCount_0f7a4_15 rfl ?_
  refine x_iconst (v := 2) dJ6_bitCount_0f7a4_16 rfl ?_
  refine x_iushr dJ6_bitCount_0f7a4_17 rfl ?_
  refine x_ldcw dJ6_bitCount_0f7a4_18 q250 ?_
  refine x_iand dJ6_bitCount_0f7a4_21 ?_
  refine x_iadd dJ6_bitCount_0f7a4_22 ?_
  refine e_ist_n (lv' := fun w9 => [.int w9]) dJ6_bitCount_0f7a4_23 (Nat.le_of_ble_eq_true rfl) rfl (fun _ => rfl) (fun v2 ev2 => ?_)
  refine x_iload_n dJ6_bitCount_0f7a4_24 rfl ?_
  refine x_iload_n dJ6_bitCount_0f7a4_25 rfl ?_
  refine x_iconst (v := 4) dJ6_bitCount_0f7a4_26 rfl ?_
  refine x_iushr dJ6_bitCount_0f7a4_27 rfl ?_
  refine x_iadd dJ6_bitCount_0f7a4_28 ?_
  refine x_ldcw dJ6_bitCount_0f7a4_29 q251 ?_
  refine x_iand dJ6_bitCount_0f7a4_32 ?_
  refine e_ist_n (lv' := fun w9 => [.int w9]) dJ6_bitCount_0f7a4_33 (Nat.le_of_ble_eq_true rfl) rfl (fun _ => rfl) (fun v3 ev3 => ?_)
  refine x_iload_n dJ6_bitCount_0f7a4_34 rfl ?_
  refine x_iload_n dJ6_bitCount_0f7a4_35 rfl ?_
  refine x_bipush (v := 8) dJ6_bitCount_0f7a4_36 rfl ?_
  refine x_iushr dJ6_bitCount_0f7a4_38 rfl ?_
  refine x_iadd dJ6_bitCount_0f7a4_39 ?_
  refine e_ist_n (lv' := fun w9 => [.int w9]) dJ6_bitCount_0f7a4_40 (Nat.le_of_ble_eq_true rfl) rfl (fun _ => rfl) (fun v4 ev4 => ?_)
  refine x_iload_n dJ6_bitCount_0f7a4_41 rfl ?_
  refine x_iload_n dJ6_bitCount_0f7a4_42 rfl ?_
  refine x_bipush (v := 16) dJ6_bitCount_0f7a4_43 rfl ?_
  refine x_iushr dJ6_bitCount_0f7a4_45 rfl ?_
  refine x_iadd dJ6_bitCount_0f7a4_46 ?_
  refine e_ist_n (lv' := fun w9 => [.int w9]) dJ6_bitCount_0f7a4_47 (Nat.le_of_ble_eq_true rfl) rfl (fun _ => rfl) (fun v5 ev5 => ?_)
  refine x_iload_n dJ6_bitCount_0f7a4_48 rfl ?_
  refine x_bipush (v := 63) dJ6_bitCount_0f7a4_49 rfl ?_
  refine x_iand dJ6_bitCount_0f7a4_51 ?_
  refine x_iret dJ6_bitCount_0f7a4_52 (Or.inl rfl) rfl (Nat.le_refl _) ?_
  exact RO.mk (by subst_vars; rfl)

set_option maxRecDepth 100000 in
set_option maxHeartbeats 4000000 in
theorem t_Cexists {st : Nat → Nat} (d : Nat) {z : Nat} {h : Nat → Option va_E} {a : Nat} {σ : Sg} (H : ClaimsAt h a σ) (x : Int32) : CT st (d + 1) yX0_exists cX0_exists 2 (some .boolean) [.ref a, .int x] (z, h) 0 0 (RO (some (.int (bI (sExists (σ 13 1) x)))) (z, h)) := by
  refine CT.of (lv := [.ref a, .int x]) (by decide) (Nat.le_of_ble_eq_true rfl) rfl rfl ?_
  refine x_iload_n dX0_exists_0 rfl ?_
  refine x_if_lt (tgt := 16) dX0_exists_1 (by decide) (fun c1 => ?_) (fun c1 => ?_)
  · refine x_iconst (v := 0) dX0_exists_16 rfl ?_
    refine x_iret dX0_exists_17 (Or.inr ⟨rfl, by first | rfl | exact bI_z _⟩) rfl (Nat.le_refl _) ?_
    exact RO.mk (by simp [bI, sExists, *])
  · refine x_iload_n dX0_exists_4 rfl ?_
    refine x_aload_n dX0_exists_5 rfl ?_
    refine x_get dX0_exists_6 fX0_9 H.ob rfl ?_
    refine x_icmp_ge (tgt := 16) dX0_exists_9 (by decide) (fun c9 => ?_) (fun c9 => ?_)
    · refine x_iconst (v := 0) dX0_exists_16 rfl ?_
      refine x_iret dX0_exists_17 (Or.inr ⟨rfl, by first | rfl | exact bI_z _⟩) rfl (Nat.le_refl _) ?_
      exact RO.mk (by simp [bI, sExists, *])
    · refine x_iconst (v := 1) dX0_exists_12 rfl ?_
      refine x_goto (tgt := 17) dX0_exists_13 (by decide) ?_
      refine x_iret dX0_exists_17 (Or.inr ⟨rfl, by first | rfl | exact bI_z _⟩) rfl (Nat.le_refl _) ?_
      exact RO.mk (by simp [bI, sExists, *])

set_option maxRecDepth 100000 in
set_option maxHeartbeats 4000000 in
theorem t_Lexists {st : Nat → Nat} (d : Nat) {z : Nat} {h : Nat → Option va_E} {a : Nat} {σ : Sg} (H : LotsAt h a σ) (x : Int32) : CT st (d + 1) yX1_exists cX1_exists 2 (some .boolean) [.ref a, .int x] (z, h) 0 0 (RO (some (.int (bI (sExists (σ 13 0) x)))) (z, h)) := by
  refine CT.of (lv := [.ref a, .int x]) (by decide) (Nat.le_of_ble_eq_true rfl) rfl rfl ?_
  refine x_iload_n dX1_exists_0 rfl ?_
  refine x_if_lt (tgt := 16) dX1_exists_1 (by decide) (fun c1 => ?_) (fun c1 => ?_)
  · refine x_iconst (v := 0) dX1_exists_16 rfl ?_
    refine x_iret dX1_exists_17 (Or.inr ⟨rfl, by first | rfl | exact bI_z _⟩) rfl (Nat.le_refl _) ?_
    exact RO.mk (by simp [bI, sExists, *])
  · refine x_iload_n dX1_exists_4 rfl ?_
    refine x_aload_n dX1_exists_5 rfl ?_
    refine x_get dX1_exists_6 fX1_9 H.ob rfl ?_
    refine x_icmp_ge (tgt := 16) dX1_exists_9 (by decide) (fun c9 => ?_) (fun c9 => ?_)
    · refine x_iconst (v := 0) dX1_exists_16 rfl ?_
      refine x_iret dX1_exists_17 (Or.inr ⟨rfl, by first | rfl | exact bI_z _⟩) rfl (Nat.le_refl _) ?_
      exact RO.mk (by simp [bI, sExists, *])
    · refine x_iconst (v := 1) dX1_exists_12 rfl ?_
      refine x_goto (tgt := 17) dX1_exists_13 (by decide) ?_
      refine x_iret dX1_exists_17 (Or.inr ⟨rfl, by first | rfl | exact bI_z _⟩) rfl (Nat.le_refl _) ?_
      exact RO.mk (by simp [bI, sExists, *])

set_option maxRecDepth 100000 in
set_option maxHeartbeats 4000000 in
theorem t_isOpen {st : Nat → Nat} (d : Nat) {z : Nat} {h : Nat → Option va_E} {a j : Nat} {σ : Sg} (H : ClaimsAt h a σ) (hj : j < 30) : CT st (d + 1) yX0_isOpen cX0_isOpen 2 (some .boolean) [.ref a, .int (nI j)] (z, h) 0 0 (RO (some (.int (bI (sOpen σ j)))) (z, h)) := by
  refine CT.of (lv := [.ref a, .int (nI j)]) (by decide) (Nat.le_of_ble_eq_true rfl) rfl rfl ?_
  refine x_aload_n dX0_isOpen_0 rfl ?_
  refine x_get dX0_isOpen_1 fX0_28 H.ob rfl ?_
  refine x_iload_n dX0_isOpen_4 rfl ?_
  refine e_ald dX0_isOpen_5 H.r9 (ax_ixN (j := j) (by omega) (Nat.le_of_ble_eq_true rfl)) ?_
  refine x_if_ne (tgt := 13) dX0_isOpen_6 (by decide) (fun c6 => ?_) (fun c6 => ?_)
  · refine x_iconst (v := 0) dX0_isOpen_13 rfl ?_
    refine x_iret dX0_isOpen_14 (Or.inr ⟨rfl, by first | rfl | exact bI_z _⟩) rfl (Nat.le_refl _) ?_
    exact RO.mk (by simp [bI, sOpen, *])
  · refine x_iconst (v := 1) dX0_isOpen_9 rfl ?_
    refine x_goto (tgt := 14) dX0_isOpen_10 (by decide) ?_
    refine x_iret dX0_isOpen_14 (Or.inr ⟨rfl, by first | rfl | exact bI_z _⟩) rfl (Nat.le_refl _) ?_
    exact RO.mk (by simp [bI, sOpen, *])

set_option maxRecDepth 100000 in
set_option maxHeartbeats 4000000 in
theorem t_stands {st : Nat → Nat} (d : Nat) {z : Nat} {h : Nat → Option va_E} {a j : Nat} {σ : Sg} (H : ClaimsAt h a σ) (hj : j < 30) : CT st (d + 1) yX0_stands cX0_stands 2 (some .boolean) [.ref a, .int (nI j)] (z, h) 0 0 (RO (some (.int (bI (sStands σ j)))) (z, h)) := by
  refine CT.of (lv := [.ref a, .int (nI j)]) (by decide) (Nat.le_of_ble_eq_true rfl) rfl rfl ?_
  refine x_aload_n dX0_stands_0 rfl ?_
  refine x_get dX0_stands_1 fX0_28 H.ob rfl ?_
  refine x_iload_n dX0_stands_4 rfl ?_
  refine e_ald dX0_stands_5 H.r9 (ax_ixN (j := j) (by omega) (Nat.le_of_ble_eq_true rfl)) ?_
  refine x_if_eq (tgt := 19) dX0_stands_6 (by decide) (fun c6 => ?_) (fun c6 => ?_)
  · refine x_iconst (v := 1) dX0_stands_19 rfl ?_
    refine x_goto (tgt := 24) dX0_stands_20 (by decide) ?_
    refine x_iret dX0_stands_24 (Or.inr ⟨rfl, by first | rfl | exact bI_z _⟩) rfl (Nat.le_refl _) ?_
    exact RO.mk (by simp [bI, sStands, *])
  · refine x_aload_n dX0_stands_9 rfl ?_
    refine x_get dX0_stands_10 fX0_28 H.ob rfl ?_
    refine x_iload_n dX0_stands_13 rfl ?_
    refine e_ald dX0_stands_14 H.r9 (ax_ixN (j := j) (by omega) (Nat.le_of_ble_eq_true rfl)) ?_
    refine x_iconst (v := 1) dX0_stands_15 rfl ?_
    refine x_icmp_ne (tgt := 23) dX0_stands_16 (by decide) (fun c16 => ?_) (fun c16 => ?_)
    · refine x_iconst (v := 0) dX0_stands_23 rfl ?_
      refine x_iret dX0_stands_24 (Or.inr ⟨rfl, by first | rfl | exact bI_z _⟩) rfl (Nat.le_refl _) ?_
      exact RO.mk (by simp [bI, sStands, *])
    · refine x_iconst (v := 1) dX0_stands_19 rfl ?_
      refine x_goto (tgt := 24) dX0_stands_20 (by decide) ?_
      refine x_iret dX0_stands_24 (Or.inr ⟨rfl, by first | rfl | exact bI_z _⟩) rfl (Nat.le_refl _) ?_
      exact RO.mk (by simp [bI, sStands, *])

set_option maxRecDepth 100000 in
set_option maxHeartbeats 4000000 in
theorem t_isOver {st : Nat → Nat} (d : Nat) {z : Nat} {h : Nat → Option va_E} {a j : Nat} {σ : Sg} (H : LotsAt h a σ) (hj : j < 12) : CT st (d + 1) yX1_isOver cX1_isOver 2 (some .boolean) [.ref a, .int (nI j)] (z, h) 0 0 (RO (some (.int (bI (sOver σ j)))) (z, h)) := by
  refine CT.of (lv := [.ref a, .int (nI j)]) (by decide) (Nat.le_of_ble_eq_true rfl) rfl rfl ?_
  refine x_aload_n dX1_isOver_0 rfl ?_
  refine x_get dX1_isOver_1 fX1_19 H.ob rfl ?_
  refine x_iload_n dX1_isOver_4 rfl ?_
  refine e_ald dX1_isOver_5 H.r2 (ax_ixN (j := j) (by omega) (Nat.le_of_ble_eq_true rfl)) ?_
  refine x_iconst (v := 2) dX1_isOver_6 rfl ?_
  refine x_icmp_eq (tgt := 20) dX1_isOver_7 (by decide) (fun c7 => ?_) (fun c7 => ?_)
  · refine x_iconst (v := 1) dX1_isOver_20 rfl ?_
    refine x_goto (tgt := 25) dX1_isOver_21 (by decide) ?_
    refine x_iret dX1_isOver_25 (Or.inr ⟨rfl, by first | rfl | exact bI_z _⟩) rfl (Nat.le_refl _) ?_
    exact RO.mk (by simp [bI, sOver, *])
  · refine x_aload_n dX1_isOver_10 rfl ?_
    refine x_get dX1_isOver_11 fX1_19 H.ob rfl ?_
    refine x_iload_n dX1_isOver_14 rfl ?_
    refine e_ald dX1_isOver_15 H.r2 (ax_ixN (j := j) (by omega) (Nat.le_of_ble_eq_true rfl)) ?_
    refine x_iconst (v := 4) dX1_isOver_16 rfl ?_
    refine x_icmp_ne (tgt := 24) dX1_isOver_17 (by decide) (fun c17 => ?_) (fun c17 => ?_)
    · refine x_iconst (v := 0) dX1_isOver_24 rfl ?_
      refine x_iret dX1_isOver_25 (Or.inr ⟨rfl, by first | rfl | exact bI_z _⟩) rfl (Nat.le_refl _) ?_
      exact RO.mk (by simp [bI, sOver, *])
    · refine x_iconst (v := 1) dX1_isOver_20 rfl ?_
      refine x_goto (tgt := 25) dX1_isOver_21 (by decide) ?_
      refine x_iret dX1_isOver_25 (Or.inr ⟨rfl, by first | rfl | exact bI_z _⟩) rfl (Nat.le_refl _) ?_
      exact RO.mk (by simp [bI, sOver, *])

set_option maxRecDepth 100000 in
set_option maxHeartbeats 4000000 in
theorem t_Call {st : Nat → Nat} (d : Nat) {z : Nat} {h : Nat → Option va_E} {a : Nat} {σ : Sg} (H : ClaimsAt h a σ) : CT st (d + 2) yX0_all cX0_all 1 (some .int) [.ref a] (z, h) 0 0 (RO (some (.int (cAll σ))) (z, h)) := by
  refine CT.of (lv := [.ref a]) (by decide) (Nat.le_of_ble_eq_true rfl) rfl rfl ?_
  refine x_aload_n dX0_all_0 rfl ?_
  refine x_get dX0_all_1 fX0_9 H.ob rfl ?_
  refine c_NR dX0_all_4 kX4_firstOnes q221 q233 (t_firstOnes _ _) rfl rfl (Nat.le_of_ble_eq_true rfl) ⟨Nat.le_refl _, Nat.le_refl _⟩ ?_
  refine x_iret dX0_all_7 (Or.inl rfl) rfl (Nat.le_refl _) ?_
  exact RO.mk rfl

set_option maxRecDepth 100000 in
set_option maxHeartbeats 4000000 in
theorem t_Lall {st : Nat → Nat} (d : Nat) {z : Nat} {h : Nat → Option va_E} {a : Nat} {σ : Sg} (H : LotsAt h a σ) : CT st (d + 2) yX1_all cX1_all 1 (some .int) [.ref a] (z, h) 0 0 (RO (some (.int (lAll σ))) (z, h)) := by
  refine CT.of (lv := [.ref a]) (by decide) (Nat.le_of_ble_eq_true rfl) rfl rfl ?_
  refine x_aload_n dX1_all_0 rfl ?_
  refine x_get dX1_all_1 fX1_9 H.ob rfl ?_
  refine c_NR dX1_all_4 kX4_firstOnes q221 q220 (t_firstOnes _ _) rfl rfl (Nat.le_of_ble_eq_true rfl) ⟨Nat.le_refl _, Nat.le_refl _⟩ ?_
  refine x_iret dX1_all_7 (Or.inl rfl) rfl (Nat.le_refl _) ?_
  exact RO.mk rfl

set_option maxRecDepth 100000 in
set_option maxHeartbeats 4000000 in
theorem t_CinState {st : Nat → Nat} (d : Nat) {z : Nat} {h : Nat → Option va_E} {a : Nat} {σ : Sg} (H : ClaimsAt h a σ) (hC : COk σ) (w : Int32) : CT st (d + 2) yX0_inState cX0_inState 2 (some .int) [.ref a, .int w] (z, h) 0 0 (RO (some (.int (cIn σ w))) (z, h)) := by
  refine CT.of (lv := [.ref a, .int w]) (by decide) (Nat.le_of_ble_eq_true rfl) rfl rfl ?_
  refine x_aload_n dX0_inState_0 rfl ?_
  refine x_get dX0_inState_1 fX0_28 H.ob rfl ?_
  refine x_aload_n dX0_inState_4 rfl ?_
  refine x_get dX0_inState_5 fX0_9 H.ob rfl ?_
  refine x_iload_n dX0_inState_8 rfl ?_
  refine c_NR dX0_inState_9 kX4_rowsWith q214 q242 (t_rowsWith _ (hn := hC.1) H.r9 (Nat.le_of_ble_eq_true rfl) hC.2 _) rfl rfl (Nat.le_of_ble_eq_true rfl) ⟨Nat.le_refl _, Nat.le_refl _⟩ ?_
  refine x_iret dX0_inState_12 (Or.inl rfl) rfl (Nat.le_refl _) ?_
  exact RO.mk rfl

set_option maxRecDepth 100000 in
set_option maxHeartbeats 4000000 in
theorem t_LinState {st : Nat → Nat} (d : Nat) {z : Nat} {h : Nat → Option va_E} {a : Nat} {σ : Sg} (H : LotsAt h a σ) (hL : LOk σ) (w : Int32) : CT st (d + 2) yX1_inState cX1_inState 2 (some .int) [.ref a, .int w] (z, h) 0 0 (RO (some (.int (lIn σ w))) (z, h)) := by
  refine CT.of (lv := [.ref a, .int w]) (by decide) (Nat.le_of_ble_eq_true rfl) rfl rfl ?_
  refine x_aload_n dX1_inState_0 rfl ?_
  refine x_get dX1_inState_1 fX1_19 H.ob rfl ?_
  refine x_aload_n dX1_inState_4 rfl ?_
  refine x_get dX1_inState_5 fX1_9 H.ob rfl ?_
  refine x_iload_n dX1_inState_8 rfl ?_
  refine c_NR dX1_inState_9 kX4_rowsWith q214 q213 (t_rowsWith _ (hn := hL.1) H.r2 (Nat.le_of_ble_eq_true rfl) hL.2 _) rfl rfl (Nat.le_of_ble_eq_true rfl) ⟨Nat.le_refl _, Nat.le_refl _⟩ ?_
  refine x_iret dX1_inState_12 (Or.inl rfl) rfl (Nat.le_refl _) ?_
  exact RO.mk rfl

set_option maxRecDepth 100000 in
set_option maxHeartbeats 4000000 in
theorem t_standing {st : Nat → Nat} (d : Nat) {z : Nat} {h : Nat → Option va_E} {a : Nat} {σ : Sg} (H : ClaimsAt h a σ) (hC : COk σ)  : CT st (d + 3) yX0_standing cX0_standing 1 (some .int) [.ref a] (z, h) 0 0 (RO (some (.int (cStanding σ))) (z, h)) := by
  refine CT.of (lv := [.ref a]) (by decide) (Nat.le_of_ble_eq_true rfl) rfl rfl ?_
  refine x_aload_n dX0_standing_0 rfl ?_
  refine x_iconst (v := 0) dX0_standing_1 rfl ?_
  refine c_VR dX0_standing_2 kX0_inState iX0_inState q238 (t_CinState _ H hC _) H.ob rfl rfl rfl (Nat.le_of_ble_eq_true rfl) ⟨Nat.le_refl _, Nat.le_refl _⟩ ?_
  refine x_aload_n dX0_standing_5 rfl ?_
  refine x_iconst (v := 1) dX0_standing_6 rfl ?_
  refine c_VR dX0_standing_7 kX0_inState iX0_inState q238 (t_CinState _ H hC _) H.ob rfl rfl rfl (Nat.le_of_ble_eq_true rfl) ⟨Nat.le_refl _, Nat.le_refl _⟩ ?_
  refine x_ior dX0_standing_10 ?_
  refine x_iret dX0_standing_11 (Or.inl rfl) rfl (Nat.le_refl _) ?_
  exact RO.mk rfl

set_option maxRecDepth 100000 in
set_option maxHeartbeats 4000000 in
theorem t_ofHeir {st : Nat → Nat} (d : Nat) {z : Nat} {h : Nat → Option va_E} {a : Nat} {σ : Sg} (H : ClaimsAt h a σ) (hC : COk σ) (w : Int32) : CT st (d + 2) yX0_ofHeir cX0_ofHeir 2 (some .int) [.ref a, .int w] (z, h) 0 0 (RO (some (.int (cOfHeir σ w))) (z, h)) := by
  refine CT.of (lv := [.ref a, .int w]) (by decide) (Nat.le_of_ble_eq_true rfl) rfl rfl ?_
  refine x_aload_n dX0_ofHeir_0 rfl ?_
  refine x_get dX0_ofHeir_1 fX0_15 H.ob rfl ?_
  refine x_aload_n dX0_ofHeir_4 rfl ?_
  refine x_get dX0_ofHeir_5 fX0_9 H.ob rfl ?_
  refine x_iload_n dX0_ofHeir_8 rfl ?_
  refine c_NR dX0_ofHeir_9 kX4_rowsWith q214 q242 (t_rowsWith _ (hn := hC.1) H.r5 (Nat.le_of_ble_eq_true rfl) hC.2 _) rfl rfl (Nat.le_of_ble_eq_true rfl) ⟨Nat.le_refl _, Nat.le_refl _⟩ ?_
  refine x_iret dX0_ofHeir_12 (Or.inl rfl) rfl (Nat.le_refl _) ?_
  exact RO.mk rfl

set_option maxRecDepth 100000 in
set_option maxHeartbeats 4000000 in
theorem t_toLot {st : Nat → Nat} (d : Nat) {z : Nat} {h : Nat → Option va_E} {a : Nat} {σ : Sg} (H : ClaimsAt h a σ) (hC : COk σ) (w : Int32) : CT st (d + 2) yX0_toLot cX0_toLot 2 (some .int) [.ref a, .int w] (z, h) 0 0 (RO (some (.int (cToLot σ w))) (z, h)) := by
  refine CT.of (lv := [.ref a, .int w]) (by decide) (Nat.le_of_ble_eq_true rfl) rfl rfl ?_
  refine x_aload_n dX0_toLot_0 rfl ?_
  refine x_get dX0_toLot_1 fX0_19 H.ob rfl ?_
  refine x_aload_n dX0_toLot_4 rfl ?_
  refine x_get dX0_toLot_5 fX0_9 H.ob rfl ?_
  refine x_iload_n dX0_toLot_8 rfl ?_
  refine c_NR dX0_toLot_9 kX4_rowsWith q214 q242 (t_rowsWith _ (hn := hC.1) H.r6 (Nat.le_of_ble_eq_true rfl) hC.2 _) rfl rfl (Nat.le_of_ble_eq_true rfl) ⟨Nat.le_refl _, Nat.le_refl _⟩ ?_
  refine x_iret dX0_toLot_12 (Or.inl rfl) rfl (Nat.le_refl _) ?_
  exact RO.mk rfl

set_option maxRecDepth 100000 in
set_option maxHeartbeats 4000000 in
theorem t_openTo {st : Nat → Nat} (d : Nat) {z : Nat} {h : Nat → Option va_E} {a : Nat} {σ : Sg} (H : ClaimsAt h a σ) (hC : COk σ) (w : Int32) : CT st (d + 3) yX0_openTo cX0_openTo 2 (some .int) [.ref a, .int w] (z, h) 0 0 (RO (some (.int (cOpenTo σ w))) (z, h)) := by
  refine CT.of (lv := [.ref a, .int w]) (by decide) (Nat.le_of_ble_eq_true rfl) rfl rfl ?_
  refine x_aload_n dX0_openTo_0 rfl ?_
  refine x_iload_n dX0_openTo_1 rfl ?_
  refine c_VR dX0_openTo_2 kX0_toLot iX0_toLot q325 (t_toLot _ H hC _) H.ob rfl rfl rfl (Nat.le_of_ble_eq_true rfl) ⟨Nat.le_refl _, Nat.le_refl _⟩ ?_
  refine x_aload_n dX0_openTo_5 rfl ?_
  refine x_iconst (v := 0) dX0_openTo_6 rfl ?_
  refine c_VR dX0_openTo_7 kX0_inState iX0_inState q238 (t_CinState _ H hC _) H.ob rfl rfl rfl (Nat.le_of_ble_eq_true rfl) ⟨Nat.le_refl _, Nat.le_refl _⟩ ?_
  refine x_iand dX0_openTo_10 ?_
  refine x_iret dX0_openTo_11 (Or.inl rfl) rfl (Nat.le_refl _) ?_
  exact RO.mk rfl

set_option maxRecDepth 100000 in
set_option maxHeartbeats 4000000 in
theorem t_upheldTo {st : Nat → Nat} (d : Nat) {z : Nat} {h : Nat → Option va_E} {a : Nat} {σ : Sg} (H : ClaimsAt h a σ) (hC : COk σ) (w : Int32) : CT st (d + 3) yX0_upheldTo cX0_upheldTo 2 (some .int) [.ref a, .int w] (z, h) 0 0 (RO (some (.int (cUpTo σ w))) (z, h)) := by
  refine CT.of (lv := [.ref a, .int w]) (by decide) (Nat.le_of_ble_eq_true rfl) rfl rfl ?_
  refine x_aload_n dX0_upheldTo_0 rfl ?_
  refine x_iload_n dX0_upheldTo_1 rfl ?_
  refine c_VR dX0_upheldTo_2 kX0_toLot iX0_toLot q325 (t_toLot _ H hC _) H.ob rfl rfl rfl (Nat.le_of_ble_eq_true rfl) ⟨Nat.le_refl _, Nat.le_refl _⟩ ?_
  refine x_aload_n dX0_upheldTo_5 rfl ?_
  refine x_iconst (v := 1) dX0_upheldTo_6 rfl ?_
  refine c_VR dX0_upheldTo_7 kX0_inState iX0_inState q238 (t_CinState _ H hC _) H.ob rfl rfl rfl (Nat.le_of_ble_eq_true rfl) ⟨Nat.le_refl _, Nat.le_refl _⟩ ?_
  refine x_iand dX0_upheldTo_10 ?_
  refine x_iret dX0_upheldTo_11 (Or.inl rfl) rfl (Nat.le_refl _) ?_
  exact RO.mk rfl

set_option maxRecDepth 100000 in
set_option maxHeartbeats 4000000 in
theorem t_standingTo {st : Nat → Nat} (d : Nat) {z : Nat} {h : Nat → Option va_E} {a : Nat} {σ : Sg} (H : ClaimsAt h a σ) (hC : COk σ) (w : Int32) : CT st (d + 4) yX0_standingTo cX0_standingTo 2 (some .int) [.ref a, .int w] (z, h) 0 0 (RO (some (.int (cStandTo σ w))) (z, h)) := by
  refine CT.of (lv := [.ref a, .int w]) (by decide) (Nat.le_of_ble_eq_true rfl) rfl rfl ?_
  refine x_aload_n dX0_standingTo_0 rfl ?_
  refine x_iload_n dX0_standingTo_1 rfl ?_
  refine c_VR dX0_standingTo_2 kX0_toLot iX0_toLot q325 (t_toLot _ H hC _) H.ob rfl rfl rfl (Nat.le_of_ble_eq_true rfl) ⟨Nat.le_refl _, Nat.le_refl _⟩ ?_
  refine x_aload_n dX0_standingTo_5 rfl ?_
  refine c_VR dX0_standingTo_6 kX0_standing iX0_standing q329 (t_standing _ H hC) H.ob rfl rfl rfl (Nat.le_of_ble_eq_true rfl) ⟨Nat.le_refl _, Nat.le_refl _⟩ ?_
  refine x_iand dX0_standingTo_9 ?_
  refine x_iret dX0_standingTo_10 (Or.inl rfl) rfl (Nat.le_refl _) ?_
  exact RO.mk rfl

set_option maxRecDepth 100000 in
set_option maxHeartbeats 4000000 in
theorem t_thatBrought {st : Nat → Nat} (d : Nat) {z : Nat} {h : Nat → Option va_E} {a : Nat} {σ : Sg} (H : ClaimsAt h a σ) (hC : COk σ)  : CT st (d + 3) yX0_thatBrought cX0_thatBrought 1 (some .int) [.ref a] (z, h) 0 0 (RO (some (.int (cBrought σ))) (z, h)) := by
  refine CT.of (lv := [.ref a]) (by decide) (Nat.le_of_ble_eq_true rfl) rfl rfl ?_
  refine x_aload_n dX0_thatBrought_0 rfl ?_
  refine c_VR dX0_thatBrought_1 kX0_all iX0_all q363 (t_Call _ H) H.ob rfl rfl rfl (Nat.le_of_ble_eq_true rfl) ⟨Nat.le_refl _, Nat.le_refl _⟩ ?_
  refine x_aload_n dX0_thatBrought_4 rfl ?_
  refine x_get dX0_thatBrought_5 fX0_34 H.ob rfl ?_
  refine x_aload_n dX0_thatBrought_8 rfl ?_
  refine x_get dX0_thatBrought_9 fX0_9 H.ob rfl ?_
  refine x_iconst (v := 0) dX0_thatBrought_12 rfl ?_
  refine c_NR dX0_thatBrought_13 kX4_rowsWith q214 q242 (t_rowsWith _ (hn := hC.1) H.r11 (Nat.le_of_ble_eq_true rfl) hC.2 _) rfl rfl (Nat.le_of_ble_eq_true rfl) ⟨Nat.le_refl _, Nat.le_refl _⟩ ?_
  refine x_iconst (v := (-1)) dX0_thatBrought_16 rfl ?_
  refine x_ixor dX0_thatBrought_17 ?_
  refine x_iand dX0_thatBrought_18 ?_
  refine x_iret dX0_thatBrought_19 (Or.inl rfl) rfl (Nat.le_refl _) ?_
  exact RO.mk rfl

set_option maxRecDepth 100000 in
set_option maxHeartbeats 4000000 in
theorem L_nearestLine {st : Nat → Nat} (d : Nat) {z : Nat} {h : Nat → Option va_E} {a : Nat} {σ : Sg} (H : ClaimsAt h a σ) (hC : COk σ) (w : Int32) : ∀ (k : Nat) (i : Nat) (r : Int32), i + k = nCl σ → lp (nlf σ w) i k r = cNearLine σ w → Ev st (d + 2) yX0_nearestLine cX0_nearestLine 4 (some .int) (z, h) 0 0 (RO (some (.int (cNearLine σ w))) (z, h)) 5 [.ref a, .int w, .int r, .int (nI i)] [] (z, h) 0 0 := by
  intro k
  induction k with
  | zero =>
    intro i r hik hR
    refine x_iload_n dX0_nearestLine_5 rfl ?_
    refine x_aload_n dX0_nearestLine_6 rfl ?_
    refine x_get dX0_nearestLine_7 fX0_9 H.ob rfl ?_
    have hc30 := hC.2
    rw [hC.1]
    refine x_icmp_ge (tgt := 50) dX0_nearestLine_10 (by decide) (fun c10 => ?_) (fun c10 => absurd (nI_le (a := nCl σ) (b := i) (by omega) (by omega)) c10)
    refine x_iload_n dX0_nearestLine_50 rfl ?_
    refine x_iret dX0_nearestLine_51 (Or.inl rfl) rfl (Nat.le_refl _) ?_
    exact RO.mk hR
  | succ k ih =>
    intro i r hik hR
    refine x_iload_n dX0_nearestLine_5 rfl ?_
    refine x_aload_n dX0_nearestLine_6 rfl ?_
    refine x_get dX0_nearestLine_7 fX0_9 H.ob rfl ?_
    have hc30 := hC.2
    rw [hC.1]
    refine x_icmp_ge (tgt := 50) dX0_nearestLine_10 (by decide) (fun c10 => absurd c10 (nI_ge (a := i) (b := nCl σ) (by omega) (by omega))) (fun c10 => ?_)
    refine x_iload_n dX0_nearestLine_13 rfl ?_
    refine x_iload_n dX0_nearestLine_14 rfl ?_
    refine c_NR dX0_nearestLine_15 kX4_holds q227 q339 (t_holds _ _ _) rfl rfl (Nat.le_of_ble_eq_true rfl) ⟨Nat.le_refl _, Nat.le_refl _⟩ ?_
    refine x_if_eq (tgt := 44) dX0_nearestLine_18 (by decide) (fun c18 => ?_) (fun c18 => ?_)
    · have c18 := bI_eq c18
      refine e_inc (lv' := fun w9 => [.ref a, .int w, .int r, .int w9]) dX0_nearestLine_44 rfl rfl (fun _ => rfl) (fun v1 ev1 => ?_)
      refine x_goto (tgt := 5) dX0_nearestLine_47 (by decide) ?_
      obtain rfl := inc1 ev1
      exact ih (i + 1) _ (by omega) (by rw [← hR, lp_s]; congr 1; simp [nlf, *])
    · have c18 := bI_ne c18
      refine x_iload_n dX0_nearestLine_21 rfl ?_
      refine x_bipush (v := (-6)) dX0_nearestLine_22 rfl ?_
      refine x_icmp_eq (tgt := 37) dX0_nearestLine_24 (by decide) (fun c24 => ?_) (fun c24 => ?_)
      · refine x_aload_n dX0_nearestLine_37 rfl ?_
        refine x_get dX0_nearestLine_38 fX0_22 H.ob rfl ?_
        refine x_iload_n dX0_nearestLine_41 rfl ?_
        refine e_ald dX0_nearestLine_42 H.r7 (ax_ixN (j := i) (by omega) (Nat.le_of_ble_eq_true rfl)) ?_
        refine e_ist_n (lv' := fun w9 => [.ref a, .int w, .int w9, .int (nI i)]) dX0_nearestLine_43 (Nat.le_of_ble_eq_true rfl) rfl (fun _ => rfl) (fun v2 ev2 => ?_)
        refine e_inc (lv' := fun w9 => [.ref a, .int w, .int v2, .int w9]) dX0_nearestLine_44 rfl rfl (fun _ => rfl) (fun v3 ev3 => ?_)
        refine x_goto (tgt := 5) dX0_nearestLine_47 (by decide) ?_
        obtain rfl := inc1 ev3
        exact ih (i + 1) _ (by omega) (by rw [← hR, lp_s]; congr 1; subst ev2; simp [nlf, *])
      · refine x_aload_n dX0_nearestLine_27 rfl ?_
        refine x_get dX0_nearestLine_28 fX0_22 H.ob rfl ?_
        refine x_iload_n dX0_nearestLine_31 rfl ?_
        refine e_ald dX0_nearestLine_32 H.r7 (ax_ixN (j := i) (by omega) (Nat.le_of_ble_eq_true rfl)) ?_
        refine x_iload_n dX0_nearestLine_33 rfl ?_
        refine x_icmp_ge (tgt := 44) dX0_nearestLine_34 (by decide) (fun c34 => ?_) (fun c34 => ?_)
        · refine e_inc (lv' := fun w9 => [.ref a, .int w, .int r, .int w9]) dX0_nearestLine_44 rfl rfl (fun _ => rfl) (fun v4 ev4 => ?_)
          refine x_goto (tgt := 5) dX0_nearestLine_47 (by decide) ?_
          obtain rfl := inc1 ev4
          exact ih (i + 1) _ (by omega) (by rw [← hR, lp_s]; congr 1; simp [nlf, *])
        · refine x_aload_n dX0_nearestLine_37 rfl ?_
          refine x_get dX0_nearestLine_38 fX0_22 H.ob rfl ?_
          refine x_iload_n dX0_nearestLine_41 rfl ?_
          refine e_ald dX0_nearestLine_42 H.r7 (ax_ixN (j := i) (by omega) (Nat.le_of_ble_eq_true rfl)) ?_
          refine e_ist_n (lv' := fun w9 => [.ref a, .int w, .int w9, .int (nI i)]) dX0_nearestLine_43 (Nat.le_of_ble_eq_true rfl) rfl (fun _ => rfl) (fun v5 ev5 => ?_)
          refine e_inc (lv' := fun w9 => [.ref a, .int w, .int v5, .int w9]) dX0_nearestLine_44 rfl rfl (fun _ => rfl) (fun v6 ev6 => ?_)
          refine x_goto (tgt := 5) dX0_nearestLine_47 (by decide) ?_
          obtain rfl := inc1 ev6
          exact ih (i + 1) _ (by omega) (by rw [← hR, lp_s]; congr 1; subst ev5; simp [nlf, *])

set_option maxRecDepth 100000 in
set_option maxHeartbeats 4000000 in
theorem t_nearestLine {st : Nat → Nat} (d : Nat) {z : Nat} {h : Nat → Option va_E} {a : Nat} {σ : Sg} (H : ClaimsAt h a σ) (hC : COk σ) (w : Int32) : CT st (d + 2) yX0_nearestLine cX0_nearestLine 4 (some .int) [.ref a, .int w] (z, h) 0 0 (RO (some (.int (cNearLine σ w))) (z, h)) := by
  refine CT.of (lv := [.ref a, .int w, .null, .null]) (by decide) (Nat.le_of_ble_eq_true rfl) rfl rfl ?_
  refine x_bipush (v := (-6)) dX0_nearestLine_0 rfl ?_
  refine e_ist_n (lv' := fun w9 => [.ref a, .int w, .int w9, .null]) dX0_nearestLine_2 (Nat.le_of_ble_eq_true rfl) rfl (fun _ => rfl) (fun v1 ev1 => ?_)
  refine x_iconst (v := 0) dX0_nearestLine_3 rfl ?_
  refine e_ist_n (lv' := fun w9 => [.ref a, .int w, .int v1, .int w9]) dX0_nearestLine_4 (Nat.le_of_ble_eq_true rfl) rfl (fun _ => rfl) (fun v2 ev2 => ?_)
  subst ev1 ev2
  exact L_nearestLine d H hC w (nCl σ) 0 (-6) (by omega) rfl

set_option maxRecDepth 100000 in
set_option maxHeartbeats 4000000 in
theorem t_nearest {st : Nat → Nat} (d : Nat) {z : Nat} {h : Nat → Option va_E} {a : Nat} {σ : Sg} (H : ClaimsAt h a σ) (hC : COk σ) (w : Int32) : CT st (d + 3) yX0_nearest cX0_nearest 2 (some .int) [.ref a, .int w] (z, h) 0 0 (RO (some (.int (cNearest σ w))) (z, h)) := by
  refine CT.of (lv := [.ref a, .int w]) (by decide) (Nat.le_of_ble_eq_true rfl) rfl rfl ?_
  refine x_iload_n dX0_nearest_0 rfl ?_
  refine x_aload_n dX0_nearest_1 rfl ?_
  refine x_get dX0_nearest_2 fX0_22 H.ob rfl ?_
  refine x_aload_n dX0_nearest_5 rfl ?_
  refine x_get dX0_nearest_6 fX0_9 H.ob rfl ?_
  refine x_aload_n dX0_nearest_9 rfl ?_
  refine x_iload_n dX0_nearest_10 rfl ?_
  refine c_VR dX0_nearest_11 kX0_nearestLine iX0_nearestLine q534 (t_nearestLine _ H hC _) H.ob rfl rfl rfl (Nat.le_of_ble_eq_true rfl) ⟨Nat.le_refl _, Nat.le_refl _⟩ ?_
  refine c_NR dX0_nearest_14 kX4_rowsWith q214 q242 (t_rowsWith _ (hn := hC.1) H.r7 (Nat.le_of_ble_eq_true rfl) hC.2 _) rfl rfl (Nat.le_of_ble_eq_true rfl) ⟨Nat.le_refl _, Nat.le_refl _⟩ ?_
  refine x_iand dX0_nearest_17 ?_
  refine x_iret dX0_nearest_18 (Or.inl rfl) rfl (Nat.le_refl _) ?_
  exact RO.mk rfl

set_option maxRecDepth 100000 in
set_option maxHeartbeats 4000000 in
theorem t_isHeir {st : Nat → Nat} (d : Nat) {z : Nat} {h : Nat → Option va_E} (x : Int32) : CT st (d + 1) yX2_isHeir cX2_isHeir 1 (some .boolean) [.int x] (z, h) 0 0 (RO (some (.int (bI (sHeir x)))) (z, h)) := by
  refine CT.of (lv := [.int x]) (by decide) (Nat.le_of_ble_eq_true rfl) rfl rfl ?_
  refine x_iload_n dX2_isHeir_0 rfl ?_
  refine x_if_lt (tgt := 14) dX2_isHeir_1 (by decide) (fun c1 => ?_) (fun c1 => ?_)
  · refine x_iconst (v := 0) dX2_isHeir_14 rfl ?_
    refine x_iret dX2_isHeir_15 (Or.inr ⟨rfl, by first | rfl | exact bI_z _⟩) rfl (Nat.le_refl _) ?_
    exact RO.mk (by simp [bI, sHeir, *])
  · refine x_iload_n dX2_isHeir_4 rfl ?_
    refine x_bipush (v := 16) dX2_isHeir_5 rfl ?_
    refine x_icmp_ge (tgt := 14) dX2_isHeir_7 (by decide) (fun c7 => ?_) (fun c7 => ?_)
    · refine x_iconst (v := 0) dX2_isHeir_14 rfl ?_
      refine x_iret dX2_isHeir_15 (Or.inr ⟨rfl, by first | rfl | exact bI_z _⟩) rfl (Nat.le_refl _) ?_
      exact RO.mk (by simp [bI, sHeir, *])
    · refine x_iconst (v := 1) dX2_isHeir_10 rfl ?_
      refine x_goto (tgt := 15) dX2_isHeir_11 (by decide) ?_
      refine x_iret dX2_isHeir_15 (Or.inr ⟨rfl, by first | rfl | exact bI_z _⟩) rfl (Nat.le_refl _) ?_
      exact RO.mk (by simp [bI, sHeir, *])

set_option maxRecDepth 100000 in
set_option maxHeartbeats 4000000 in
theorem t_canBeClaimed {st : Nat → Nat} (d : Nat) {z : Nat} {h : Nat → Option va_E} {o : Nat} {σ : Sg} (H : OffAt h o σ) (hL : LOk σ) (hC : COk σ) {j : Nat} (hj : j < 12)  : CT st (d + 2) yX2_canBeClaimed cX2_canBeClaimed 2 (some .boolean) [.ref o, .int (nI j)] (z, h) 0 0 (RO (some (.int (bI (sCanClaim σ j)))) (z, h)) := by
  refine CT.of (lv := [.ref o, .int (nI j)]) (by decide) (Nat.le_of_ble_eq_true rfl) rfl rfl ?_
  refine x_aload_n dX2_canBeClaimed_0 rfl ?_
  refine x_get dX2_canBeClaimed_1 fX2_18 H.ob rfl ?_
  refine x_get dX2_canBeClaimed_4 fX2_72 H.lo.ob rfl ?_
  refine x_iload_n dX2_canBeClaimed_7 rfl ?_
  refine e_ald dX2_canBeClaimed_8 H.lo.r2 (ax_ixN (j := j) (by omega) (Nat.le_of_ble_eq_true rfl)) ?_
  refine x_iconst (v := 3) dX2_canBeClaimed_9 rfl ?_
  refine x_icmp_ne (tgt := 37) dX2_canBeClaimed_10 (by decide) (fun c10 => ?_) (fun c10 => ?_)
  · refine x_aload_n dX2_canBeClaimed_37 rfl ?_
    refine x_get dX2_canBeClaimed_38 fX2_18 H.ob rfl ?_
    refine x_iload_n dX2_canBeClaimed_41 rfl ?_
    refine c_VR dX2_canBeClaimed_42 kX1_isOver iX1_isOver q485 (t_isOver _ H.lo (by omega)) H.lo.ob rfl rfl rfl (Nat.le_of_ble_eq_true rfl) ⟨Nat.le_refl _, Nat.le_refl _⟩ ?_
    refine x_if_ne (tgt := 52) dX2_canBeClaimed_45 (by decide) (fun c45 => ?_) (fun c45 => ?_)
    · have c45 := bI_ne c45
      refine x_iconst (v := 0) dX2_canBeClaimed_52 rfl ?_
      refine x_iret dX2_canBeClaimed_53 (Or.inr ⟨rfl, by first | rfl | exact bI_z _⟩) rfl (Nat.le_refl _) ?_
      exact RO.mk (by simp [bI, sCanClaim, *])
    · have c45 := bI_eq c45
      refine x_iconst (v := 1) dX2_canBeClaimed_48 rfl ?_
      refine x_goto (tgt := 53) dX2_canBeClaimed_49 (by decide) ?_
      refine x_iret dX2_canBeClaimed_53 (Or.inr ⟨rfl, by first | rfl | exact bI_z _⟩) rfl (Nat.le_refl _) ?_
      exact RO.mk (by simp [bI, sCanClaim, *])
  · refine x_aload_n dX2_canBeClaimed_13 rfl ?_
    refine x_get dX2_canBeClaimed_14 fX2_18 H.ob rfl ?_
    refine x_get dX2_canBeClaimed_17 fX2_106 H.lo.ob rfl ?_
    refine x_iload_n dX2_canBeClaimed_20 rfl ?_
    refine e_ald dX2_canBeClaimed_21 H.lo.r4 (ax_ixN (j := j) (by omega) (Nat.le_of_ble_eq_true rfl)) ?_
    refine x_aload_n dX2_canBeClaimed_22 rfl ?_
    refine x_get dX2_canBeClaimed_23 fX2_9 H.ob rfl ?_
    refine x_iconst (v := 3) dX2_canBeClaimed_26 rfl ?_
    refine e_ald dX2_canBeClaimed_27 H.r0 (ax_ixN (j := 3) (Nat.le_of_ble_eq_true rfl) (Nat.le_of_ble_eq_true rfl)) ?_
    refine x_icmp_gt (tgt := 35) dX2_canBeClaimed_28 (by decide) (fun c28 => ?_) (fun c28 => ?_)
    · refine x_iconst (v := 0) dX2_canBeClaimed_35 rfl ?_
      refine x_iret dX2_canBeClaimed_36 (Or.inr ⟨rfl, by first | rfl | exact bI_z _⟩) rfl (Nat.le_refl _) ?_
      exact RO.mk (by simp [bI, sCanClaim, *])
    · refine x_iconst (v := 1) dX2_canBeClaimed_31 rfl ?_
      refine x_goto (tgt := 36) dX2_canBeClaimed_32 (by decide) ?_
      refine x_iret dX2_canBeClaimed_36 (Or.inr ⟨rfl, by first | rfl | exact bI_z _⟩) rfl (Nat.le_refl _) ?_
      exact RO.mk (by simp [bI, sCanClaim, *])

set_option maxRecDepth 100000 in
set_option maxHeartbeats 4000000 in
theorem t_coinsToShare {st : Nat → Nat} (d : Nat) {z : Nat} {h : Nat → Option va_E} {o : Nat} {σ : Sg} (H : OffAt h o σ) (hL : LOk σ) (hC : COk σ) {j : Nat} (hj : j < 12)  : CT st (d + 1) yX2_coinsToShare cX2_coinsToShare 3 (some .int) [.ref o, .int (nI j)] (z, h) 0 0 (RO (some (.int (sCoins σ j))) (z, h)) := by
  refine CT.of (lv := [.ref o, .int (nI j), .null]) (by decide) (Nat.le_of_ble_eq_true rfl) rfl rfl ?_
  refine x_aload_n dX2_coinsToShare_0 rfl ?_
  refine x_get dX2_coinsToShare_1 fX2_18 H.ob rfl ?_
  refine x_get dX2_coinsToShare_4 fX2_65 H.lo.ob rfl ?_
  refine x_iload_n dX2_coinsToShare_7 rfl ?_
  refine e_ald dX2_coinsToShare_8 H.lo.r1 (ax_ixN (j := j) (by omega) (Nat.le_of_ble_eq_true rfl)) ?_
  refine e_ist_n (lv' := fun w9 => [.ref o, .int (nI j), .int w9]) dX2_coinsToShare_9 (Nat.le_of_ble_eq_true rfl) rfl (fun _ => rfl) (fun v1 ev1 => ?_)
  refine x_aload_n dX2_coinsToShare_10 rfl ?_
  refine x_get dX2_coinsToShare_11 fX2_18 H.ob rfl ?_
  refine x_get dX2_coinsToShare_14 fX2_72 H.lo.ob rfl ?_
  refine x_iload_n dX2_coinsToShare_17 rfl ?_
  refine e_ald dX2_coinsToShare_18 H.lo.r2 (ax_ixN (j := j) (by omega) (Nat.le_of_ble_eq_true rfl)) ?_
  refine x_iconst (v := 3) dX2_coinsToShare_19 rfl ?_
  refine x_icmp_ne (tgt := 39) dX2_coinsToShare_20 (by decide) (fun c20 => ?_) (fun c20 => ?_)
  · refine x_iload_n dX2_coinsToShare_39 rfl ?_
    refine x_iret dX2_coinsToShare_40 (Or.inl rfl) rfl (Nat.le_refl _) ?_
    exact RO.mk (by subst_vars; simp [sCoins, *])
  · refine x_iload_n dX2_coinsToShare_23 rfl ?_
    refine x_iload_n dX2_coinsToShare_24 rfl ?_
    refine x_aload_n dX2_coinsToShare_25 rfl ?_
    refine x_get dX2_coinsToShare_26 fX2_9 H.ob rfl ?_
    refine x_iconst (v := 4) dX2_coinsToShare_29 rfl ?_
    refine e_ald dX2_coinsToShare_30 H.r0 (ax_ixN (j := 4) (Nat.le_of_ble_eq_true rfl) (Nat.le_of_ble_eq_true rfl)) ?_
    refine x_imul dX2_coinsToShare_31 ?_
    refine x_bipush (v := 100) dX2_coinsToShare_32 rfl ?_
    refine x_idiv dX2_coinsToShare_34 (by decide) ?_
    refine x_isub dX2_coinsToShare_35 ?_
    refine x_goto (tgt := 40) dX2_coinsToShare_36 (by decide) ?_
    refine x_iret dX2_coinsToShare_40 (Or.inl rfl) rfl (Nat.le_refl _) ?_
    exact RO.mk (by subst_vars; simp [sCoins, *])

set_option maxRecDepth 100000 in
set_option maxHeartbeats 4000000 in
theorem t_part {st : Nat → Nat} (d : Nat) {z : Nat} {h : Nat → Option va_E} (x sh c : Int32) : CT st (d + 2) yX2_part cX2_part 5 (some .int) [.int x, .int sh, .int c] (z, h) 0 0 (RO (some (.int (sPart x sh c))) (z, h)) := by
  refine CT.of (lv := [.int x, .int sh, .int c, .null, .null]) (by decide) (Nat.le_of_ble_eq_true rfl) rfl rfl ?_
  refine x_iload_n dX2_part_0 rfl ?_
  refine c_SR dX2_part_1 kJ6_bitCount_0f7a4 q247 q246 (t_bitCount _ _) rfl rfl (Nat.le_of_ble_eq_true rfl) ⟨Nat.le_refl _, Nat.le_refl _⟩ ?_
  refine e_ist_n (lv' := fun w9 => [.int x, .int sh, .int c, .int w9, .null]) dX2_part_4 (Nat.le_of_ble_eq_true rfl) rfl (fun _ => rfl) (fun v1 ev1 => ?_)
  refine x_iload_n dX2_part_5 rfl ?_
  refine x_if_eq (tgt := 15) dX2_part_6 (by decide) (fun c6 => ?_) (fun c6 => ?_)
  · refine x_iconst (v := 0) dX2_part_15 rfl ?_
    refine x_iret dX2_part_16 (Or.inl rfl) rfl (Nat.le_refl _) ?_
    exact RO.mk (by subst_vars; simp [sPart, *])
  · refine x_iload_n dX2_part_9 rfl ?_
    refine x_iload_n dX2_part_10 rfl ?_
    refine x_iand dX2_part_11 ?_
    refine x_if_ne (tgt := 17) dX2_part_12 (by decide) (fun c12 => ?_) (fun c12 => ?_)
    · refine x_iload_n dX2_part_17 rfl ?_
      refine x_iload_n dX2_part_18 rfl ?_
      refine x_iconst (v := 1) dX2_part_19 rfl ?_
      refine x_isub dX2_part_20 ?_
      refine x_iand dX2_part_21 ?_
      refine c_SR dX2_part_22 kJ6_bitCount_0f7a4 q247 q246 (t_bitCount _ _) rfl rfl (Nat.le_of_ble_eq_true rfl) ⟨Nat.le_refl _, Nat.le_refl _⟩ ?_
      refine e_ist (lv' := fun w9 => [.int x, .int sh, .int c, .int v1, .int w9]) dX2_part_25 (Nat.le_of_ble_eq_true rfl) rfl (fun _ => rfl) (fun v2 ev2 => ?_)
      refine x_iload_n dX2_part_27 rfl ?_
      refine x_iload_n dX2_part_28 rfl ?_
      refine x_idiv dX2_part_29 c6 ?_
      refine x_iload dX2_part_30 rfl ?_
      refine x_iload_n dX2_part_32 rfl ?_
      refine x_iload_n dX2_part_33 rfl ?_
      refine x_irem dX2_part_34 c6 ?_
      refine x_icmp_ge (tgt := 42) dX2_part_35 (by decide) (fun c35 => ?_) (fun c35 => ?_)
      · refine x_iconst (v := 0) dX2_part_42 rfl ?_
        refine x_iadd dX2_part_43 ?_
        refine x_iret dX2_part_44 (Or.inl rfl) rfl (Nat.le_refl _) ?_
        exact RO.mk (by subst_vars; simp [sPart, *])
      · refine x_iconst (v := 1) dX2_part_38 rfl ?_
        refine x_goto (tgt := 43) dX2_part_39 (by decide) ?_
        refine x_iadd dX2_part_43 ?_
        refine x_iret dX2_part_44 (Or.inl rfl) rfl (Nat.le_refl _) ?_
        exact RO.mk (by subst_vars; simp [sPart, *])
    · refine x_iconst (v := 0) dX2_part_15 rfl ?_
      refine x_iret dX2_part_16 (Or.inl rfl) rfl (Nat.le_refl _) ?_
      exact RO.mk (by subst_vars; simp [sPart, *])

set_option maxRecDepth 100000 in
set_option maxHeartbeats 4000000 in
theorem t_purse {st : Nat → Nat} (d : Nat) {z : Nat} {h : Nat → Option va_E} {o : Nat} {σ : Sg} (H : OffAt h o σ) (hL : LOk σ) (hC : COk σ) (x : Int32) : CT st (d + 3) yX2_purse cX2_purse 2 (some .int) [.ref o, .int x] (z, h) 0 0 (RO (some (.int (sPurse σ x))) (z, h)) := by
  refine CT.of (lv := [.ref o, .int x]) (by decide) (Nat.le_of_ble_eq_true rfl) rfl rfl ?_
  refine x_aload_n dX2_purse_0 rfl ?_
  refine x_get dX2_purse_1 fX2_25 H.ob rfl ?_
  refine x_get dX2_purse_4 fX2_162 H.cl.ob rfl ?_
  refine x_aload_n dX2_purse_7 rfl ?_
  refine x_get dX2_purse_8 fX2_25 H.ob rfl ?_
  refine x_iload_n dX2_purse_11 rfl ?_
  refine c_VR dX2_purse_12 kX0_ofHeir iX0_ofHeir q355 (t_ofHeir _ H.cl hC _) H.cl.ob rfl rfl rfl (Nat.le_of_ble_eq_true rfl) ⟨Nat.le_refl _, Nat.le_refl _⟩ ?_
  refine c_NR dX2_purse_15 kX4_sum q224 q223 (t_sum _ H.cl.r11 (Nat.le_of_ble_eq_true rfl) _) rfl rfl (Nat.le_of_ble_eq_true rfl) ⟨Nat.le_refl _, Nat.le_refl _⟩ ?_
  refine x_iret dX2_purse_18 (Or.inl rfl) rfl (Nat.le_refl _) ?_
  exact RO.mk rfl

set_option maxRecDepth 100000 in
set_option maxHeartbeats 4000000 in
theorem t_daysToLapse {st : Nat → Nat} (d : Nat) {z : Nat} {h : Nat → Option va_E} {o j : Nat} {σ : Sg} (H : OffAt h o σ) (hj : j < 30)  : CT st (d + 1) yX2_daysToLapse cX2_daysToLapse 2 (some .int) [.ref o, .int (nI j)] (z, h) 0 0 (RO (some (.int (sLapse σ j))) (z, h)) := by
  refine CT.of (lv := [.ref o, .int (nI j)]) (by decide) (Nat.le_of_ble_eq_true rfl) rfl rfl ?_
  refine x_iconst (v := 1) dX2_daysToLapse_0 rfl ?_
  refine x_aload_n dX2_daysToLapse_1 rfl ?_
  refine x_get dX2_daysToLapse_2 fX2_9 H.ob rfl ?_
  refine x_iconst (v := 2) dX2_daysToLapse_5 rfl ?_
  refine e_ald dX2_daysToLapse_6 H.r0 (ax_ixN (j := 2) (Nat.le_of_ble_eq_true rfl) (Nat.le_of_ble_eq_true rfl)) ?_
  refine x_aload_n dX2_daysToLapse_7 rfl ?_
  refine x_get dX2_daysToLapse_8 fX2_25 H.ob rfl ?_
  refine x_get dX2_daysToLapse_11 fX2_125 H.cl.ob rfl ?_
  refine x_iload_n dX2_daysToLapse_14 rfl ?_
  refine e_ald dX2_daysToLapse_15 H.cl.r10 (ax_ixN (j := j) (by omega) (Nat.le_of_ble_eq_true rfl)) ?_
  refine x_isub dX2_daysToLapse_16 ?_
  refine x_max dX2_daysToLapse_17 q408 wMax (Nat.le_of_ble_eq_true rfl) ⟨Nat.le_refl _, Nat.le_refl _⟩ ?_
  refine x_iret dX2_daysToLapse_20 (Or.inl rfl) rfl (Nat.le_refl _) ?_
  exact RO.mk rfl
