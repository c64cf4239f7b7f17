/-- a place of the frame may be forgotten -/
theorem x_forget {st : Nat → Nat} {k : Nat} {y : MethodName} {cc : ByteArray} {nL : Nat} {ret : Option FieldType} {hp0 : Hp} {mc ms : Nat} {fin : Option Value → Hp → Prop} {pc : Nat} {lv lv' stk : List Value} {hp : Hp} {cl sl i : Nat} (hf : lv.set i .null = lv') (h : Ev st k y cc nL ret hp0 mc ms fin pc lv' stk hp cl sl) : Ev st k y cc nL ret hp0 mc ms fin pc lv stk hp cl sl := by
  intro l D tA base p e s m args below meth c M H locs ls hH hC hz hS hL
  refine h l D tA base p e s m args below meth c M H locs ls hH hC hz hS ⟨by rw [← hf, List.length_set]; exact hL.1, hL.2.1, hL.2.2.1, fun q hq => hL.2.2.2 q ?_⟩
  rw [← hf] at hq
  obtain ⟨h1, h2⟩ := ax_as_mem.mp hq
  rw [List.getElem?_set] at h1
  refine ax_as_mem.mpr ⟨?_, h2⟩
  split at h1
  · split at h1
    · rw [← Option.some.inj h1] at h2
      cases h2
    · cases h1
  · exact h1
theorem ix14 {w : Int32} (h1 : ¬ w < 14) (h2 : ¬ 19 ≤ w) : ax_ix (w - 14) 5 (w - 14).toNatClampNeg := by
  have a1 : (14 : Int) ≤ w.toInt := by
    have := Int32.not_lt.mp h1
    simpa using Int32.le_iff_toInt_le.mp this
  have a2 : w.toInt < 19 := by
    have := Int32.not_le.mp h2
    simpa using Int32.lt_iff_toInt_lt.mp this
  have e : (w - 14).toInt = w.toInt - 14 := by
    rw [Int32.toInt_sub]
    show (w.toInt - 14).bmod (2 ^ 32) = _
    rw [Int.bmod_def]
    omega
  refine ⟨?_, rfl, ?_⟩
  · rw [Int32.lt_iff_toInt_lt, e]
    show ¬ w.toInt - 14 < 0
    omega
  · show (w - 14).toInt.toNat < 5
    rw [e]
    omega
set_option maxRecDepth 100000 in
set_option maxHeartbeats 4000000 in
theorem t_whyNot {st : Nat → Nat} (d : Nat) {z : Nat} {h : Nat → Option va_E} {o : Nat} {σ : Sg} (H : OffAt h o σ) (hL : LOk σ) (hC : COk σ) (x : Int32) : CT st (d + 4) yX2_whyNot cX2_whyNot 2 (some .int) [.ref o, .int x] (z, h) 0 0 (RO (some (.int (oWhy σ x))) (z, h)) := by
  refine CT.of (lv := [.ref o, .int x]) (by decide) (Nat.le_of_ble_eq_true rfl) rfl rfl ?_
  refine x_aload_n dX2_whyNot_0 rfl ?_
  refine x_get dX2_whyNot_1 fX2_18 H.ob rfl ?_
  refine x_iload_n dX2_whyNot_4 rfl ?_
  refine c_VR dX2_whyNot_5 kX1_exists iX1_exists q317 (t_Lexists _ H.lo _) H.lo.ob rfl rfl rfl (Nat.le_of_ble_eq_true rfl) ⟨Nat.le_refl _, Nat.le_refl _⟩ ?_
  refine x_if_ne (tgt := 13) dX2_whyNot_8 (by decide) (fun c8 => ?_) (fun c8 => ?_)
  · have c8 := bI_ne c8
    obtain ⟨j, -, hj, rfl⟩ := ax_ix_of hL.1 hL.2 (Nat.le_of_ble_eq_true rfl) c8
    have hj12 := hL.2
    have hcl := nI_cl (j := j) (by omega)
    refine x_aload_n dX2_whyNot_13 rfl ?_
    refine x_get dX2_whyNot_14 fX2_18 H.ob rfl ?_
    refine x_get dX2_whyNot_17 fX2_72 H.lo.ob rfl ?_
    refine x_iload_n dX2_whyNot_20 rfl ?_
    refine e_ald dX2_whyNot_21 H.lo.r2 (ax_ixN (j := j) (by omega) (Nat.le_of_ble_eq_true rfl)) ?_
    refine x_iconst (v := 1) dX2_whyNot_22 rfl ?_
    refine x_icmp_eq (tgt := 28) dX2_whyNot_23 (by decide) (fun c23 => ?_) (fun c23 => ?_)
    · refine x_aload_n dX2_whyNot_28 rfl ?_
      refine x_get dX2_whyNot_29 fX2_25 H.ob rfl ?_
      refine x_iload_n dX2_whyNot_32 rfl ?_
      refine c_VR dX2_whyNot_33 kX0_openTo iX0_openTo q387 (t_openTo _ H.cl hC _) H.cl.ob rfl rfl rfl (Nat.le_of_ble_eq_true rfl) ⟨Nat.le_refl _, Nat.le_refl _⟩ ?_
      refine x_if_eq (tgt := 41) dX2_whyNot_36 (by decide) (fun c36 => ?_) (fun c36 => ?_)
      · refine x_aload_n dX2_whyNot_41 rfl ?_
        refine x_get dX2_whyNot_42 fX2_25 H.ob rfl ?_
        refine x_iload_n dX2_whyNot_45 rfl ?_
        refine c_VR dX2_whyNot_46 kX0_upheldTo iX0_upheldTo q331 (t_upheldTo _ H.cl hC _) H.cl.ob rfl rfl rfl (Nat.le_of_ble_eq_true rfl) ⟨Nat.le_refl _, Nat.le_refl _⟩ ?_
        refine x_if_eq (tgt := 56) dX2_whyNot_49 (by decide) (fun c49 => ?_) (fun c49 => ?_)
        · refine x_iconst (v := 0) dX2_whyNot_56 rfl ?_
          refine x_iret dX2_whyNot_57 (Or.inl rfl) rfl (Nat.le_refl _) ?_
          exact RO.mk (by simp [oWhy, *])
        · refine x_iconst (v := 3) dX2_whyNot_52 rfl ?_
          refine x_goto (tgt := 57) dX2_whyNot_53 (by decide) ?_
          refine x_iret dX2_whyNot_57 (Or.inl rfl) rfl (Nat.le_refl _) ?_
          exact RO.mk (by simp [oWhy, *])
      · refine x_iconst (v := 2) dX2_whyNot_39 rfl ?_
        refine x_iret dX2_whyNot_40 (Or.inl rfl) rfl (Nat.le_refl _) ?_
        exact RO.mk (by simp [oWhy, *])
    · refine x_iconst (v := 1) dX2_whyNot_26 rfl ?_
      refine x_iret dX2_whyNot_27 (Or.inl rfl) rfl (Nat.le_refl _) ?_
      exact RO.mk (by simp [oWhy, *])
  · have c8 := bI_eq c8
    refine x_iconst (v := (-1)) dX2_whyNot_11 rfl ?_
    refine x_iret dX2_whyNot_12 (Or.inl rfl) rfl (Nat.le_refl _) ?_
    exact RO.mk (by simp [oWhy, *])

set_option maxRecDepth 100000 in
set_option maxHeartbeats 4000000 in
theorem L_idleDays {st : Nat → Nat} (d : Nat) {z : Nat} {h : Nat → Option va_E} {o : Nat} {σ : Sg} (H : OffAt h o σ) (hL : LOk σ) (hC : COk σ) (x : Int32) : ∀ (k : Nat) (i : Nat) (r : Int32), i + k = nCl σ → lp (idleF σ (cOpenTo σ x)) i k r = sIdle σ x → Ev st (d + 4) yX2_idleDays cX2_idleDays 5 (some .int) (z, h) 0 0 (RO (some (.int (sIdle σ x))) (z, h)) 14 [.ref o, .int x, .int (cOpenTo σ x), .int r, .int (nI i)] [] (z, h) 0 0 := by
  intro k
  induction k with
  | zero =>
    intro i r hik hR
    refine x_iload dX2_idleDays_14 rfl ?_
    refine x_aload_n dX2_idleDays_16 rfl ?_
    refine x_get dX2_idleDays_17 fX2_25 H.ob rfl ?_
    refine x_get dX2_idleDays_20 fX2_96 H.cl.ob rfl ?_
    have hc30 := hC.2
    rw [hC.1]
    refine x_icmp_ge (tgt := 54) dX2_idleDays_23 (by decide) (fun c23 => ?_) (fun c23 => absurd (nI_le (a := nCl σ) (b := i) (by omega) (by omega)) c23)
    refine x_iload_n dX2_idleDays_54 rfl ?_
    refine x_iret dX2_idleDays_55 (Or.inl rfl) rfl (Nat.le_refl _) ?_
    exact RO.mk hR
  | succ k ih =>
    intro i r hik hR
    refine x_iload dX2_idleDays_14 rfl ?_
    refine x_aload_n dX2_idleDays_16 rfl ?_
    refine x_get dX2_idleDays_17 fX2_25 H.ob rfl ?_
    refine x_get dX2_idleDays_20 fX2_96 H.cl.ob rfl ?_
    have hc30 := hC.2
    rw [hC.1]
    refine x_icmp_ge (tgt := 54) dX2_idleDays_23 (by decide) (fun c23 => absurd c23 (nI_ge (a := i) (b := nCl σ) (by omega) (by omega))) (fun c23 => ?_)
    refine x_iload_n dX2_idleDays_26 rfl ?_
    refine x_iload dX2_idleDays_27 rfl ?_
    refine c_NR dX2_idleDays_29 kX4_holds q227 q403 (t_holds _ _ _) rfl rfl (Nat.le_of_ble_eq_true rfl) ⟨Nat.le_refl _, Nat.le_refl _⟩ ?_
    refine x_if_eq (tgt := 48) dX2_idleDays_32 (by decide) (fun c32 => ?_) (fun c32 => ?_)
    · have c32 := bI_eq c32
      refine e_inc (lv' := fun w9 => [.ref o, .int x, .int (cOpenTo σ x), .int r, .int w9]) dX2_idleDays_48 rfl rfl (fun _ => rfl) (fun v1 ev1 => ?_)
      refine x_goto (tgt := 14) dX2_idleDays_51 (by decide) ?_
      obtain rfl := inc1 ev1
      exact ih (i + 1) _ (by omega) (by rw [← hR, lp_s]; congr 1; simp [idleF, max32, *])
    · have c32 := bI_ne c32
      refine x_iload_n dX2_idleDays_35 rfl ?_
      refine x_aload_n dX2_idleDays_36 rfl ?_
      refine x_iload dX2_idleDays_37 rfl ?_
      refine c_VR dX2_idleDays_39 kX2_daysToLapse iX2_daysToLapse q404 (t_daysToLapse _ H (by omega)) H.ob rfl rfl rfl (Nat.le_of_ble_eq_true rfl) ⟨Nat.le_refl _, Nat.le_refl _⟩ ?_
      refine x_iconst (v := 1) dX2_idleDays_42 rfl ?_
      refine x_isub dX2_idleDays_43 ?_
      refine x_max dX2_idleDays_44 q408 wMax (Nat.le_of_ble_eq_true rfl) ⟨Nat.le_refl _, Nat.le_refl _⟩ ?_
      refine e_ist_n (lv' := fun w9 => [.ref o, .int x, .int (cOpenTo σ x), .int w9, .int (nI i)]) dX2_idleDays_47 (Nat.le_of_ble_eq_true rfl) rfl (fun _ => rfl) (fun v2 ev2 => ?_)
      refine e_inc (lv' := fun w9 => [.ref o, .int x, .int (cOpenTo σ x), .int v2, .int w9]) dX2_idleDays_48 rfl rfl (fun _ => rfl) (fun v3 ev3 => ?_)
      refine x_goto (tgt := 14) dX2_idleDays_51 (by decide) ?_
      obtain rfl := inc1 ev3
      exact ih (i + 1) _ (by omega) (by rw [← hR, lp_s]; congr 1; subst ev2; simp [idleF, max32, *])

set_option maxRecDepth 100000 in
set_option maxHeartbeats 4000000 in
theorem t_idleDays {st : Nat → Nat} (d : Nat) {z : Nat} {h : Nat → Option va_E} {o : Nat} {σ : Sg} (H : OffAt h o σ) (hL : LOk σ) (hC : COk σ) (x : Int32) : CT st (d + 4) yX2_idleDays cX2_idleDays 5 (some .int) [.ref o, .int x] (z, h) 0 0 (RO (some (.int (sIdle σ x))) (z, h)) := by
  refine CT.of (lv := [.ref o, .int x, .null, .null, .null]) (by decide) (Nat.le_of_ble_eq_true rfl) rfl rfl ?_
  refine x_aload_n dX2_idleDays_0 rfl ?_
  refine x_get dX2_idleDays_1 fX2_25 H.ob rfl ?_
  refine x_iload_n dX2_idleDays_4 rfl ?_
  refine c_VR dX2_idleDays_5 kX0_openTo iX0_openTo q387 (t_openTo _ H.cl hC _) H.cl.ob rfl rfl rfl (Nat.le_of_ble_eq_true rfl) ⟨Nat.le_refl _, Nat.le_refl _⟩ ?_
  refine e_ist_n (lv' := fun w9 => [.ref o, .int x, .int w9, .null, .null]) dX2_idleDays_8 (Nat.le_of_ble_eq_true rfl) rfl (fun _ => rfl) (fun v1 ev1 => ?_)
  refine x_iconst (v := 0) dX2_idleDays_9 rfl ?_
  refine e_ist_n (lv' := fun w9 => [.ref o, .int x, .int v1, .int w9, .null]) dX2_idleDays_10 (Nat.le_of_ble_eq_true rfl) rfl (fun _ => rfl) (fun v2 ev2 => ?_)
  refine x_iconst (v := 0) dX2_idleDays_11 rfl ?_
  refine e_ist (lv' := fun w9 => [.ref o, .int x, .int v1, .int v2, .int w9]) dX2_idleDays_12 (Nat.le_of_ble_eq_true rfl) rfl (fun _ => rfl) (fun v3 ev3 => ?_)
  subst ev1 ev2 ev3
  exact L_idleDays d H hL hC x (nCl σ) 0 0 (by omega) rfl

set_option maxRecDepth 100000 in
set_option maxHeartbeats 4000000 in
theorem t_daysToFall {st : Nat → Nat} (d : Nat) {z : Nat} {h : Nat → Option va_E} {o : Nat} {σ : Sg} (H : OffAt h o σ) (hL : LOk σ) (hC : COk σ) (x : Int32) : CT st (d + 5) yX2_daysToFall cX2_daysToFall 2 (some .int) [.ref o, .int x] (z, h) 0 0 (RO (some (.int (oFalls σ x))) (z, h)) := by
  refine CT.of (lv := [.ref o, .int x]) (by decide) (Nat.le_of_ble_eq_true rfl) rfl rfl ?_
  refine x_aload_n dX2_daysToFall_0 rfl ?_
  refine x_get dX2_daysToFall_1 fX2_18 H.ob rfl ?_
  refine x_iload_n dX2_daysToFall_4 rfl ?_
  refine c_VR dX2_daysToFall_5 kX1_exists iX1_exists q317 (t_Lexists _ H.lo _) H.lo.ob rfl rfl rfl (Nat.le_of_ble_eq_true rfl) ⟨Nat.le_refl _, Nat.le_refl _⟩ ?_
  refine x_if_ne (tgt := 13) dX2_daysToFall_8 (by decide) (fun c8 => ?_) (fun c8 => ?_)
  · have c8 := bI_ne c8
    obtain ⟨j, -, hj, rfl⟩ := ax_ix_of hL.1 hL.2 (Nat.le_of_ble_eq_true rfl) c8
    have hj12 := hL.2
    have hcl := nI_cl (j := j) (by omega)
    refine x_aload_n dX2_daysToFall_13 rfl ?_
    refine x_get dX2_daysToFall_14 fX2_18 H.ob rfl ?_
    refine x_get dX2_daysToFall_17 fX2_72 H.lo.ob rfl ?_
    refine x_iload_n dX2_daysToFall_20 rfl ?_
    refine e_ald dX2_daysToFall_21 H.lo.r2 (ax_ixN (j := j) (by omega) (Nat.le_of_ble_eq_true rfl)) ?_
    refine x_iconst (v := 1) dX2_daysToFall_22 rfl ?_
    refine x_icmp_eq (tgt := 29) dX2_daysToFall_23 (by decide) (fun c23 => ?_) (fun c23 => ?_)
    · refine x_aload_n dX2_daysToFall_29 rfl ?_
      refine x_get dX2_daysToFall_30 fX2_25 H.ob rfl ?_
      refine x_iload_n dX2_daysToFall_33 rfl ?_
      refine c_VR dX2_daysToFall_34 kX0_upheldTo iX0_upheldTo q331 (t_upheldTo _ H.cl hC _) H.cl.ob rfl rfl rfl (Nat.le_of_ble_eq_true rfl) ⟨Nat.le_refl _, Nat.le_refl _⟩ ?_
      refine x_if_eq (tgt := 43) dX2_daysToFall_37 (by decide) (fun c37 => ?_) (fun c37 => ?_)
      · refine x_aload_n dX2_daysToFall_43 rfl ?_
        refine x_iload_n dX2_daysToFall_44 rfl ?_
        refine c_VR dX2_daysToFall_45 kX2_idleDays iX2_idleDays q399 (t_idleDays _ H hL hC _) H.ob rfl rfl rfl (Nat.le_of_ble_eq_true rfl) ⟨Nat.le_refl _, Nat.le_refl _⟩ ?_
        refine x_iconst (v := 1) dX2_daysToFall_48 rfl ?_
        refine x_aload_n dX2_daysToFall_49 rfl ?_
        refine x_get dX2_daysToFall_50 fX2_9 H.ob rfl ?_
        refine x_iconst (v := 0) dX2_daysToFall_53 rfl ?_
        refine e_ald dX2_daysToFall_54 H.r0 (ax_ixN (j := 0) (Nat.le_of_ble_eq_true rfl) (Nat.le_of_ble_eq_true rfl)) ?_
        refine x_aload_n dX2_daysToFall_55 rfl ?_
        refine x_get dX2_daysToFall_56 fX2_18 H.ob rfl ?_
        refine x_get dX2_daysToFall_59 fX2_175 H.lo.ob rfl ?_
        refine x_iload_n dX2_daysToFall_62 rfl ?_
        refine e_ald dX2_daysToFall_63 H.lo.r3 (ax_ixN (j := j) (by omega) (Nat.le_of_ble_eq_true rfl)) ?_
        refine x_isub dX2_daysToFall_64 ?_
        refine x_max dX2_daysToFall_65 q408 wMax (Nat.le_of_ble_eq_true rfl) ⟨Nat.le_refl _, Nat.le_refl _⟩ ?_
        refine x_iadd dX2_daysToFall_68 ?_
        refine x_iret dX2_daysToFall_69 (Or.inl rfl) rfl (Nat.le_refl _) ?_
        exact RO.mk (by simp [oFalls, max32, *])
      · refine x_bipush (v := (-6)) dX2_daysToFall_40 rfl ?_
        refine x_iret dX2_daysToFall_42 (Or.inl rfl) rfl (Nat.le_refl _) ?_
        exact RO.mk (by simp [oFalls, max32, *])
    · refine x_bipush (v := (-5)) dX2_daysToFall_26 rfl ?_
      refine x_iret dX2_daysToFall_28 (Or.inl rfl) rfl (Nat.le_refl _) ?_
      exact RO.mk (by simp [oFalls, max32, *])
  · have c8 := bI_eq c8
    refine x_iconst (v := (-1)) dX2_daysToFall_11 rfl ?_
    refine x_iret dX2_daysToFall_12 (Or.inl rfl) rfl (Nat.le_refl _) ?_
    exact RO.mk (by simp [oFalls, max32, *])

set_option maxRecDepth 100000 in
set_option maxHeartbeats 4000000 in
theorem t_wouldGet {st : Nat → Nat} (d : Nat) {z : Nat} {h : Nat → Option va_E} {o : Nat} {σ : Sg} (H : OffAt h o σ) (hL : LOk σ) (hC : COk σ) (x y w : Int32) : CT st (d + 5) yX2_wouldGet cX2_wouldGet 5 (some .int) [.ref o, .int x, .int y, .int w] (z, h) 0 0 (RO (some (.int (oShare σ x y w))) (z, h)) := by
  refine CT.of (lv := [.ref o, .int x, .int y, .int w, .null]) (by decide) (Nat.le_of_ble_eq_true rfl) rfl rfl ?_
  refine x_aload_n dX2_wouldGet_0 rfl ?_
  refine x_get dX2_wouldGet_1 fX2_18 H.ob rfl ?_
  refine x_iload_n dX2_wouldGet_4 rfl ?_
  refine c_VR dX2_wouldGet_5 kX1_exists iX1_exists q317 (t_Lexists _ H.lo _) H.lo.ob rfl rfl rfl (Nat.le_of_ble_eq_true rfl) ⟨Nat.le_refl _, Nat.le_refl _⟩ ?_
  refine x_if_eq (tgt := 18) dX2_wouldGet_8 (by decide) (fun c8 => ?_) (fun c8 => ?_)
  · have c8 := bI_eq c8
    refine x_iconst (v := (-1)) dX2_wouldGet_18 rfl ?_
    refine x_iret dX2_wouldGet_19 (Or.inl rfl) rfl (Nat.le_refl _) ?_
    exact RO.mk (by subst_vars; first | (simp [oShare, *]; done) | exact absurd rfl ‹¬ (0 : Int32) = 0›)
  · have c8 := bI_ne c8
    obtain ⟨j, -, hj, rfl⟩ := ax_ix_of hL.1 hL.2 (Nat.le_of_ble_eq_true rfl) c8
    have hj12 := hL.2
    have hcl := nI_cl (j := j) (by omega)
    refine x_iload_n dX2_wouldGet_11 rfl ?_
    refine c_SR dX2_wouldGet_12 kX2_isHeir q349 q348 (t_isHeir _ _) rfl rfl (Nat.le_of_ble_eq_true rfl) ⟨Nat.le_refl _, Nat.le_refl _⟩ ?_
    refine x_if_ne (tgt := 20) dX2_wouldGet_15 (by decide) (fun c15 => ?_) (fun c15 => ?_)
    · have c15 := bI_ne c15
      refine x_iload_n dX2_wouldGet_20 rfl ?_
      refine x_if_eq (tgt := 32) dX2_wouldGet_21 (by decide) (fun c21 => ?_) (fun c21 => ?_)
      · refine x_aload_n dX2_wouldGet_32 rfl ?_
        refine x_get dX2_wouldGet_33 fX2_18 H.ob rfl ?_
        refine x_iload_n dX2_wouldGet_36 rfl ?_
        refine c_VR dX2_wouldGet_37 kX1_isOver iX1_isOver q485 (t_isOver _ H.lo (by omega)) H.lo.ob rfl rfl rfl (Nat.le_of_ble_eq_true rfl) ⟨Nat.le_refl _, Nat.le_refl _⟩ ?_
        refine x_if_eq (tgt := 46) dX2_wouldGet_40 (by decide) (fun c40 => ?_) (fun c40 => ?_)
        · have c40 := bI_eq c40
          refine x_aload_n dX2_wouldGet_46 rfl ?_
          refine x_get dX2_wouldGet_47 fX2_25 H.ob rfl ?_
          refine x_iload_n dX2_wouldGet_50 rfl ?_
          refine x_if_ne (tgt := 65) dX2_wouldGet_51 (by decide) (fun c51 => ?_) (fun c51 => ?_)
          · refine x_aload_n dX2_wouldGet_65 rfl ?_
            refine x_get dX2_wouldGet_66 fX2_25 H.ob rfl ?_
            refine x_iload_n dX2_wouldGet_69 rfl ?_
            refine c_VR dX2_wouldGet_70 kX0_standingTo iX0_standingTo q321 (t_standingTo _ H.cl hC _) H.cl.ob rfl rfl rfl (Nat.le_of_ble_eq_true rfl) ⟨Nat.le_refl _, Nat.le_refl _⟩ ?_
            refine c_VR dX2_wouldGet_73 kX0_nearest iX0_nearest q530 (t_nearest _ H.cl hC _) H.cl.ob rfl rfl rfl (Nat.le_of_ble_eq_true rfl) ⟨Nat.le_refl _, Nat.le_refl _⟩ ?_
            refine e_ist (lv' := fun w9 => [.ref o, .int (nI j), .int y, .int w, .int w9]) dX2_wouldGet_76 (Nat.le_of_ble_eq_true rfl) rfl (fun _ => rfl) (fun v1 ev1 => ?_)
            refine x_aload_n dX2_wouldGet_78 rfl ?_
            refine x_iload_n dX2_wouldGet_79 rfl ?_
            refine c_VR dX2_wouldGet_80 kX2_coinsToShare iX2_coinsToShare q526 (t_coinsToShare _ H hL hC (by omega)) H.ob rfl rfl rfl (Nat.le_of_ble_eq_true rfl) ⟨Nat.le_refl _, Nat.le_refl _⟩ ?_
            refine x_iload dX2_wouldGet_83 rfl ?_
            refine x_iload dX2_wouldGet_85 rfl ?_
            refine x_aload_n dX2_wouldGet_87 rfl ?_
            refine x_get dX2_wouldGet_88 fX2_25 H.ob rfl ?_
            refine x_iload_n dX2_wouldGet_91 rfl ?_
            refine c_VR dX2_wouldGet_92 kX0_ofHeir iX0_ofHeir q355 (t_ofHeir _ H.cl hC _) H.cl.ob rfl rfl rfl (Nat.le_of_ble_eq_true rfl) ⟨Nat.le_refl _, Nat.le_refl _⟩ ?_
            refine x_iand dX2_wouldGet_95 ?_
            refine c_SR dX2_wouldGet_96 kX2_part q536 q535 (t_part _ _ _ _) rfl rfl (Nat.le_of_ble_eq_true rfl) ⟨Nat.le_refl _, Nat.le_refl _⟩ ?_
            refine x_iret dX2_wouldGet_99 (Or.inl rfl) rfl (Nat.le_refl _) ?_
            exact RO.mk (by subst_vars; first | (simp [oShare, *]; done) | exact absurd rfl ‹¬ (0 : Int32) = 0›)
          · refine x_aload_n dX2_wouldGet_54 rfl ?_
            refine x_get dX2_wouldGet_55 fX2_25 H.ob rfl ?_
            refine x_iload_n dX2_wouldGet_58 rfl ?_
            refine c_VR dX2_wouldGet_59 kX0_upheldTo iX0_upheldTo q331 (t_upheldTo _ H.cl hC _) H.cl.ob rfl rfl rfl (Nat.le_of_ble_eq_true rfl) ⟨Nat.le_refl _, Nat.le_refl _⟩ ?_
            refine x_goto (tgt := 73) dX2_wouldGet_62 (by decide) ?_
            refine c_VR dX2_wouldGet_73 kX0_nearest iX0_nearest q530 (t_nearest _ H.cl hC _) H.cl.ob rfl rfl rfl (Nat.le_of_ble_eq_true rfl) ⟨Nat.le_refl _, Nat.le_refl _⟩ ?_
            refine e_ist (lv' := fun w9 => [.ref o, .int (nI j), .int y, .int w, .int w9]) dX2_wouldGet_76 (Nat.le_of_ble_eq_true rfl) rfl (fun _ => rfl) (fun v2 ev2 => ?_)
            refine x_aload_n dX2_wouldGet_78 rfl ?_
            refine x_iload_n dX2_wouldGet_79 rfl ?_
            refine c_VR dX2_wouldGet_80 kX2_coinsToShare iX2_coinsToShare q526 (t_coinsToShare _ H hL hC (by omega)) H.ob rfl rfl rfl (Nat.le_of_ble_eq_true rfl) ⟨Nat.le_refl _, Nat.le_refl _⟩ ?_
            refine x_iload dX2_wouldGet_83 rfl ?_
            refine x_iload dX2_wouldGet_85 rfl ?_
            refine x_aload_n dX2_wouldGet_87 rfl ?_
            refine x_get dX2_wouldGet_88 fX2_25 H.ob rfl ?_
            refine x_iload_n dX2_wouldGet_91 rfl ?_
            refine c_VR dX2_wouldGet_92 kX0_ofHeir iX0_ofHeir q355 (t_ofHeir _ H.cl hC _) H.cl.ob rfl rfl rfl (Nat.le_of_ble_eq_true rfl) ⟨Nat.le_refl _, Nat.le_refl _⟩ ?_
            refine x_iand dX2_wouldGet_95 ?_
            refine c_SR dX2_wouldGet_96 kX2_part q536 q535 (t_part _ _ _ _) rfl rfl (Nat.le_of_ble_eq_true rfl) ⟨Nat.le_refl _, Nat.le_refl _⟩ ?_
            refine x_iret dX2_wouldGet_99 (Or.inl rfl) rfl (Nat.le_refl _) ?_
            exact RO.mk (by subst_vars; first | (simp [oShare, *]; done) | exact absurd rfl ‹¬ (0 : Int32) = 0›)
        · have c40 := bI_ne c40
          refine x_bipush (v := (-5)) dX2_wouldGet_43 rfl ?_
          refine x_iret dX2_wouldGet_45 (Or.inl rfl) rfl (Nat.le_refl _) ?_
          exact RO.mk (by subst_vars; first | (simp [oShare, *]; done) | exact absurd rfl ‹¬ (0 : Int32) = 0›)
      · refine x_iload_n dX2_wouldGet_24 rfl ?_
        refine x_iconst (v := 1) dX2_wouldGet_25 rfl ?_
        refine x_icmp_eq (tgt := 32) dX2_wouldGet_26 (by decide) (fun c26 => ?_) (fun c26 => ?_)
        · refine x_aload_n dX2_wouldGet_32 rfl ?_
          refine x_get dX2_wouldGet_33 fX2_18 H.ob rfl ?_
          refine x_iload_n dX2_wouldGet_36 rfl ?_
          refine c_VR dX2_wouldGet_37 kX1_isOver iX1_isOver q485 (t_isOver _ H.lo (by omega)) H.lo.ob rfl rfl rfl (Nat.le_of_ble_eq_true rfl) ⟨Nat.le_refl _, Nat.le_refl _⟩ ?_
          refine x_if_eq (tgt := 46) dX2_wouldGet_40 (by decide) (fun c40 => ?_) (fun c40 => ?_)
          · have c40 := bI_eq c40
            refine x_aload_n dX2_wouldGet_46 rfl ?_
            refine x_get dX2_wouldGet_47 fX2_25 H.ob rfl ?_
            refine x_iload_n dX2_wouldGet_50 rfl ?_
            refine x_if_ne (tgt := 65) dX2_wouldGet_51 (by decide) (fun c51 => ?_) (fun c51 => ?_)
            · refine x_aload_n dX2_wouldGet_65 rfl ?_
              refine x_get dX2_wouldGet_66 fX2_25 H.ob rfl ?_
              refine x_iload_n dX2_wouldGet_69 rfl ?_
              refine c_VR dX2_wouldGet_70 kX0_standingTo iX0_standingTo q321 (t_standingTo _ H.cl hC _) H.cl.ob rfl rfl rfl (Nat.le_of_ble_eq_true rfl) ⟨Nat.le_refl _, Nat.le_refl _⟩ ?_
              refine c_VR dX2_wouldGet_73 kX0_nearest iX0_nearest q530 (t_nearest _ H.cl hC _) H.cl.ob rfl rfl rfl (Nat.le_of_ble_eq_true rfl) ⟨Nat.le_refl _, Nat.le_refl _⟩ ?_
              refine e_ist (lv' := fun w9 => [.ref o, .int (nI j), .int y, .int w, .int w9]) dX2_wouldGet_76 (Nat.le_of_ble_eq_true rfl) rfl (fun _ => rfl) (fun v3 ev3 => ?_)
              refine x_aload_n dX2_wouldGet_78 rfl ?_
              refine x_iload_n dX2_wouldGet_79 rfl ?_
              refine c_VR dX2_wouldGet_80 kX2_coinsToShare iX2_coinsToShare q526 (t_coinsToShare _ H hL hC (by omega)) H.ob rfl rfl rfl (Nat.le_of_ble_eq_true rfl) ⟨Nat.le_refl _, Nat.le_refl _⟩ ?_
              refine x_iload dX2_wouldGet_83 rfl ?_
              refine x_iload dX2_wouldGet_85 rfl ?_
              refine x_aload_n dX2_wouldGet_87 rfl ?_
              refine x_get dX2_wouldGet_88 fX2_25 H.ob rfl ?_
              refine x_iload_n dX2_wouldGet_91 rfl ?_
              refine c_VR dX2_wouldGet_92 kX0_ofHeir iX0_ofHeir q355 (t_ofHeir _ H.cl hC _) H.cl.ob rfl rfl rfl (Nat.le_of_ble_eq_true rfl) ⟨Nat.le_refl _, Nat.le_refl _⟩ ?_
              refine x_iand dX2_wouldGet_95 ?_
              refine c_SR dX2_wouldGet_96 kX2_part q536 q535 (t_part _ _ _ _) rfl rfl (Nat.le_of_ble_eq_true rfl) ⟨Nat.le_refl _, Nat.le_refl _⟩ ?_
              refine x_iret dX2_wouldGet_99 (Or.inl rfl) rfl (Nat.le_refl _) ?_
              exact RO.mk (by subst_vars; first | (simp [oShare, *]; done) | exact absurd rfl ‹¬ (0 : Int32) = 0›)
            · refine x_aload_n dX2_wouldGet_54 rfl ?_
              refine x_get dX2_wouldGet_55 fX2_25 H.ob rfl ?_
              refine x_iload_n dX2_wouldGet_58 rfl ?_
              refine c_VR dX2_wouldGet_59 kX0_upheldTo iX0_upheldTo q331 (t_upheldTo _ H.cl hC _) H.cl.ob rfl rfl rfl (Nat.le_of_ble_eq_true rfl) ⟨Nat.le_refl _, Nat.le_refl _⟩ ?_
              refine x_goto (tgt := 73) dX2_wouldGet_62 (by decide) ?_
              refine c_VR dX2_wouldGet_73 kX0_nearest iX0_nearest q530 (t_nearest _ H.cl hC _) H.cl.ob rfl rfl rfl (Nat.le_of_ble_eq_true rfl) ⟨Nat.le_refl _, Nat.le_refl _⟩ ?_
              refine e_ist (lv' := fun w9 => [.ref o, .int (nI j), .int y, .int w, .int w9]) dX2_wouldGet_76 (Nat.le_of_ble_eq_true rfl) rfl (fun _ => rfl) (fun v4 ev4 => ?_)
              refine x_aload_n dX2_wouldGet_78 rfl ?_
              refine x_iload_n dX2_wouldGet_79 rfl ?_
              refine c_VR dX2_wouldGet_80 kX2_coinsToShare iX2_coinsToShare q526 (t_coinsToShare _ H hL hC (by omega)) H.ob rfl rfl rfl (Nat.le_of_ble_eq_true rfl) ⟨Nat.le_refl _, Nat.le_refl _⟩ ?_
              refine x_iload dX2_wouldGet_83 rfl ?_
              refine x_iload dX2_wouldGet_85 rfl ?_
              refine x_aload_n dX2_wouldGet_87 rfl ?_
              refine x_get dX2_wouldGet_88 fX2_25 H.ob rfl ?_
              refine x_iload_n dX2_wouldGet_91 rfl ?_
              refine c_VR dX2_wouldGet_92 kX0_ofHeir iX0_ofHeir q355 (t_ofHeir _ H.cl hC _) H.cl.ob rfl rfl rfl (Nat.le_of_ble_eq_true rfl) ⟨Nat.le_refl _, Nat.le_refl _⟩ ?_
              refine x_iand dX2_wouldGet_95 ?_
              refine c_SR dX2_wouldGet_96 kX2_part q536 q535 (t_part _ _ _ _) rfl rfl (Nat.le_of_ble_eq_true rfl) ⟨Nat.le_refl _, Nat.le_refl _⟩ ?_
              refine x_iret dX2_wouldGet_99 (Or.inl rfl) rfl (Nat.le_refl _) ?_
              exact RO.mk (by subst_vars; first | (simp [oShare, *]; done) | exact absurd rfl ‹¬ (0 : Int32) = 0›)
          · have c40 := bI_ne c40
            refine x_bipush (v := (-5)) dX2_wouldGet_43 rfl ?_
            refine x_iret dX2_wouldGet_45 (Or.inl rfl) rfl (Nat.le_refl _) ?_
            exact RO.mk (by subst_vars; first | (simp [oShare, *]; done) | exact absurd rfl ‹¬ (0 : Int32) = 0›)
        · refine x_bipush (v := (-2)) dX2_wouldGet_29 rfl ?_
          refine x_iret dX2_wouldGet_31 (Or.inl rfl) rfl (Nat.le_refl _) ?_
          exact RO.mk (by subst_vars; first | (simp [oShare, *]; done) | exact absurd rfl ‹¬ (0 : Int32) = 0›)
    · have c15 := bI_eq c15
      refine x_iconst (v := (-1)) dX2_wouldGet_18 rfl ?_
      refine x_iret dX2_wouldGet_19 (Or.inl rfl) rfl (Nat.le_refl _) ?_
      exact RO.mk (by subst_vars; first | (simp [oShare, *]; done) | exact absurd rfl ‹¬ (0 : Int32) = 0›)

set_option maxRecDepth 100000 in
set_option maxHeartbeats 4000000 in
theorem t_lapsesAhead {st : Nat → Nat} (d : Nat) {z : Nat} {h : Nat → Option va_E} {o j b : Nat} {σ : Sg} (H : OffAt h o σ) (hL : LOk σ) (hC : COk σ) (hj : j < 30) (hb : b < 30)  : CT st (d + 2) yX2_lapsesAhead cX2_lapsesAhead 5 (some .boolean) [.ref o, .int (nI j), .int (nI b)] (z, h) 0 0 (RO (some (.int (bI (sAhead σ j b)))) (z, h)) := by
  refine CT.of (lv := [.ref o, .int (nI j), .int (nI b), .null, .null]) (by decide) (Nat.le_of_ble_eq_true rfl) rfl rfl ?_
  refine x_aload_n dX2_lapsesAhead_0 rfl ?_
  refine x_iload_n dX2_lapsesAhead_1 rfl ?_
  refine c_VR dX2_lapsesAhead_2 kX2_daysToLapse iX2_daysToLapse q404 (t_daysToLapse _ H (by omega)) H.ob rfl rfl rfl (Nat.le_of_ble_eq_true rfl) ⟨Nat.le_refl _, Nat.le_refl _⟩ ?_
  refine e_ist_n (lv' := fun w9 => [.ref o, .int (nI j), .int (nI b), .int w9, .null]) dX2_lapsesAhead_5 (Nat.le_of_ble_eq_true rfl) rfl (fun _ => rfl) (fun v1 ev1 => ?_)
  refine x_aload_n dX2_lapsesAhead_6 rfl ?_
  refine x_iload_n dX2_lapsesAhead_7 rfl ?_
  refine c_VR dX2_lapsesAhead_8 kX2_daysToLapse iX2_daysToLapse q404 (t_daysToLapse _ H (by omega)) H.ob rfl rfl rfl (Nat.le_of_ble_eq_true rfl) ⟨Nat.le_refl _, Nat.le_refl _⟩ ?_
  refine e_ist (lv' := fun w9 => [.ref o, .int (nI j), .int (nI b), .int v1, .int w9]) dX2_lapsesAhead_11 (Nat.le_of_ble_eq_true rfl) rfl (fun _ => rfl) (fun v2 ev2 => ?_)
  refine x_iload_n dX2_lapsesAhead_13 rfl ?_
  refine x_iload dX2_lapsesAhead_14 rfl ?_
  refine x_icmp_lt (tgt := 46) dX2_lapsesAhead_16 (by decide) (fun c16 => ?_) (fun c16 => ?_)
  · refine x_iconst (v := 1) dX2_lapsesAhead_46 rfl ?_
    refine x_goto (tgt := 51) dX2_lapsesAhead_47 (by decide) ?_
    refine x_iret dX2_lapsesAhead_51 (Or.inr ⟨rfl, by first | rfl | exact bI_z _⟩) rfl (Nat.le_refl _) ?_
    exact RO.mk (by subst_vars; simp [bI, sAhead, *])
  · refine x_iload_n dX2_lapsesAhead_19 rfl ?_
    refine x_iload dX2_lapsesAhead_20 rfl ?_
    refine x_icmp_ne (tgt := 50) dX2_lapsesAhead_22 (by decide) (fun c22 => ?_) (fun c22 => ?_)
    · refine x_iconst (v := 0) dX2_lapsesAhead_50 rfl ?_
      refine x_iret dX2_lapsesAhead_51 (Or.inr ⟨rfl, by first | rfl | exact bI_z _⟩) rfl (Nat.le_refl _) ?_
      exact RO.mk (by subst_vars; simp [bI, sAhead, *])
    · refine x_aload_n dX2_lapsesAhead_25 rfl ?_
      refine x_get dX2_lapsesAhead_26 fX2_25 H.ob rfl ?_
      refine x_get dX2_lapsesAhead_29 fX2_100 H.cl.ob rfl ?_
      refine x_iload_n dX2_lapsesAhead_32 rfl ?_
      refine e_ald dX2_lapsesAhead_33 H.cl.r6 (ax_ixN (j := j) (by omega) (Nat.le_of_ble_eq_true rfl)) ?_
      refine x_aload_n dX2_lapsesAhead_34 rfl ?_
      refine x_get dX2_lapsesAhead_35 fX2_25 H.ob rfl ?_
      refine x_get dX2_lapsesAhead_38 fX2_100 H.cl.ob rfl ?_
      refine x_iload_n dX2_lapsesAhead_41 rfl ?_
      refine e_ald dX2_lapsesAhead_42 H.cl.r6 (ax_ixN (j := b) (by omega) (Nat.le_of_ble_eq_true rfl)) ?_
      refine x_icmp_ge (tgt := 50) dX2_lapsesAhead_43 (by decide) (fun c43 => ?_) (fun c43 => ?_)
      · refine x_iconst (v := 0) dX2_lapsesAhead_50 rfl ?_
        refine x_iret dX2_lapsesAhead_51 (Or.inr ⟨rfl, by first | rfl | exact bI_z _⟩) rfl (Nat.le_refl _) ?_
        exact RO.mk (by subst_vars; simp [bI, sAhead, *])
      · refine x_iconst (v := 1) dX2_lapsesAhead_46 rfl ?_
        refine x_goto (tgt := 51) dX2_lapsesAhead_47 (by decide) ?_
        refine x_iret dX2_lapsesAhead_51 (Or.inr ⟨rfl, by first | rfl | exact bI_z _⟩) rfl (Nat.le_refl _) ?_
        exact RO.mk (by subst_vars; simp [bI, sAhead, *])

set_option maxRecDepth 100000 in
set_option maxHeartbeats 4000000 in
theorem L_firstFall {st : Nat → Nat} (d : Nat) {z : Nat} {h : Nat → Option va_E} {o : Nat} {σ : Sg} (H : OffAt h o σ) (hL : LOk σ) (hC : COk σ) (w : Int32) (hw : ¬ (w ≠ 0 ∧ w ≠ 1)) : ∀ (k : Nat) (i : Nat) (r q : Int32), i + k = nLo σ → lp (ffF σ) i k (r, q) = lp (ffF σ) 0 (nLo σ) (-6, -6) → Ev st (d + 6) yX2_firstFall cX2_firstFall 6 (some .int) (z, h) 0 0 (RO (some (.int (oNextFall σ w))) (z, h)) 21 [.ref o, .int w, .int r, .int q, .int (nI i), .null] [] (z, h) 0 0 := by
  intro k
  induction k with
  | zero =>
    intro i r q hik hR
    refine x_iload dX2_firstFall_21 rfl ?_
    refine x_aload_n dX2_firstFall_23 rfl ?_
    refine x_get dX2_firstFall_24 fX2_18 H.ob rfl ?_
    refine x_get dX2_firstFall_27 fX2_62 H.lo.ob rfl ?_
    have hl12 := hL.2
    rw [hL.1]
    refine x_icmp_ge (tgt := 70) dX2_firstFall_30 (by decide) (fun c30 => ?_) (fun c30 => absurd (nI_le (a := nLo σ) (b := i) (by omega) (by omega)) c30)
    refine x_iload_n dX2_firstFall_70 rfl ?_
    refine x_if_ne (tgt := 78) dX2_firstFall_71 (by decide) (fun c71 => ?_) (fun c71 => ?_)
    · refine x_iload_n dX2_firstFall_78 rfl ?_
      refine x_iret dX2_firstFall_79 (Or.inl rfl) rfl (Nat.le_refl _) ?_
      exact RO.mk (by have hw2 : ¬ (w ≠ 0 ∧ w ≠ 1) := hw; unfold oNextFall; rw [if_neg hw2]; dsimp only; rw [← hR, lp_0]; first | rw [if_pos c71] | rw [if_neg c71])
    · refine x_iload_n dX2_firstFall_74 rfl ?_
      refine x_goto (tgt := 79) dX2_firstFall_75 (by decide) ?_
      refine x_iret dX2_firstFall_79 (Or.inl rfl) rfl (Nat.le_refl _) ?_
      exact RO.mk (by have hw2 : ¬ (w ≠ 0 ∧ w ≠ 1) := hw; unfold oNextFall; rw [if_neg hw2]; dsimp only; rw [← hR, lp_0]; first | rw [if_pos c71] | rw [if_neg c71])
  | succ k ih =>
    intro i r q hik hR
    refine x_iload dX2_firstFall_21 rfl ?_
    refine x_aload_n dX2_firstFall_23 rfl ?_
    refine x_get dX2_firstFall_24 fX2_18 H.ob rfl ?_
    refine x_get dX2_firstFall_27 fX2_62 H.lo.ob rfl ?_
    have hl12 := hL.2
    rw [hL.1]
    refine x_icmp_ge (tgt := 70) dX2_firstFall_30 (by decide) (fun c30 => absurd c30 (nI_ge (a := i) (b := nLo σ) (by omega) (by omega))) (fun c30 => ?_)
    refine x_aload_n dX2_firstFall_33 rfl ?_
    refine x_iload dX2_firstFall_34 rfl ?_
    refine c_VR dX2_firstFall_36 kX2_daysToFall iX2_daysToFall q419 (t_daysToFall _ H hL hC _) H.ob rfl rfl rfl (Nat.le_of_ble_eq_true rfl) ⟨Nat.le_refl _, Nat.le_refl _⟩ ?_
    refine e_ist (lv' := fun w9 => [.ref o, .int w, .int r, .int q, .int (nI i), .int w9]) dX2_firstFall_39 (Nat.le_of_ble_eq_true rfl) rfl (fun _ => rfl) (fun v1 ev1 => ?_)
    refine x_iload dX2_firstFall_41 rfl ?_
    refine x_if_le (tgt := 64) dX2_firstFall_43 (by decide) (fun c43 => ?_) (fun c43 => ?_)
    · refine e_inc (lv' := fun w9 => [.ref o, .int w, .int r, .int q, .int w9, .int v1]) dX2_firstFall_64 rfl rfl (fun _ => rfl) (fun v2 ev2 => ?_)
      refine x_goto (tgt := 21) dX2_firstFall_67 (by decide) ?_
      obtain rfl := inc1 ev2
      refine x_forget (i := 5) (lv' := [.ref o, .int w, .int r, .int q, .int (nI (i + 1)), .null]) rfl ?_
      exact ih (i + 1) r q (by omega) (by rw [← hR, lp_s]; congr 1; subst_vars; simp [ffF, *])
    · refine x_iload_n dX2_firstFall_46 rfl ?_
      refine x_bipush (v := (-6)) dX2_firstFall_47 rfl ?_
      refine x_icmp_eq (tgt := 58) dX2_firstFall_49 (by decide) (fun c49 => ?_) (fun c49 => ?_)
      · refine x_iload dX2_firstFall_58 rfl ?_
        refine e_ist_n (lv' := fun w9 => [.ref o, .int w, .int w9, .int q, .int (nI i), .int v1]) dX2_firstFall_60 (Nat.le_of_ble_eq_true rfl) rfl (fun _ => rfl) (fun v3 ev3 => ?_)
        refine x_iload dX2_firstFall_61 rfl ?_
        refine e_ist_n (lv' := fun w9 => [.ref o, .int w, .int v3, .int w9, .int (nI i), .int v1]) dX2_firstFall_63 (Nat.le_of_ble_eq_true rfl) rfl (fun _ => rfl) (fun v4 ev4 => ?_)
        refine e_inc (lv' := fun w9 => [.ref o, .int w, .int v3, .int v4, .int w9, .int v1]) dX2_firstFall_64 rfl rfl (fun _ => rfl) (fun v5 ev5 => ?_)
        refine x_goto (tgt := 21) dX2_firstFall_67 (by decide) ?_
        obtain rfl := inc1 ev5
        refine x_forget (i := 5) (lv' := [.ref o, .int w, .int v3, .int v4, .int (nI (i + 1)), .null]) rfl ?_
        exact ih (i + 1) v3 v4 (by omega) (by rw [← hR, lp_s]; congr 1; subst_vars; simp [ffF, *])
      · refine x_iload dX2_firstFall_52 rfl ?_
        refine x_iload_n dX2_firstFall_54 rfl ?_
        refine x_icmp_ge (tgt := 64) dX2_firstFall_55 (by decide) (fun c55 => ?_) (fun c55 => ?_)
        · refine e_inc (lv' := fun w9 => [.ref o, .int w, .int r, .int q, .int w9, .int v1]) dX2_firstFall_64 rfl rfl (fun _ => rfl) (fun v6 ev6 => ?_)
          refine x_goto (tgt := 21) dX2_firstFall_67 (by decide) ?_
          obtain rfl := inc1 ev6
          refine x_forget (i := 5) (lv' := [.ref o, .int w, .int r, .int q, .int (nI (i + 1)), .null]) rfl ?_
          exact ih (i + 1) r q (by omega) (by rw [← hR, lp_s]; congr 1; subst_vars; simp [ffF, *])
        · refine x_iload dX2_firstFall_58 rfl ?_
          refine e_ist_n (lv' := fun w9 => [.ref o, .int w, .int w9, .int q, .int (nI i), .int v1]) dX2_firstFall_60 (Nat.le_of_ble_eq_true rfl) rfl (fun _ => rfl) (fun v7 ev7 => ?_)
          refine x_iload dX2_firstFall_61 rfl ?_
          refine e_ist_n (lv' := fun w9 => [.ref o, .int w, .int v7, .int w9, .int (nI i), .int v1]) dX2_firstFall_63 (Nat.le_of_ble_eq_true rfl) rfl (fun _ => rfl) (fun v8 ev8 => ?_)
          refine e_inc (lv' := fun w9 => [.ref o, .int w, .int v7, .int v8, .int w9, .int v1]) dX2_firstFall_64 rfl rfl (fun _ => rfl) (fun v9 ev9 => ?_)
          refine x_goto (tgt := 21) dX2_firstFall_67 (by decide) ?_
          obtain rfl := inc1 ev9
          refine x_forget (i := 5) (lv' := [.ref o, .int w, .int v7, .int v8, .int (nI (i + 1)), .null]) rfl ?_
          exact ih (i + 1) v7 v8 (by omega) (by rw [← hR, lp_s]; congr 1; subst_vars; simp [ffF, *])

set_option maxRecDepth 100000 in
set_option maxHeartbeats 4000000 in
theorem t_firstFall {st : Nat → Nat} (d : Nat) {z : Nat} {h : Nat → Option va_E} {o : Nat} {σ : Sg} (H : OffAt h o σ) (hL : LOk σ) (hC : COk σ) (w : Int32) : CT st (d + 6) yX2_firstFall cX2_firstFall 6 (some .int) [.ref o, .int w] (z, h) 0 0 (RO (some (.int (oNextFall σ w))) (z, h)) := by
  refine CT.of (lv := [.ref o, .int w, .null, .null, .null, .null]) (by decide) (Nat.le_of_ble_eq_true rfl) rfl rfl ?_
  refine x_iload_n dX2_firstFall_0 rfl ?_
  refine x_if_eq (tgt := 12) dX2_firstFall_1 (by decide) (fun c1 => ?_) (fun c1 => ?_)
  · refine x_bipush (v := (-6)) dX2_firstFall_12 rfl ?_
    refine e_ist_n (lv' := fun w9 => [.ref o, .int w, .int w9, .null, .null, .null]) dX2_firstFall_14 (Nat.le_of_ble_eq_true rfl) rfl (fun _ => rfl) (fun v1 ev1 => ?_)
    refine x_bipush (v := (-6)) dX2_firstFall_15 rfl ?_
    refine e_ist_n (lv' := fun w9 => [.ref o, .int w, .int v1, .int w9, .null, .null]) dX2_firstFall_17 (Nat.le_of_ble_eq_true rfl) rfl (fun _ => rfl) (fun v2 ev2 => ?_)
    refine x_iconst (v := 0) dX2_firstFall_18 rfl ?_
    refine e_ist (lv' := fun w9 => [.ref o, .int w, .int v1, .int v2, .int w9, .null]) dX2_firstFall_19 (Nat.le_of_ble_eq_true rfl) rfl (fun _ => rfl) (fun v3 ev3 => ?_)
    subst ev1 ev2 ev3
    exact L_firstFall d H hL hC w (by simp [*]) (nLo σ) 0 (-6) (-6) (by omega) rfl
  · refine x_iload_n dX2_firstFall_4 rfl ?_
    refine x_iconst (v := 1) dX2_firstFall_5 rfl ?_
    refine x_icmp_eq (tgt := 12) dX2_firstFall_6 (by decide) (fun c6 => ?_) (fun c6 => ?_)
    · refine x_bipush (v := (-6)) dX2_firstFall_12 rfl ?_
      refine e_ist_n (lv' := fun w9 => [.ref o, .int w, .int w9, .null, .null, .null]) dX2_firstFall_14 (Nat.le_of_ble_eq_true rfl) rfl (fun _ => rfl) (fun v4 ev4 => ?_)
      refine x_bipush (v := (-6)) dX2_firstFall_15 rfl ?_
      refine e_ist_n (lv' := fun w9 => [.ref o, .int w, .int v4, .int w9, .null, .null]) dX2_firstFall_17 (Nat.le_of_ble_eq_true rfl) rfl (fun _ => rfl) (fun v5 ev5 => ?_)
      refine x_iconst (v := 0) dX2_firstFall_18 rfl ?_
      refine e_ist (lv' := fun w9 => [.ref o, .int w, .int v4, .int v5, .int w9, .null]) dX2_firstFall_19 (Nat.le_of_ble_eq_true rfl) rfl (fun _ => rfl) (fun v6 ev6 => ?_)
      subst ev4 ev5 ev6
      exact L_firstFall d H hL hC w (by simp [*]) (nLo σ) 0 (-6) (-6) (by omega) rfl
    · refine x_bipush (v := (-2)) dX2_firstFall_9 rfl ?_
      refine x_iret dX2_firstFall_11 (Or.inl rfl) rfl (Nat.le_refl _) ?_
      exact RO.mk (by simp [oNextFall, *])

set_option maxRecDepth 100000 in
set_option maxHeartbeats 4000000 in
theorem L_firstLapse {st : Nat → Nat} (d : Nat) {z : Nat} {h : Nat → Option va_E} {o : Nat} {σ : Sg} (H : OffAt h o σ) (hL : LOk σ) (hC : COk σ) (w : Int32) (hw : ¬ (w ≠ 0 ∧ w ≠ 1)) : ∀ (k : Nat) (i : Nat) (r : Int32), i + k = nCl σ → (r = -6 ∨ ∃ b : Nat, b < nCl σ ∧ r = nI b) → lp (flF σ) i k r = lp (flF σ) 0 (nCl σ) (-6) → Ev st (d + 3) yX2_firstLapse cX2_firstLapse 4 (some .int) (z, h) 0 0 (RO (some (.int (oNextLapse σ w))) (z, h)) 17 [.ref o, .int w, .int r, .int (nI i)] [] (z, h) 0 0 := by
  intro k
  induction k with
  | zero =>
    intro i r hik hr hR
    refine x_iload_n dX2_firstLapse_17 rfl ?_
    refine x_aload_n dX2_firstLapse_18 rfl ?_
    refine x_get dX2_firstLapse_19 fX2_25 H.ob rfl ?_
    refine x_get dX2_firstLapse_22 fX2_96 H.cl.ob rfl ?_
    have hc30 := hC.2
    rw [hC.1]
    refine x_icmp_ge (tgt := 62) dX2_firstLapse_25 (by decide) (fun c25 => ?_) (fun c25 => absurd (nI_le (a := nCl σ) (b := i) (by omega) (by omega)) c25)
    refine x_iload_n dX2_firstLapse_62 rfl ?_
    refine x_iconst (v := 1) dX2_firstLapse_63 rfl ?_
    refine x_icmp_eq (tgt := 73) dX2_firstLapse_64 (by decide) (fun c64 => ?_) (fun c64 => ?_)
    · refine x_iload_n dX2_firstLapse_73 rfl ?_
      refine x_goto (tgt := 82) dX2_firstLapse_74 (by decide) ?_
      refine x_iret dX2_firstLapse_82 (Or.inl rfl) rfl (Nat.le_refl _) ?_
      exact RO.mk (by have hw2 : ¬ (w ≠ 0 ∧ w ≠ 1) := hw; unfold oNextLapse; rw [if_neg hw2]; dsimp only; rw [← hR, lp_0]; first | rw [if_pos c64] | (rw [if_neg c64]; first | (rw [if_pos c70]; done) | (rw [if_neg c70, hbc]; done)))
    · refine x_iload_n dX2_firstLapse_67 rfl ?_
      refine x_bipush (v := (-6)) dX2_firstLapse_68 rfl ?_
      refine x_icmp_ne (tgt := 77) dX2_firstLapse_70 (by decide) (fun c70 => ?_) (fun c70 => ?_)
      · obtain ⟨b, hb, rfl⟩ : ∃ b : Nat, b < nCl σ ∧ r = nI b := hr.resolve_left c70
        have hbc := nI_cl (j := b) (by have := hC.2; omega)
        have hb30 := hC.2
        refine x_aload_n dX2_firstLapse_77 rfl ?_
        refine x_iload_n dX2_firstLapse_78 rfl ?_
        refine c_VR dX2_firstLapse_79 kX2_daysToLapse iX2_daysToLapse q404 (t_daysToLapse _ H (by omega)) H.ob rfl rfl rfl (Nat.le_of_ble_eq_true rfl) ⟨Nat.le_refl _, Nat.le_refl _⟩ ?_
        refine x_iret dX2_firstLapse_82 (Or.inl rfl) rfl (Nat.le_refl _) ?_
        exact RO.mk (by have hw2 : ¬ (w ≠ 0 ∧ w ≠ 1) := hw; unfold oNextLapse; rw [if_neg hw2]; dsimp only; rw [← hR, lp_0]; first | rw [if_pos c64] | (rw [if_neg c64]; first | (rw [if_pos c70]; done) | (rw [if_neg c70, hbc]; done)))
      · refine x_iload_n dX2_firstLapse_73 rfl ?_
        refine x_goto (tgt := 82) dX2_firstLapse_74 (by decide) ?_
        refine x_iret dX2_firstLapse_82 (Or.inl rfl) rfl (Nat.le_refl _) ?_
        exact RO.mk (by have hw2 : ¬ (w ≠ 0 ∧ w ≠ 1) := hw; unfold oNextLapse; rw [if_neg hw2]; dsimp only; rw [← hR, lp_0]; first | rw [if_pos c64] | (rw [if_neg c64]; first | (rw [if_pos c70]; done) | (rw [if_neg c70, hbc]; done)))
  | succ k ih =>
    intro i r hik hr hR
    refine x_iload_n dX2_firstLapse_17 rfl ?_
    refine x_aload_n dX2_firstLapse_18 rfl ?_
    refine x_get dX2_firstLapse_19 fX2_25 H.ob rfl ?_
    refine x_get dX2_firstLapse_22 fX2_96 H.cl.ob rfl ?_
    have hc30 := hC.2
    rw [hC.1]
    refine x_icmp_ge (tgt := 62) dX2_firstLapse_25 (by decide) (fun c25 => absurd c25 (nI_ge (a := i) (b := nCl σ) (by omega) (by omega))) (fun c25 => ?_)
    refine x_aload_n dX2_firstLapse_28 rfl ?_
    refine x_get dX2_firstLapse_29 fX2_25 H.ob rfl ?_
    refine x_iload_n dX2_firstLapse_32 rfl ?_
    refine c_VR dX2_firstLapse_33 kX0_isOpen iX0_isOpen q431 (t_isOpen _ H.cl (by omega)) H.cl.ob rfl rfl rfl (Nat.le_of_ble_eq_true rfl) ⟨Nat.le_refl _, Nat.le_refl _⟩ ?_
    refine x_if_eq (tgt := 56) dX2_firstLapse_36 (by decide) (fun c36 => ?_) (fun c36 => ?_)
    · have c36 := bI_eq c36
      refine e_inc (lv' := fun w9 => [.ref o, .int w, .int r, .int w9]) dX2_firstLapse_56 rfl rfl (fun _ => rfl) (fun v1 ev1 => ?_)
      refine x_goto (tgt := 17) dX2_firstLapse_59 (by decide) ?_
      obtain rfl := inc1 ev1
      exact ih (i + 1) r (by omega) hr (by rw [← hR, lp_s]; congr 1; subst_vars; simp [flF, *])
    · have c36 := bI_ne c36
      refine x_iload_n dX2_firstLapse_39 rfl ?_
      refine x_bipush (v := (-6)) dX2_firstLapse_40 rfl ?_
      refine x_icmp_eq (tgt := 54) dX2_firstLapse_42 (by decide) (fun c42 => ?_) (fun c42 => ?_)
      · refine x_iload_n dX2_firstLapse_54 rfl ?_
        refine e_ist_n (lv' := fun w9 => [.ref o, .int w, .int w9, .int (nI i)]) dX2_firstLapse_55 (Nat.le_of_ble_eq_true rfl) rfl (fun _ => rfl) (fun v2 ev2 => ?_)
        refine e_inc (lv' := fun w9 => [.ref o, .int w, .int v2, .int w9]) dX2_firstLapse_56 rfl rfl (fun _ => rfl) (fun v3 ev3 => ?_)
        refine x_goto (tgt := 17) dX2_firstLapse_59 (by decide) ?_
        obtain rfl := inc1 ev3
        exact ih (i + 1) v2 (by omega) (Or.inr ⟨i, by omega, ev2⟩) (by rw [← hR, lp_s]; congr 1; subst_vars; simp [flF, *])
      · obtain ⟨b, hb, rfl⟩ : ∃ b : Nat, b < nCl σ ∧ r = nI b := hr.resolve_left c42
        have hbc := nI_cl (j := b) (by omega)
        refine x_aload_n dX2_firstLapse_45 rfl ?_
        refine x_iload_n dX2_firstLapse_46 rfl ?_
        refine x_iload_n dX2_firstLapse_47 rfl ?_
        refine c_VR dX2_firstLapse_48 kX2_lapsesAhead iX2_lapsesAhead q435 (t_lapsesAhead _ H hL hC (by omega) (by omega)) H.ob rfl rfl rfl (Nat.le_of_ble_eq_true rfl) ⟨Nat.le_refl _, Nat.le_refl _⟩ ?_
        refine x_if_eq (tgt := 56) dX2_firstLapse_51 (by decide) (fun c51 => ?_) (fun c51 => ?_)
        · have c51 := bI_eq c51
          refine e_inc (lv' := fun w9 => [.ref o, .int w, .int (nI b), .int w9]) dX2_firstLapse_56 rfl rfl (fun _ => rfl) (fun v4 ev4 => ?_)
          refine x_goto (tgt := 17) dX2_firstLapse_59 (by decide) ?_
          obtain rfl := inc1 ev4
          exact ih (i + 1) (nI b) (by omega) (Or.inr ⟨b, hb, rfl⟩) (by rw [← hR, lp_s]; congr 1; subst_vars; simp [flF, *])
        · have c51 := bI_ne c51
          refine x_iload_n dX2_firstLapse_54 rfl ?_
          refine e_ist_n (lv' := fun w9 => [.ref o, .int w, .int w9, .int (nI i)]) dX2_firstLapse_55 (Nat.le_of_ble_eq_true rfl) rfl (fun _ => rfl) (fun v5 ev5 => ?_)
          refine e_inc (lv' := fun w9 => [.ref o, .int w, .int v5, .int w9]) dX2_firstLapse_56 rfl rfl (fun _ => rfl) (fun v6 ev6 => ?_)
          refine x_goto (tgt := 17) dX2_firstLapse_59 (by decide) ?_
          obtain rfl := inc1 ev6
          exact ih (i + 1) v5 (by omega) (Or.inr ⟨i, by omega, ev5⟩) (by rw [← hR, lp_s]; congr 1; subst_vars; simp [flF, *])

set_option maxRecDepth 100000 in
set_option maxHeartbeats 4000000 in
theorem t_firstLapse {st : Nat → Nat} (d : Nat) {z : Nat} {h : Nat → Option va_E} {o : Nat} {σ : Sg} (H : OffAt h o σ) (hL : LOk σ) (hC : COk σ) (w : Int32) : CT st (d + 3) yX2_firstLapse cX2_firstLapse 4 (some .int) [.ref o, .int w] (z, h) 0 0 (RO (some (.int (oNextLapse σ w))) (z, h)) := by
  refine CT.of (lv := [.ref o, .int w, .null, .null]) (by decide) (Nat.le_of_ble_eq_true rfl) rfl rfl ?_
  refine x_iload_n dX2_firstLapse_0 rfl ?_
  refine x_if_eq (tgt := 12) dX2_firstLapse_1 (by decide) (fun c1 => ?_) (fun c1 => ?_)
  · refine x_bipush (v := (-6)) dX2_firstLapse_12 rfl ?_
    refine e_ist_n (lv' := fun w9 => [.ref o, .int w, .int w9, .null]) dX2_firstLapse_14 (Nat.le_of_ble_eq_true rfl) rfl (fun _ => rfl) (fun v1 ev1 => ?_)
    refine x_iconst (v := 0) dX2_firstLapse_15 rfl ?_
    refine e_ist_n (lv' := fun w9 => [.ref o, .int w, .int v1, .int w9]) dX2_firstLapse_16 (Nat.le_of_ble_eq_true rfl) rfl (fun _ => rfl) (fun v2 ev2 => ?_)
    subst ev1 ev2
    exact L_firstLapse d H hL hC w (by simp [*]) (nCl σ) 0 (-6) (by omega) (Or.inl rfl) rfl
  · refine x_iload_n dX2_firstLapse_4 rfl ?_
    refine x_iconst (v := 1) dX2_firstLapse_5 rfl ?_
    refine x_icmp_eq (tgt := 12) dX2_firstLapse_6 (by decide) (fun c6 => ?_) (fun c6 => ?_)
    · refine x_bipush (v := (-6)) dX2_firstLapse_12 rfl ?_
      refine e_ist_n (lv' := fun w9 => [.ref o, .int w, .int w9, .null]) dX2_firstLapse_14 (Nat.le_of_ble_eq_true rfl) rfl (fun _ => rfl) (fun v3 ev3 => ?_)
      refine x_iconst (v := 0) dX2_firstLapse_15 rfl ?_
      refine e_ist_n (lv' := fun w9 => [.ref o, .int w, .int v3, .int w9]) dX2_firstLapse_16 (Nat.le_of_ble_eq_true rfl) rfl (fun _ => rfl) (fun v4 ev4 => ?_)
      subst ev3 ev4
      exact L_firstLapse d H hL hC w (by simp [*]) (nCl σ) 0 (-6) (by omega) (Or.inl rfl) rfl
    · refine x_bipush (v := (-2)) dX2_firstLapse_9 rfl ?_
      refine x_iret dX2_firstLapse_11 (Or.inl rfl) rfl (Nat.le_refl _) ?_
      exact RO.mk (by simp [oNextLapse, *])

set_option maxRecDepth 100000 in
set_option maxHeartbeats 4000000 in
theorem t_aboutLot {st : Nat → Nat} (d : Nat) {z : Nat} {h : Nat → Option va_E} {o : Nat} {σ : Sg} (H : OffAt h o σ) (hL : LOk σ) (hC : COk σ) (x w : Int32) : CT st (d + 5) yX2_aboutLot cX2_aboutLot 3 (some .int) [.ref o, .int x, .int w] (z, h) 0 0 (RO (some (.int (oOf σ x w))) (z, h)) := by
  refine CT.of (lv := [.ref o, .int x, .int w]) (by decide) (Nat.le_of_ble_eq_true rfl) rfl rfl ?_
  refine x_aload_n dX2_aboutLot_0 rfl ?_
  refine x_get dX2_aboutLot_1 fX2_18 H.ob rfl ?_
  refine x_iload_n dX2_aboutLot_4 rfl ?_
  refine c_VR dX2_aboutLot_5 kX1_exists iX1_exists q317 (t_Lexists _ H.lo _) H.lo.ob rfl rfl rfl (Nat.le_of_ble_eq_true rfl) ⟨Nat.le_refl _, Nat.le_refl _⟩ ?_
  refine x_if_ne (tgt := 13) dX2_aboutLot_8 (by decide) (fun c8 => ?_) (fun c8 => ?_)
  · have c8 := bI_ne c8
    obtain ⟨j, -, hj, rfl⟩ := ax_ix_of hL.1 hL.2 (Nat.le_of_ble_eq_true rfl) c8
    have hj12 := hL.2
    have hcl := nI_cl (j := j) (by omega)
    refine x_iload_n dX2_aboutLot_13 rfl ?_
    by_cases k14_0 : w = 0
    · subst k14_0
      refine x_tableIn (off := 42) (tgt := 56) dX2_aboutLot_14 (by decide) (by decide) rfl (by decide) ?_
      refine x_aload_n dX2_aboutLot_56 rfl ?_
      refine x_get dX2_aboutLot_57 fX2_18 H.ob rfl ?_
      refine x_get dX2_aboutLot_60 fX2_65 H.lo.ob rfl ?_
      refine x_iload_n dX2_aboutLot_63 rfl ?_
      refine e_ald dX2_aboutLot_64 H.lo.r1 (ax_ixN (j := j) (by omega) (Nat.le_of_ble_eq_true rfl)) ?_
      refine x_iret dX2_aboutLot_65 (Or.inl rfl) rfl (Nat.le_refl _) ?_
      exact RO.mk (by simp [oOf, *])
    by_cases k14_1 : w = 1
    · subst k14_1
      refine x_tableIn (off := 52) (tgt := 66) dX2_aboutLot_14 (by decide) (by decide) rfl (by decide) ?_
      refine x_aload_n dX2_aboutLot_66 rfl ?_
      refine x_get dX2_aboutLot_67 fX2_18 H.ob rfl ?_
      refine x_get dX2_aboutLot_70 fX2_72 H.lo.ob rfl ?_
      refine x_iload_n dX2_aboutLot_73 rfl ?_
      refine e_ald dX2_aboutLot_74 H.lo.r2 (ax_ixN (j := j) (by omega) (Nat.le_of_ble_eq_true rfl)) ?_
      refine x_iret dX2_aboutLot_75 (Or.inl rfl) rfl (Nat.le_refl _) ?_
      exact RO.mk (by simp [oOf, *])
    by_cases k14_2 : w = 2
    · subst k14_2
      refine x_tableIn (off := 62) (tgt := 76) dX2_aboutLot_14 (by decide) (by decide) rfl (by decide) ?_
      refine x_aload_n dX2_aboutLot_76 rfl ?_
      refine x_get dX2_aboutLot_77 fX2_18 H.ob rfl ?_
      refine x_get dX2_aboutLot_80 fX2_175 H.lo.ob rfl ?_
      refine x_iload_n dX2_aboutLot_83 rfl ?_
      refine e_ald dX2_aboutLot_84 H.lo.r3 (ax_ixN (j := j) (by omega) (Nat.le_of_ble_eq_true rfl)) ?_
      refine x_iret dX2_aboutLot_85 (Or.inl rfl) rfl (Nat.le_refl _) ?_
      exact RO.mk (by simp [oOf, *])
    by_cases k14_3 : w = 3
    · subst k14_3
      refine x_tableIn (off := 72) (tgt := 86) dX2_aboutLot_14 (by decide) (by decide) rfl (by decide) ?_
      refine x_aload_n dX2_aboutLot_86 rfl ?_
      refine x_get dX2_aboutLot_87 fX2_18 H.ob rfl ?_
      refine x_get dX2_aboutLot_90 fX2_106 H.lo.ob rfl ?_
      refine x_iload_n dX2_aboutLot_93 rfl ?_
      refine e_ald dX2_aboutLot_94 H.lo.r4 (ax_ixN (j := j) (by omega) (Nat.le_of_ble_eq_true rfl)) ?_
      refine x_iret dX2_aboutLot_95 (Or.inl rfl) rfl (Nat.le_refl _) ?_
      exact RO.mk (by simp [oOf, *])
    by_cases k14_4 : w = 4
    · subst k14_4
      refine x_tableIn (off := 82) (tgt := 96) dX2_aboutLot_14 (by decide) (by decide) rfl (by decide) ?_
      refine x_aload_n dX2_aboutLot_96 rfl ?_
      refine x_get dX2_aboutLot_97 fX2_25 H.ob rfl ?_
      refine x_iload_n dX2_aboutLot_100 rfl ?_
      refine c_VR dX2_aboutLot_101 kX0_standingTo iX0_standingTo q321 (t_standingTo _ H.cl hC _) H.cl.ob rfl rfl rfl (Nat.le_of_ble_eq_true rfl) ⟨Nat.le_refl _, Nat.le_refl _⟩ ?_
      refine x_iret dX2_aboutLot_104 (Or.inl rfl) rfl (Nat.le_refl _) ?_
      exact RO.mk (by simp [oOf, *])
    by_cases k14_5 : w = 5
    · subst k14_5
      refine x_tableIn (off := 91) (tgt := 105) dX2_aboutLot_14 (by decide) (by decide) rfl (by decide) ?_
      refine x_aload_n dX2_aboutLot_105 rfl ?_
      refine x_get dX2_aboutLot_106 fX2_25 H.ob rfl ?_
      refine x_iload_n dX2_aboutLot_109 rfl ?_
      refine c_VR dX2_aboutLot_110 kX0_toLot iX0_toLot q330 (t_toLot _ H.cl hC _) H.cl.ob rfl rfl rfl (Nat.le_of_ble_eq_true rfl) ⟨Nat.le_refl _, Nat.le_refl _⟩ ?_
      refine x_iret dX2_aboutLot_113 (Or.inl rfl) rfl (Nat.le_refl _) ?_
      exact RO.mk (by simp [oOf, *])
    by_cases k14_6 : w = 6
    · subst k14_6
      refine x_tableIn (off := 100) (tgt := 114) dX2_aboutLot_14 (by decide) (by decide) rfl (by decide) ?_
      refine x_aload_n dX2_aboutLot_114 rfl ?_
      refine x_get dX2_aboutLot_115 fX2_25 H.ob rfl ?_
      refine x_aload_n dX2_aboutLot_118 rfl ?_
      refine x_get dX2_aboutLot_119 fX2_25 H.ob rfl ?_
      refine x_iload_n dX2_aboutLot_122 rfl ?_
      refine c_VR dX2_aboutLot_123 kX0_upheldTo iX0_upheldTo q331 (t_upheldTo _ H.cl hC _) H.cl.ob rfl rfl rfl (Nat.le_of_ble_eq_true rfl) ⟨Nat.le_refl _, Nat.le_refl _⟩ ?_
      refine c_VR dX2_aboutLot_126 kX0_nearestLine iX0_nearestLine q335 (t_nearestLine _ H.cl hC _) H.cl.ob rfl rfl rfl (Nat.le_of_ble_eq_true rfl) ⟨Nat.le_refl _, Nat.le_refl _⟩ ?_
      refine x_iret dX2_aboutLot_129 (Or.inl rfl) rfl (Nat.le_refl _) ?_
      exact RO.mk (by simp [oOf, *])
    refine x_tableOut (tgt := 130) dX2_aboutLot_14 (sw_out fun n h1 h2 => by rcases (show n = 0 ∨ n = 1 ∨ n = 2 ∨ n = 3 ∨ n = 4 ∨ n = 5 ∨ n = 6 by omega) with rfl | rfl | rfl | rfl | rfl | rfl | rfl; exact k14_0; exact k14_1; exact k14_2; exact k14_3; exact k14_4; exact k14_5; exact k14_6) (by decide) ?_
    refine x_bipush (v := (-2)) dX2_aboutLot_130 rfl ?_
    refine x_iret dX2_aboutLot_132 (Or.inl rfl) rfl (Nat.le_refl _) ?_
    exact RO.mk (by simp [oOf, *])
  · have c8 := bI_eq c8
    refine x_iconst (v := (-1)) dX2_aboutLot_11 rfl ?_
    refine x_iret dX2_aboutLot_12 (Or.inl rfl) rfl (Nat.le_refl _) ?_
    exact RO.mk (by simp [oOf, *])

set_option maxRecDepth 100000 in
set_option maxHeartbeats 4000000 in
theorem t_aboutClaim {st : Nat → Nat} (d : Nat) {z : Nat} {h : Nat → Option va_E} {o : Nat} {σ : Sg} (H : OffAt h o σ) (hL : LOk σ) (hC : COk σ) (x w : Int32) : CT st (d + 2) yX2_aboutClaim cX2_aboutClaim 3 (some .int) [.ref o, .int x, .int w] (z, h) 0 0 (RO (some (.int (oOfClaim σ x w))) (z, h)) := by
  refine CT.of (lv := [.ref o, .int x, .int w]) (by decide) (Nat.le_of_ble_eq_true rfl) rfl rfl ?_
  refine x_aload_n dX2_aboutClaim_0 rfl ?_
  refine x_get dX2_aboutClaim_1 fX2_25 H.ob rfl ?_
  refine x_iload_n dX2_aboutClaim_4 rfl ?_
  refine c_VR dX2_aboutClaim_5 kX0_exists iX0_exists q372 (t_Cexists _ H.cl _) H.cl.ob rfl rfl rfl (Nat.le_of_ble_eq_true rfl) ⟨Nat.le_refl _, Nat.le_refl _⟩ ?_
  refine x_if_ne (tgt := 13) dX2_aboutClaim_8 (by decide) (fun c8 => ?_) (fun c8 => ?_)
  · have c8 := bI_ne c8
    obtain ⟨j, -, hj, rfl⟩ := ax_ix_of hC.1 hC.2 (Nat.le_of_ble_eq_true rfl) c8
    have hj30 := hC.2
    have hcl := nI_cl (j := j) (by omega)
    refine x_iload_n dX2_aboutClaim_13 rfl ?_
    by_cases k14_0 : w = 0
    · subst k14_0
      refine x_tableIn (off := 42) (tgt := 56) dX2_aboutClaim_14 (by decide) (by decide) rfl (by decide) ?_
      refine x_aload_n dX2_aboutClaim_56 rfl ?_
      refine x_get dX2_aboutClaim_57 fX2_25 H.ob rfl ?_
      refine x_get dX2_aboutClaim_60 fX2_97 H.cl.ob rfl ?_
      refine x_iload_n dX2_aboutClaim_63 rfl ?_
      refine e_ald dX2_aboutClaim_64 H.cl.r5 (ax_ixN (j := j) (by omega) (Nat.le_of_ble_eq_true rfl)) ?_
      refine x_iret dX2_aboutClaim_65 (Or.inl rfl) rfl (Nat.le_refl _) ?_
      exact RO.mk (by simp [oOfClaim, *])
    by_cases k14_1 : w = 1
    · subst k14_1
      refine x_tableIn (off := 52) (tgt := 66) dX2_aboutClaim_14 (by decide) (by decide) rfl (by decide) ?_
      refine x_aload_n dX2_aboutClaim_66 rfl ?_
      refine x_get dX2_aboutClaim_67 fX2_25 H.ob rfl ?_
      refine x_get dX2_aboutClaim_70 fX2_100 H.cl.ob rfl ?_
      refine x_iload_n dX2_aboutClaim_73 rfl ?_
      refine e_ald dX2_aboutClaim_74 H.cl.r6 (ax_ixN (j := j) (by omega) (Nat.le_of_ble_eq_true rfl)) ?_
      refine x_iret dX2_aboutClaim_75 (Or.inl rfl) rfl (Nat.le_refl _) ?_
      exact RO.mk (by simp [oOfClaim, *])
    by_cases k14_2 : w = 2
    · subst k14_2
      refine x_tableIn (off := 62) (tgt := 76) dX2_aboutClaim_14 (by decide) (by decide) rfl (by decide) ?_
      refine x_aload_n dX2_aboutClaim_76 rfl ?_
      refine x_get dX2_aboutClaim_77 fX2_25 H.ob rfl ?_
      refine x_get dX2_aboutClaim_80 fX2_103 H.cl.ob rfl ?_
      refine x_iload_n dX2_aboutClaim_83 rfl ?_
      refine e_ald dX2_aboutClaim_84 H.cl.r7 (ax_ixN (j := j) (by omega) (Nat.le_of_ble_eq_true rfl)) ?_
      refine x_iret dX2_aboutClaim_85 (Or.inl rfl) rfl (Nat.le_refl _) ?_
      exact RO.mk (by simp [oOfClaim, *])
    by_cases k14_3 : w = 3
    · subst k14_3
      refine x_tableIn (off := 72) (tgt := 86) dX2_aboutClaim_14 (by decide) (by decide) rfl (by decide) ?_
      refine x_aload_n dX2_aboutClaim_86 rfl ?_
      refine x_get dX2_aboutClaim_87 fX2_25 H.ob rfl ?_
      refine x_get dX2_aboutClaim_90 fX2_116 H.cl.ob rfl ?_
      refine x_iload_n dX2_aboutClaim_93 rfl ?_
      refine e_ald dX2_aboutClaim_94 H.cl.r8 (ax_ixN (j := j) (by omega) (Nat.le_of_ble_eq_true rfl)) ?_
      refine x_iret dX2_aboutClaim_95 (Or.inl rfl) rfl (Nat.le_refl _) ?_
      exact RO.mk (by simp [oOfClaim, *])
    by_cases k14_4 : w = 4
    · subst k14_4
      refine x_tableIn (off := 82) (tgt := 96) dX2_aboutClaim_14 (by decide) (by decide) rfl (by decide) ?_
      refine x_aload_n dX2_aboutClaim_96 rfl ?_
      refine x_get dX2_aboutClaim_97 fX2_25 H.ob rfl ?_
      refine x_get dX2_aboutClaim_100 fX2_128 H.cl.ob rfl ?_
      refine x_iload_n dX2_aboutClaim_103 rfl ?_
      refine e_ald dX2_aboutClaim_104 H.cl.r9 (ax_ixN (j := j) (by omega) (Nat.le_of_ble_eq_true rfl)) ?_
      refine x_iret dX2_aboutClaim_105 (Or.inl rfl) rfl (Nat.le_refl _) ?_
      exact RO.mk (by simp [oOfClaim, *])
    by_cases k14_5 : w = 5
    · subst k14_5
      refine x_tableIn (off := 92) (tgt := 106) dX2_aboutClaim_14 (by decide) (by decide) rfl (by decide) ?_
      refine x_aload_n dX2_aboutClaim_106 rfl ?_
      refine x_get dX2_aboutClaim_107 fX2_25 H.ob rfl ?_
      refine x_get dX2_aboutClaim_110 fX2_125 H.cl.ob rfl ?_
      refine x_iload_n dX2_aboutClaim_113 rfl ?_
      refine e_ald dX2_aboutClaim_114 H.cl.r10 (ax_ixN (j := j) (by omega) (Nat.le_of_ble_eq_true rfl)) ?_
      refine x_iret dX2_aboutClaim_115 (Or.inl rfl) rfl (Nat.le_refl _) ?_
      exact RO.mk (by simp [oOfClaim, *])
    by_cases k14_6 : w = 6
    · subst k14_6
      refine x_tableIn (off := 102) (tgt := 116) dX2_aboutClaim_14 (by decide) (by decide) rfl (by decide) ?_
      refine x_aload_n dX2_aboutClaim_116 rfl ?_
      refine x_get dX2_aboutClaim_117 fX2_25 H.ob rfl ?_
      refine x_get dX2_aboutClaim_120 fX2_162 H.cl.ob rfl ?_
      refine x_iload_n dX2_aboutClaim_123 rfl ?_
      refine e_ald dX2_aboutClaim_124 H.cl.r11 (ax_ixN (j := j) (by omega) (Nat.le_of_ble_eq_true rfl)) ?_
      refine x_iret dX2_aboutClaim_125 (Or.inl rfl) rfl (Nat.le_refl _) ?_
      exact RO.mk (by simp [oOfClaim, *])
    refine x_tableOut (tgt := 126) dX2_aboutClaim_14 (sw_out fun n h1 h2 => by rcases (show n = 0 ∨ n = 1 ∨ n = 2 ∨ n = 3 ∨ n = 4 ∨ n = 5 ∨ n = 6 by omega) with rfl | rfl | rfl | rfl | rfl | rfl | rfl; exact k14_0; exact k14_1; exact k14_2; exact k14_3; exact k14_4; exact k14_5; exact k14_6) (by decide) ?_
    refine x_bipush (v := (-2)) dX2_aboutClaim_126 rfl ?_
    refine x_iret dX2_aboutClaim_128 (Or.inl rfl) rfl (Nat.le_refl _) ?_
    exact RO.mk (by simp [oOfClaim, *])
  · have c8 := bI_eq c8
    refine x_iconst (v := (-1)) dX2_aboutClaim_11 rfl ?_
    refine x_iret dX2_aboutClaim_12 (Or.inl rfl) rfl (Nat.le_refl _) ?_
    exact RO.mk (by simp [oOfClaim, *])

set_option maxRecDepth 100000 in
set_option maxHeartbeats 4000000 in
theorem t_aboutHeir {st : Nat → Nat} (d : Nat) {z : Nat} {h : Nat → Option va_E} {o : Nat} {σ : Sg} (H : OffAt h o σ) (hL : LOk σ) (hC : COk σ) (x w : Int32) : CT st (d + 4) yX2_aboutHeir cX2_aboutHeir 3 (some .int) [.ref o, .int x, .int w] (z, h) 0 0 (RO (some (.int (oHeir σ x w))) (z, h)) := by
  refine CT.of (lv := [.ref o, .int x, .int w]) (by decide) (Nat.le_of_ble_eq_true rfl) rfl rfl ?_
  refine x_iload_n dX2_aboutHeir_0 rfl ?_
  refine c_SR dX2_aboutHeir_1 kX2_isHeir q349 q348 (t_isHeir _ _) rfl rfl (Nat.le_of_ble_eq_true rfl) ⟨Nat.le_refl _, Nat.le_refl _⟩ ?_
  refine x_if_ne (tgt := 9) dX2_aboutHeir_4 (by decide) (fun c4 => ?_) (fun c4 => ?_)
  · have c4 := bI_ne c4
    refine x_iload_n dX2_aboutHeir_9 rfl ?_
    by_cases k10_0 : w = 0
    · subst k10_0
      refine x_tableIn (off := 30) (tgt := 40) dX2_aboutHeir_10 (by decide) (by decide) rfl (by decide) ?_
      refine x_aload_n dX2_aboutHeir_40 rfl ?_
      refine x_iload_n dX2_aboutHeir_41 rfl ?_
      refine c_VR dX2_aboutHeir_42 kX2_purse iX2_purse q351 (t_purse _ H hL hC _) H.ob rfl rfl rfl (Nat.le_of_ble_eq_true rfl) ⟨Nat.le_refl _, Nat.le_refl _⟩ ?_
      refine x_iret dX2_aboutHeir_45 (Or.inl rfl) rfl (Nat.le_refl _) ?_
      exact RO.mk (by simp [oHeir, *])
    by_cases k10_1 : w = 1
    · subst k10_1
      refine x_tableIn (off := 36) (tgt := 46) dX2_aboutHeir_10 (by decide) (by decide) rfl (by decide) ?_
      refine x_aload_n dX2_aboutHeir_46 rfl ?_
      refine x_get dX2_aboutHeir_47 fX2_25 H.ob rfl ?_
      refine x_iload_n dX2_aboutHeir_50 rfl ?_
      refine c_VR dX2_aboutHeir_51 kX0_ofHeir iX0_ofHeir q355 (t_ofHeir _ H.cl hC _) H.cl.ob rfl rfl rfl (Nat.le_of_ble_eq_true rfl) ⟨Nat.le_refl _, Nat.le_refl _⟩ ?_
      refine x_iret dX2_aboutHeir_54 (Or.inl rfl) rfl (Nat.le_refl _) ?_
      exact RO.mk (by simp [oHeir, *])
    by_cases k10_2 : w = 2
    · subst k10_2
      refine x_tableIn (off := 45) (tgt := 55) dX2_aboutHeir_10 (by decide) (by decide) rfl (by decide) ?_
      refine x_aload_n dX2_aboutHeir_55 rfl ?_
      refine x_get dX2_aboutHeir_56 fX2_25 H.ob rfl ?_
      refine x_iload_n dX2_aboutHeir_59 rfl ?_
      refine c_VR dX2_aboutHeir_60 kX0_ofHeir iX0_ofHeir q355 (t_ofHeir _ H.cl hC _) H.cl.ob rfl rfl rfl (Nat.le_of_ble_eq_true rfl) ⟨Nat.le_refl _, Nat.le_refl _⟩ ?_
      refine x_aload_n dX2_aboutHeir_63 rfl ?_
      refine x_get dX2_aboutHeir_64 fX2_25 H.ob rfl ?_
      refine c_VR dX2_aboutHeir_67 kX0_standing iX0_standing q234 (t_standing _ H.cl hC) H.cl.ob rfl rfl rfl (Nat.le_of_ble_eq_true rfl) ⟨Nat.le_refl _, Nat.le_refl _⟩ ?_
      refine x_iand dX2_aboutHeir_70 ?_
      refine x_iret dX2_aboutHeir_71 (Or.inl rfl) rfl (Nat.le_refl _) ?_
      exact RO.mk (by simp [oHeir, *])
    by_cases k10_3 : w = 3
    · subst k10_3
      refine x_tableIn (off := 62) (tgt := 72) dX2_aboutHeir_10 (by decide) (by decide) rfl (by decide) ?_
      refine x_aload_n dX2_aboutHeir_72 rfl ?_
      refine x_get dX2_aboutHeir_73 fX2_25 H.ob rfl ?_
      refine x_get dX2_aboutHeir_76 fX2_100 H.cl.ob rfl ?_
      refine x_aload_n dX2_aboutHeir_79 rfl ?_
      refine x_get dX2_aboutHeir_80 fX2_25 H.ob rfl ?_
      refine x_iload_n dX2_aboutHeir_83 rfl ?_
      refine c_VR dX2_aboutHeir_84 kX0_ofHeir iX0_ofHeir q355 (t_ofHeir _ H.cl hC _) H.cl.ob rfl rfl rfl (Nat.le_of_ble_eq_true rfl) ⟨Nat.le_refl _, Nat.le_refl _⟩ ?_
      refine x_aload_n dX2_aboutHeir_87 rfl ?_
      refine x_get dX2_aboutHeir_88 fX2_25 H.ob rfl ?_
      refine c_VR dX2_aboutHeir_91 kX0_thatBrought iX0_thatBrought q359 (t_thatBrought _ H.cl hC) H.cl.ob rfl rfl rfl (Nat.le_of_ble_eq_true rfl) ⟨Nat.le_refl _, Nat.le_refl _⟩ ?_
      refine x_iand dX2_aboutHeir_94 ?_
      refine c_NR dX2_aboutHeir_95 kX4_numbersIn q244 q243 (t_numbersIn _ H.cl.r6 (Nat.le_of_ble_eq_true rfl) _) rfl rfl (Nat.le_of_ble_eq_true rfl) ⟨Nat.le_refl _, Nat.le_refl _⟩ ?_
      refine x_iret dX2_aboutHeir_98 (Or.inl rfl) rfl (Nat.le_refl _) ?_
      exact RO.mk (by simp [oHeir, *])
    refine x_tableOut (tgt := 99) dX2_aboutHeir_10 (sw_out fun n h1 h2 => by rcases (show n = 0 ∨ n = 1 ∨ n = 2 ∨ n = 3 by omega) with rfl | rfl | rfl | rfl; exact k10_0; exact k10_1; exact k10_2; exact k10_3) (by decide) ?_
    refine x_bipush (v := (-2)) dX2_aboutHeir_99 rfl ?_
    refine x_iret dX2_aboutHeir_101 (Or.inl rfl) rfl (Nat.le_refl _) ?_
    exact RO.mk (by simp [oHeir, *])
  · have c4 := bI_eq c4
    refine x_iconst (v := (-1)) dX2_aboutHeir_7 rfl ?_
    refine x_iret dX2_aboutHeir_8 (Or.inl rfl) rfl (Nat.le_refl _) ?_
    exact RO.mk (by simp [oHeir, *])

set_option maxRecDepth 100000 in
set_option maxHeartbeats 4000000 in
theorem t_heirPaid {st : Nat → Nat} (d : Nat) {z : Nat} {h : Nat → Option va_E} {o : Nat} {σ : Sg} (H : OffAt h o σ) (hL : LOk σ) (hC : COk σ) (hP : POk σ) (x : Int32) : CT st (d + 1) yX2_heirPaid cX2_heirPaid 2 (some .int) [.ref o, .int x] (z, h) 0 0 (RO (some (.int (oPaid σ x))) (z, h)) := by
  refine CT.of (lv := [.ref o, .int x]) (by decide) (Nat.le_of_ble_eq_true rfl) rfl rfl ?_
  refine x_iload_n dX2_heirPaid_0 rfl ?_
  refine x_if_lt (tgt := 21) dX2_heirPaid_1 (by decide) (fun c1 => ?_) (fun c1 => ?_)
  · refine x_iconst (v := (-1)) dX2_heirPaid_21 rfl ?_
    refine x_iret dX2_heirPaid_22 (Or.inl rfl) rfl (Nat.le_refl _) ?_
    exact RO.mk (by simp [oPaid, *])
  · refine x_iload_n dX2_heirPaid_4 rfl ?_
    refine x_aload_n dX2_heirPaid_5 rfl ?_
    refine x_get dX2_heirPaid_6 fX2_32 H.ob rfl ?_
    refine x_icmp_ge (tgt := 21) dX2_heirPaid_9 (by decide) (fun c9 => ?_) (fun c9 => ?_)
    · refine x_iconst (v := (-1)) dX2_heirPaid_21 rfl ?_
      refine x_iret dX2_heirPaid_22 (Or.inl rfl) rfl (Nat.le_refl _) ?_
      exact RO.mk (by simp [oPaid, *])
    · obtain ⟨j, hj, rfl⟩ : ∃ j : Nat, j < 16 ∧ x = nI j := by
        obtain ⟨j, hj, rfl⟩ := nI_of c1
        refine ⟨j, ?_, rfl⟩
        rw [hP.1] at c9
        rcases Nat.lt_or_ge j 16 with q | q
        · exact q
        · have := hP.2; exact absurd (nI_le (a := nPd σ) (b := j) (by omega) (by omega)) c9
      have hcl := nI_cl (j := j) (by omega)
      refine x_aload_n dX2_heirPaid_12 rfl ?_
      refine x_get dX2_heirPaid_13 fX2_29 H.ob rfl ?_
      refine x_iload_n dX2_heirPaid_16 rfl ?_
      refine e_ald dX2_heirPaid_17 H.r12 (ax_ixN (j := j) (by omega) (Nat.le_of_ble_eq_true rfl)) ?_
      refine x_goto (tgt := 22) dX2_heirPaid_18 (by decide) ?_
      refine x_iret dX2_heirPaid_22 (Or.inl rfl) rfl (Nat.le_refl _) ?_
      exact RO.mk (by simp [oPaid, *])

set_option maxRecDepth 100000 in
set_option maxHeartbeats 4000000 in
theorem t_number {st : Nat → Nat} (d : Nat) {z : Nat} {h : Nat → Option va_E} {o : Nat} {σ : Sg} (H : OffAt h o σ) (hL : LOk σ) (hC : COk σ) (w : Int32) : CT st (d + 4) yX2_number cX2_number 2 (some .int) [.ref o, .int w] (z, h) 0 0 (RO (some (.int (oNumber σ w))) (z, h)) := by
  refine CT.of (lv := [.ref o, .int w]) (by decide) (Nat.le_of_ble_eq_true rfl) rfl rfl ?_
  refine x_iload_n dX2_number_0 rfl ?_
  refine x_iconst (v := 3) dX2_number_1 rfl ?_
  refine x_icmp_lt (tgt := 22) dX2_number_2 (by decide) (fun c2 => ?_) (fun c2 => ?_)
  · refine x_iload_n dX2_number_22 rfl ?_
    refine x_bipush (v := 14) dX2_number_23 rfl ?_
    refine x_icmp_lt (tgt := 44) dX2_number_25 (by decide) (fun c25 => ?_) (fun c25 => ?_)
    · refine x_iload_n dX2_number_44 rfl ?_
      by_cases k45_0 : w = 0
      · subst k45_0
        refine x_tableIn (off := 71) (tgt := 116) dX2_number_45 (by decide) (by decide) rfl (by decide) ?_
        refine x_aload_n dX2_number_116 rfl ?_
        refine x_get dX2_number_117 fX2_39 H.ob rfl ?_
        refine x_iret dX2_number_120 (Or.inl rfl) rfl (Nat.le_refl _) ?_
        exact RO.mk (by simp [oNumber, oNumB, oNumC, *])
      by_cases k45_1 : w = 1
      · subst k45_1
        refine x_tableIn (off := 76) (tgt := 121) dX2_number_45 (by decide) (by decide) rfl (by decide) ?_
        refine x_aload_n dX2_number_121 rfl ?_
        refine x_get dX2_number_122 fX2_18 H.ob rfl ?_
        refine x_get dX2_number_125 fX2_62 H.lo.ob rfl ?_
        refine x_iret dX2_number_128 (Or.inl rfl) rfl (Nat.le_refl _) ?_
        exact RO.mk (by simp [oNumber, oNumB, oNumC, *])
      by_cases k45_2 : w = 2
      · subst k45_2
        refine x_tableIn (off := 84) (tgt := 129) dX2_number_45 (by decide) (by decide) rfl (by decide) ?_
        refine x_aload_n dX2_number_129 rfl ?_
        refine x_get dX2_number_130 fX2_25 H.ob rfl ?_
        refine x_get dX2_number_133 fX2_96 H.cl.ob rfl ?_
        refine x_iret dX2_number_136 (Or.inl rfl) rfl (Nat.le_refl _) ?_
        exact RO.mk (by simp [oNumber, oNumB, oNumC, *])
      by_cases k45_8 : w = 8
      · subst k45_8
        refine x_tableIn (off := 92) (tgt := 137) dX2_number_45 (by decide) (by decide) rfl (by decide) ?_
        refine x_aload_n dX2_number_137 rfl ?_
        refine x_get dX2_number_138 fX2_18 H.ob rfl ?_
        refine x_get dX2_number_141 fX2_65 H.lo.ob rfl ?_
        refine x_aload_n dX2_number_144 rfl ?_
        refine x_get dX2_number_145 fX2_18 H.ob rfl ?_
        refine c_VR dX2_number_148 kX1_all iX1_all q216 (t_Lall _ H.lo) H.lo.ob rfl rfl rfl (Nat.le_of_ble_eq_true rfl) ⟨Nat.le_refl _, Nat.le_refl _⟩ ?_
        refine c_NR dX2_number_151 kX4_sum q224 q223 (t_sum _ H.lo.r1 (Nat.le_of_ble_eq_true rfl) _) rfl rfl (Nat.le_of_ble_eq_true rfl) ⟨Nat.le_refl _, Nat.le_refl _⟩ ?_
        refine x_iret dX2_number_154 (Or.inl rfl) rfl (Nat.le_refl _) ?_
        exact RO.mk (by simp [oNumber, oNumB, oNumC, *])
      by_cases k45_9 : w = 9
      · subst k45_9
        refine x_tableIn (off := 110) (tgt := 155) dX2_number_45 (by decide) (by decide) rfl (by decide) ?_
        refine x_aload_n dX2_number_155 rfl ?_
        refine x_get dX2_number_156 fX2_18 H.ob rfl ?_
        refine x_get dX2_number_159 fX2_65 H.lo.ob rfl ?_
        refine x_aload_n dX2_number_162 rfl ?_
        refine x_get dX2_number_163 fX2_18 H.ob rfl ?_
        refine x_iconst (v := 0) dX2_number_166 rfl ?_
        refine c_VR dX2_number_167 kX1_inState iX1_inState q209 (t_LinState _ H.lo hL _) H.lo.ob rfl rfl rfl (Nat.le_of_ble_eq_true rfl) ⟨Nat.le_refl _, Nat.le_refl _⟩ ?_
        refine x_aload_n dX2_number_170 rfl ?_
        refine x_get dX2_number_171 fX2_18 H.ob rfl ?_
        refine x_iconst (v := 1) dX2_number_174 rfl ?_
        refine c_VR dX2_number_175 kX1_inState iX1_inState q209 (t_LinState _ H.lo hL _) H.lo.ob rfl rfl rfl (Nat.le_of_ble_eq_true rfl) ⟨Nat.le_refl _, Nat.le_refl _⟩ ?_
        refine x_ior dX2_number_178 ?_
        refine c_NR dX2_number_179 kX4_sum q224 q223 (t_sum _ H.lo.r1 (Nat.le_of_ble_eq_true rfl) _) rfl rfl (Nat.le_of_ble_eq_true rfl) ⟨Nat.le_refl _, Nat.le_refl _⟩ ?_
        refine x_iret dX2_number_182 (Or.inl rfl) rfl (Nat.le_refl _) ?_
        exact RO.mk (by simp [oNumber, oNumB, oNumC, *])
      by_cases k45_10 : w = 10
      · subst k45_10
        refine x_tableIn (off := 138) (tgt := 183) dX2_number_45 (by decide) (by decide) rfl (by decide) ?_
        refine x_aload_n dX2_number_183 rfl ?_
        refine x_get dX2_number_184 fX2_36 H.ob rfl ?_
        refine x_iret dX2_number_187 (Or.inl rfl) rfl (Nat.le_refl _) ?_
        exact RO.mk (by simp [oNumber, oNumB, oNumC, *])
      by_cases k45_11 : w = 11
      · subst k45_11
        refine x_tableIn (off := 143) (tgt := 188) dX2_number_45 (by decide) (by decide) rfl (by decide) ?_
        refine x_aload_n dX2_number_188 rfl ?_
        refine x_get dX2_number_189 fX2_25 H.ob rfl ?_
        refine x_get dX2_number_192 fX2_162 H.cl.ob rfl ?_
        refine x_aload_n dX2_number_195 rfl ?_
        refine x_get dX2_number_196 fX2_25 H.ob rfl ?_
        refine c_VR dX2_number_199 kX0_all iX0_all q229 (t_Call _ H.cl) H.cl.ob rfl rfl rfl (Nat.le_of_ble_eq_true rfl) ⟨Nat.le_refl _, Nat.le_refl _⟩ ?_
        refine c_NR dX2_number_202 kX4_sum q224 q223 (t_sum _ H.cl.r11 (Nat.le_of_ble_eq_true rfl) _) rfl rfl (Nat.le_of_ble_eq_true rfl) ⟨Nat.le_refl _, Nat.le_refl _⟩ ?_
        refine x_iret dX2_number_205 (Or.inl rfl) rfl (Nat.le_refl _) ?_
        exact RO.mk (by simp [oNumber, oNumB, oNumC, *])
      by_cases k45_12 : w = 12
      · subst k45_12
        refine x_tableIn (off := 161) (tgt := 206) dX2_number_45 (by decide) (by decide) rfl (by decide) ?_
        refine x_aload_n dX2_number_206 rfl ?_
        refine x_get dX2_number_207 fX2_25 H.ob rfl ?_
        refine c_VR dX2_number_210 kX0_standing iX0_standing q234 (t_standing _ H.cl hC) H.cl.ob rfl rfl rfl (Nat.le_of_ble_eq_true rfl) ⟨Nat.le_refl _, Nat.le_refl _⟩ ?_
        refine x_iret dX2_number_213 (Or.inl rfl) rfl (Nat.le_refl _) ?_
        exact RO.mk (by simp [oNumber, oNumB, oNumC, *])
      by_cases k45_13 : w = 13
      · subst k45_13
        refine x_tableIn (off := 169) (tgt := 214) dX2_number_45 (by decide) (by decide) rfl (by decide) ?_
        refine x_aload_n dX2_number_214 rfl ?_
        refine x_get dX2_number_215 fX2_25 H.ob rfl ?_
        refine x_get dX2_number_218 fX2_97 H.cl.ob rfl ?_
        refine x_aload_n dX2_number_221 rfl ?_
        refine x_get dX2_number_222 fX2_25 H.ob rfl ?_
        refine c_VR dX2_number_225 kX0_all iX0_all q229 (t_Call _ H.cl) H.cl.ob rfl rfl rfl (Nat.le_of_ble_eq_true rfl) ⟨Nat.le_refl _, Nat.le_refl _⟩ ?_
        refine c_NR dX2_number_228 kX4_numbersIn q244 q243 (t_numbersIn _ H.cl.r5 (Nat.le_of_ble_eq_true rfl) _) rfl rfl (Nat.le_of_ble_eq_true rfl) ⟨Nat.le_refl _, Nat.le_refl _⟩ ?_
        refine c_SR dX2_number_231 kJ6_bitCount_0f7a4 q247 q246 (t_bitCount _ _) rfl rfl (Nat.le_of_ble_eq_true rfl) ⟨Nat.le_refl _, Nat.le_refl _⟩ ?_
        refine x_iret dX2_number_234 (Or.inl rfl) rfl (Nat.le_refl _) ?_
        exact RO.mk (by simp [oNumber, oNumB, oNumC, *])
      have dft : Ev st (d + 4) yX2_number cX2_number 2 (some .int) (z, h) 0 0 (RO (some (.int (oNumber σ w))) (z, h)) 235 [.ref o, .int w] [] (z, h) 0 0 := by
        refine x_bipush (v := (-2)) dX2_number_235 rfl ?_
        refine x_iret dX2_number_237 (Or.inl rfl) rfl (Nat.le_refl _) ?_
        exact RO.mk (by simp [oNumber, oNumB, oNumC, *])
      by_cases k45_3 : w = 3
      · subst k45_3
        exact x_tableIn (off := 190) (tgt := 235) dX2_number_45 (by decide) (by decide) rfl (by decide) dft
      by_cases k45_4 : w = 4
      · subst k45_4
        exact x_tableIn (off := 190) (tgt := 235) dX2_number_45 (by decide) (by decide) rfl (by decide) dft
      by_cases k45_5 : w = 5
      · subst k45_5
        exact x_tableIn (off := 190) (tgt := 235) dX2_number_45 (by decide) (by decide) rfl (by decide) dft
      by_cases k45_6 : w = 6
      · subst k45_6
        exact x_tableIn (off := 190) (tgt := 235) dX2_number_45 (by decide) (by decide) rfl (by decide) dft
      by_cases k45_7 : w = 7
      · subst k45_7
        exact x_tableIn (off := 190) (tgt := 235) dX2_number_45 (by decide) (by decide) rfl (by decide) dft
      exact x_tableOut (tgt := 235) dX2_number_45 (sw_out fun n h1 h2 => by rcases (show n = 0 ∨ n = 1 ∨ n = 2 ∨ n = 3 ∨ n = 4 ∨ n = 5 ∨ n = 6 ∨ n = 7 ∨ n = 8 ∨ n = 9 ∨ n = 10 ∨ n = 11 ∨ n = 12 ∨ n = 13 by omega) with rfl | rfl | rfl | rfl | rfl | rfl | rfl | rfl | rfl | rfl | rfl | rfl | rfl | rfl; exact k45_0; exact k45_1; exact k45_2; exact k45_3; exact k45_4; exact k45_5; exact k45_6; exact k45_7; exact k45_8; exact k45_9; exact k45_10; exact k45_11; exact k45_12; exact k45_13) (by decide) dft
    · refine x_iload_n dX2_number_28 rfl ?_
      refine x_bipush (v := 19) dX2_number_29 rfl ?_
      refine x_icmp_ge (tgt := 44) dX2_number_31 (by decide) (fun c31 => ?_) (fun c31 => ?_)
      · refine x_iload_n dX2_number_44 rfl ?_
        by_cases k45_0 : w = 0
        · subst k45_0
          refine x_tableIn (off := 71) (tgt := 116) dX2_number_45 (by decide) (by decide) rfl (by decide) ?_
          refine x_aload_n dX2_number_116 rfl ?_
          refine x_get dX2_number_117 fX2_39 H.ob rfl ?_
          refine x_iret dX2_number_120 (Or.inl rfl) rfl (Nat.le_refl _) ?_
          exact RO.mk (by simp [oNumber, oNumB, oNumC, *])
        by_cases k45_1 : w = 1
        · subst k45_1
          refine x_tableIn (off := 76) (tgt := 121) dX2_number_45 (by decide) (by decide) rfl (by decide) ?_
          refine x_aload_n dX2_number_121 rfl ?_
          refine x_get dX2_number_122 fX2_18 H.ob rfl ?_
          refine x_get dX2_number_125 fX2_62 H.lo.ob rfl ?_
          refine x_iret dX2_number_128 (Or.inl rfl) rfl (Nat.le_refl _) ?_
          exact RO.mk (by simp [oNumber, oNumB, oNumC, *])
        by_cases k45_2 : w = 2
        · subst k45_2
          refine x_tableIn (off := 84) (tgt := 129) dX2_number_45 (by decide) (by decide) rfl (by decide) ?_
          refine x_aload_n dX2_number_129 rfl ?_
          refine x_get dX2_number_130 fX2_25 H.ob rfl ?_
          refine x_get dX2_number_133 fX2_96 H.cl.ob rfl ?_
          refine x_iret dX2_number_136 (Or.inl rfl) rfl (Nat.le_refl _) ?_
          exact RO.mk (by simp [oNumber, oNumB, oNumC, *])
        by_cases k45_8 : w = 8
        · subst k45_8
          refine x_tableIn (off := 92) (tgt := 137) dX2_number_45 (by decide) (by decide) rfl (by decide) ?_
          refine x_aload_n dX2_number_137 rfl ?_
          refine x_get dX2_number_138 fX2_18 H.ob rfl ?_
          refine x_get dX2_number_141 fX2_65 H.lo.ob rfl ?_
          refine x_aload_n dX2_number_144 rfl ?_
          refine x_get dX2_number_145 fX2_18 H.ob rfl ?_
          refine c_VR dX2_number_148 kX1_all iX1_all q216 (t_Lall _ H.lo) H.lo.ob rfl rfl rfl (Nat.le_of_ble_eq_true rfl) ⟨Nat.le_refl _, Nat.le_refl _⟩ ?_
          refine c_NR dX2_number_151 kX4_sum q224 q223 (t_sum _ H.lo.r1 (Nat.le_of_ble_eq_true rfl) _) rfl rfl (Nat.le_of_ble_eq_true rfl) ⟨Nat.le_refl _, Nat.le_refl _⟩ ?_
          refine x_iret dX2_number_154 (Or.inl rfl) rfl (Nat.le_refl _) ?_
          exact RO.mk (by simp [oNumber, oNumB, oNumC, *])
        by_cases k45_9 : w = 9
        · subst k45_9
          refine x_tableIn (off := 110) (tgt := 155) dX2_number_45 (by decide) (by decide) rfl (by decide) ?_
          refine x_aload_n dX2_number_155 rfl ?_
          refine x_get dX2_number_156 fX2_18 H.ob rfl ?_
          refine x_get dX2_number_159 fX2_65 H.lo.ob rfl ?_
          refine x_aload_n dX2_number_162 rfl ?_
          refine x_get dX2_number_163 fX2_18 H.ob rfl ?_
          refine x_iconst (v := 0) dX2_number_166 rfl ?_
          refine c_VR dX2_number_167 kX1_inState iX1_inState q209 (t_LinState _ H.lo hL _) H.lo.ob rfl rfl rfl (Nat.le_of_ble_eq_true rfl) ⟨Nat.le_refl _, Nat.le_refl _⟩ ?_
          refine x_aload_n dX2_number_170 rfl ?_
          refine x_get dX2_number_171 fX2_18 H.ob rfl ?_
          refine x_iconst (v := 1) dX2_number_174 rfl ?_
          refine c_VR dX2_number_175 kX1_inState iX1_inState q209 (t_LinState _ H.lo hL _) H.lo.ob rfl rfl rfl (Nat.le_of_ble_eq_true rfl) ⟨Nat.le_refl _, Nat.le_refl _⟩ ?_
          refine x_ior dX2_number_178 ?_
          refine c_NR dX2_number_179 kX4_sum q224 q223 (t_sum _ H.lo.r1 (Nat.le_of_ble_eq_true rfl) _) rfl rfl (Nat.le_of_ble_eq_true rfl) ⟨Nat.le_refl _, Nat.le_refl _⟩ ?_
          refine x_iret dX2_number_182 (Or.inl rfl) rfl (Nat.le_refl _) ?_
          exact RO.mk (by simp [oNumber, oNumB, oNumC, *])
        by_cases k45_10 : w = 10
        · subst k45_10
          refine x_tableIn (off := 138) (tgt := 183) dX2_number_45 (by decide) (by decide) rfl (by decide) ?_
          refine x_aload_n dX2_number_183 rfl ?_
          refine x_get dX2_number_184 fX2_36 H.ob rfl ?_
          refine x_iret dX2_number_187 (Or.inl rfl) rfl (Nat.le_refl _) ?_
          exact RO.mk (by simp [oNumber, oNumB, oNumC, *])
        by_cases k45_11 : w = 11
        · subst k45_11
          refine x_tableIn (off := 143) (tgt := 188) dX2_number_45 (by decide) (by decide) rfl (by decide) ?_
          refine x_aload_n dX2_number_188 rfl ?_
          refine x_get dX2_number_189 fX2_25 H.ob rfl ?_
          refine x_get dX2_number_192 fX2_162 H.cl.ob rfl ?_
          refine x_aload_n dX2_number_195 rfl ?_
          refine x_get dX2_number_196 fX2_25 H.ob rfl ?_
          refine c_VR dX2_number_199 kX0_all iX0_all q229 (t_Call _ H.cl) H.cl.ob rfl rfl rfl (Nat.le_of_ble_eq_true rfl) ⟨Nat.le_refl _, Nat.le_refl _⟩ ?_
          refine c_NR dX2_number_202 kX4_sum q224 q223 (t_sum _ H.cl.r11 (Nat.le_of_ble_eq_true rfl) _) rfl rfl (Nat.le_of_ble_eq_true rfl) ⟨Nat.le_refl _, Nat.le_refl _⟩ ?_
          refine x_iret dX2_number_205 (Or.inl rfl) rfl (Nat.le_refl _) ?_
          exact RO.mk (by simp [oNumber, oNumB, oNumC, *])
        by_cases k45_12 : w = 12
        · subst k45_12
          refine x_tableIn (off := 161) (tgt := 206) dX2_number_45 (by decide) (by decide) rfl (by decide) ?_
          refine x_aload_n dX2_number_206 rfl ?_
          refine x_get dX2_number_207 fX2_25 H.ob rfl ?_
          refine c_VR dX2_number_210 kX0_standing iX0_standing q234 (t_standing _ H.cl hC) H.cl.ob rfl rfl rfl (Nat.le_of_ble_eq_true rfl) ⟨Nat.le_refl _, Nat.le_refl _⟩ ?_
          refine x_iret dX2_number_213 (Or.inl rfl) rfl (Nat.le_refl _) ?_
          exact RO.mk (by simp [oNumber, oNumB, oNumC, *])
        by_cases k45_13 : w = 13
        · subst k45_13
          refine x_tableIn (off := 169) (tgt := 214) dX2_number_45 (by decide) (by decide) rfl (by decide) ?_
          refine x_aload_n dX2_number_214 rfl ?_
          refine x_get dX2_number_215 fX2_25 H.ob rfl ?_
          refine x_get dX2_number_218 fX2_97 H.cl.ob rfl ?_
          refine x_aload_n dX2_number_221 rfl ?_
          refine x_get dX2_number_222 fX2_25 H.ob rfl ?_
          refine c_VR dX2_number_225 kX0_all iX0_all q229 (t_Call _ H.cl) H.cl.ob rfl rfl rfl (Nat.le_of_ble_eq_true rfl) ⟨Nat.le_refl _, Nat.le_refl _⟩ ?_
          refine c_NR dX2_number_228 kX4_numbersIn q244 q243 (t_numbersIn _ H.cl.r5 (Nat.le_of_ble_eq_true rfl) _) rfl rfl (Nat.le_of_ble_eq_true rfl) ⟨Nat.le_refl _, Nat.le_refl _⟩ ?_
          refine c_SR dX2_number_231 kJ6_bitCount_0f7a4 q247 q246 (t_bitCount _ _) rfl rfl (Nat.le_of_ble_eq_true rfl) ⟨Nat.le_refl _, Nat.le_refl _⟩ ?_
          refine x_iret dX2_number_234 (Or.inl rfl) rfl (Nat.le_refl _) ?_
          exact RO.mk (by simp [oNumber, oNumB, oNumC, *])
        have dft : Ev st (d + 4) yX2_number cX2_number 2 (some .int) (z, h) 0 0 (RO (some (.int (oNumber σ w))) (z, h)) 235 [.ref o, .int w] [] (z, h) 0 0 := by
          refine x_bipush (v := (-2)) dX2_number_235 rfl ?_
          refine x_iret dX2_number_237 (Or.inl rfl) rfl (Nat.le_refl _) ?_
          exact RO.mk (by simp [oNumber, oNumB, oNumC, *])
        by_cases k45_3 : w = 3
        · subst k45_3
          exact x_tableIn (off := 190) (tgt := 235) dX2_number_45 (by decide) (by decide) rfl (by decide) dft
        by_cases k45_4 : w = 4
        · subst k45_4
          exact x_tableIn (off := 190) (tgt := 235) dX2_number_45 (by decide) (by decide) rfl (by decide) dft
        by_cases k45_5 : w = 5
        · subst k45_5
          exact x_tableIn (off := 190) (tgt := 235) dX2_number_45 (by decide) (by decide) rfl (by decide) dft
        by_cases k45_6 : w = 6
        · subst k45_6
          exact x_tableIn (off := 190) (tgt := 235) dX2_number_45 (by decide) (by decide) rfl (by decide) dft
        by_cases k45_7 : w = 7
        · subst k45_7
          exact x_tableIn (off := 190) (tgt := 235) dX2_number_45 (by decide) (by decide) rfl (by decide) dft
        exact x_tableOut (tgt := 235) dX2_number_45 (sw_out fun n h1 h2 => by rcases (show n = 0 ∨ n = 1 ∨ n = 2 ∨ n = 3 ∨ n = 4 ∨ n = 5 ∨ n = 6 ∨ n = 7 ∨ n = 8 ∨ n = 9 ∨ n = 10 ∨ n = 11 ∨ n = 12 ∨ n = 13 by omega) with rfl | rfl | rfl | rfl | rfl | rfl | rfl | rfl | rfl | rfl | rfl | rfl | rfl | rfl; exact k45_0; exact k45_1; exact k45_2; exact k45_3; exact k45_4; exact k45_5; exact k45_6; exact k45_7; exact k45_8; exact k45_9; exact k45_10; exact k45_11; exact k45_12; exact k45_13) (by decide) dft
      · refine x_aload_n dX2_number_34 rfl ?_
        refine x_get dX2_number_35 fX2_9 H.ob rfl ?_
        refine x_iload_n dX2_number_38 rfl ?_
        refine x_bipush (v := 14) dX2_number_39 rfl ?_
        refine x_isub dX2_number_41 ?_
        refine e_ald dX2_number_42 H.r0 (ix14 c25 c31) ?_
        refine x_iret dX2_number_43 (Or.inl rfl) rfl (Nat.le_refl _) ?_
        exact RO.mk (by simp [oNumber, oNumB, oNumC, *])
  · refine x_iload_n dX2_number_5 rfl ?_
    refine x_bipush (v := 7) dX2_number_6 rfl ?_
    refine x_icmp_gt (tgt := 22) dX2_number_8 (by decide) (fun c8 => ?_) (fun c8 => ?_)
    · refine x_iload_n dX2_number_22 rfl ?_
      refine x_bipush (v := 14) dX2_number_23 rfl ?_
      refine x_icmp_lt (tgt := 44) dX2_number_25 (by decide) (fun c25 => ?_) (fun c25 => ?_)
      · refine x_iload_n dX2_number_44 rfl ?_
        by_cases k45_0 : w = 0
        · subst k45_0
          refine x_tableIn (off := 71) (tgt := 116) dX2_number_45 (by decide) (by decide) rfl (by decide) ?_
          refine x_aload_n dX2_number_116 rfl ?_
          refine x_get dX2_number_117 fX2_39 H.ob rfl ?_
          refine x_iret dX2_number_120 (Or.inl rfl) rfl (Nat.le_refl _) ?_
          exact RO.mk (by simp [oNumber, oNumB, oNumC, *])
        by_cases k45_1 : w = 1
        · subst k45_1
          refine x_tableIn (off := 76) (tgt := 121) dX2_number_45 (by decide) (by decide) rfl (by decide) ?_
          refine x_aload_n dX2_number_121 rfl ?_
          refine x_get dX2_number_122 fX2_18 H.ob rfl ?_
          refine x_get dX2_number_125 fX2_62 H.lo.ob rfl ?_
          refine x_iret dX2_number_128 (Or.inl rfl) rfl (Nat.le_refl _) ?_
          exact RO.mk (by simp [oNumber, oNumB, oNumC, *])
        by_cases k45_2 : w = 2
        · subst k45_2
          refine x_tableIn (off := 84) (tgt := 129) dX2_number_45 (by decide) (by decide) rfl (by decide) ?_
          refine x_aload_n dX2_number_129 rfl ?_
          refine x_get dX2_number_130 fX2_25 H.ob rfl ?_
          refine x_get dX2_number_133 fX2_96 H.cl.ob rfl ?_
          refine x_iret dX2_number_136 (Or.inl rfl) rfl (Nat.le_refl _) ?_
          exact RO.mk (by simp [oNumber, oNumB, oNumC, *])
        by_cases k45_8 : w = 8
        · subst k45_8
          refine x_tableIn (off := 92) (tgt := 137) dX2_number_45 (by decide) (by decide) rfl (by decide) ?_
          refine x_aload_n dX2_number_137 rfl ?_
          refine x_get dX2_number_138 fX2_18 H.ob rfl ?_
          refine x_get dX2_number_141 fX2_65 H.lo.ob rfl ?_
          refine x_aload_n dX2_number_144 rfl ?_
          refine x_get dX2_number_145 fX2_18 H.ob rfl ?_
          refine c_VR dX2_number_148 kX1_all iX1_all q216 (t_Lall _ H.lo) H.lo.ob rfl rfl rfl (Nat.le_of_ble_eq_true rfl) ⟨Nat.le_refl _, Nat.le_refl _⟩ ?_
          refine c_NR dX2_number_151 kX4_sum q224 q223 (t_sum _ H.lo.r1 (Nat.le_of_ble_eq_true rfl) _) rfl rfl (Nat.le_of_ble_eq_true rfl) ⟨Nat.le_refl _, Nat.le_refl _⟩ ?_
          refine x_iret dX2_number_154 (Or.inl rfl) rfl (Nat.le_refl _) ?_
          exact RO.mk (by simp [oNumber, oNumB, oNumC, *])
        by_cases k45_9 : w = 9
        · subst k45_9
          refine x_tableIn (off := 110) (tgt := 155) dX2_number_45 (by decide) (by decide) rfl (by decide) ?_
          refine x_aload_n dX2_number_155 rfl ?_
          refine x_get dX2_number_156 fX2_18 H.ob rfl ?_
          refine x_get dX2_number_159 fX2_65 H.lo.ob rfl ?_
          refine x_aload_n dX2_number_162 rfl ?_
          refine x_get dX2_number_163 fX2_18 H.ob rfl ?_
          refine x_iconst (v := 0) dX2_number_166 rfl ?_
          refine c_VR dX2_number_167 kX1_inState iX1_inState q209 (t_LinState _ H.lo hL _) H.lo.ob rfl rfl rfl (Nat.le_of_ble_eq_true rfl) ⟨Nat.le_refl _, Nat.le_refl _⟩ ?_
          refine x_aload_n dX2_number_170 rfl ?_
          refine x_get dX2_number_171 fX2_18 H.ob rfl ?_
          refine x_iconst (v := 1) dX2_number_174 rfl ?_
          refine c_VR dX2_number_175 kX1_inState iX1_inState q209 (t_LinState _ H.lo hL _) H.lo.ob rfl rfl rfl (Nat.le_of_ble_eq_true rfl) ⟨Nat.le_refl _, Nat.le_refl _⟩ ?_
          refine x_ior dX2_number_178 ?_
          refine c_NR dX2_number_179 kX4_sum q224 q223 (t_sum _ H.lo.r1 (Nat.le_of_ble_eq_true rfl) _) rfl rfl (Nat.le_of_ble_eq_true rfl) ⟨Nat.le_refl _, Nat.le_refl _⟩ ?_
          refine x_iret dX2_number_182 (Or.inl rfl) rfl (Nat.le_refl _) ?_
          exact RO.mk (by simp [oNumber, oNumB, oNumC, *])
        by_cases k45_10 : w = 10
        · subst k45_10
          refine x_tableIn (off := 138) (tgt := 183) dX2_number_45 (by decide) (by decide) rfl (by decide) ?_
          refine x_aload_n dX2_number_183 rfl ?_
          refine x_get dX2_number_184 fX2_36 H.ob rfl ?_
          refine x_iret dX2_number_187 (Or.inl rfl) rfl (Nat.le_refl _) ?_
          exact RO.mk (by simp [oNumber, oNumB, oNumC, *])
        by_cases k45_11 : w = 11
        · subst k45_11
          refine x_tableIn (off := 143) (tgt := 188) dX2_number_45 (by decide) (by decide) rfl (by decide) ?_
          refine x_aload_n dX2_number_188 rfl ?_
          refine x_get dX2_number_189 fX2_25 H.ob rfl ?_
          refine x_get dX2_number_192 fX2_162 H.cl.ob rfl ?_
          refine x_aload_n dX2_number_195 rfl ?_
          refine x_get dX2_number_196 fX2_25 H.ob rfl ?_
          refine c_VR dX2_number_199 kX0_all iX0_all q229 (t_Call _ H.cl) H.cl.ob rfl rfl rfl (Nat.le_of_ble_eq_true rfl) ⟨Nat.le_refl _, Nat.le_refl _⟩ ?_
          refine c_NR dX2_number_202 kX4_sum q224 q223 (t_sum _ H.cl.r11 (Nat.le_of_ble_eq_true rfl) _) rfl rfl (Nat.le_of_ble_eq_true rfl) ⟨Nat.le_refl _, Nat.le_refl _⟩ ?_
          refine x_iret dX2_number_205 (Or.inl rfl) rfl (Nat.le_refl _) ?_
          exact RO.mk (by simp [oNumber, oNumB, oNumC, *])
        by_cases k45_12 : w = 12
        · subst k45_12
          refine x_tableIn (off := 161) (tgt := 206) dX2_number_45 (by decide) (by decide) rfl (by decide) ?_
          refine x_aload_n dX2_number_206 rfl ?_
          refine x_get dX2_number_207 fX2_25 H.ob rfl ?_
          refine c_VR dX2_number_210 kX0_standing iX0_standing q234 (t_standing _ H.cl hC) H.cl.ob rfl rfl rfl (Nat.le_of_ble_eq_true rfl) ⟨Nat.le_refl _, Nat.le_refl _⟩ ?_
          refine x_iret dX2_number_213 (Or.inl rfl) rfl (Nat.le_refl _) ?_
          exact RO.mk (by simp [oNumber, oNumB, oNumC, *])
        by_cases k45_13 : w = 13
        · subst k45_13
          refine x_tableIn (off := 169) (tgt := 214) dX2_number_45 (by decide) (by decide) rfl (by decide) ?_
          refine x_aload_n dX2_number_214 rfl ?_
          refine x_get dX2_number_215 fX2_25 H.ob rfl ?_
          refine x_get dX2_number_218 fX2_97 H.cl.ob rfl ?_
          refine x_aload_n dX2_number_221 rfl ?_
          refine x_get dX2_number_222 fX2_25 H.ob rfl ?_
          refine c_VR dX2_number_225 kX0_all iX0_all q229 (t_Call _ H.cl) H.cl.ob rfl rfl rfl (Nat.le_of_ble_eq_true rfl) ⟨Nat.le_refl _, Nat.le_refl _⟩ ?_
          refine c_NR dX2_number_228 kX4_numbersIn q244 q243 (t_numbersIn _ H.cl.r5 (Nat.le_of_ble_eq_true rfl) _) rfl rfl (Nat.le_of_ble_eq_true rfl) ⟨Nat.le_refl _, Nat.le_refl _⟩ ?_
          refine c_SR dX2_number_231 kJ6_bitCount_0f7a4 q247 q246 (t_bitCount _ _) rfl rfl (Nat.le_of_ble_eq_true rfl) ⟨Nat.le_refl _, Nat.le_refl _⟩ ?_
          refine x_iret dX2_number_234 (Or.inl rfl) rfl (Nat.le_refl _) ?_
          exact RO.mk (by simp [oNumber, oNumB, oNumC, *])
        have dft : Ev st (d + 4) yX2_number cX2_number 2 (some .int) (z, h) 0 0 (RO (some (.int (oNumber σ w))) (z, h)) 235 [.ref o, .int w] [] (z, h) 0 0 := by
          refine x_bipush (v := (-2)) dX2_number_235 rfl ?_
          refine x_iret dX2_number_237 (Or.inl rfl) rfl (Nat.le_refl _) ?_
          exact RO.mk (by simp [oNumber, oNumB, oNumC, *])
        by_cases k45_3 : w = 3
        · subst k45_3
          exact x_tableIn (off := 190) (tgt := 235) dX2_number_45 (by decide) (by decide) rfl (by decide) dft
        by_cases k45_4 : w = 4
        · subst k45_4
          exact x_tableIn (off := 190) (tgt := 235) dX2_number_45 (by decide) (by decide) rfl (by decide) dft
        by_cases k45_5 : w = 5
        · subst k45_5
          exact x_tableIn (off := 190) (tgt := 235) dX2_number_45 (by decide) (by decide) rfl (by decide) dft
        by_cases k45_6 : w = 6
        · subst k45_6
          exact x_tableIn (off := 190) (tgt := 235) dX2_number_45 (by decide) (by decide) rfl (by decide) dft
        by_cases k45_7 : w = 7
        · subst k45_7
          exact x_tableIn (off := 190) (tgt := 235) dX2_number_45 (by decide) (by decide) rfl (by decide) dft
        exact x_tableOut (tgt := 235) dX2_number_45 (sw_out fun n h1 h2 => by rcases (show n = 0 ∨ n = 1 ∨ n = 2 ∨ n = 3 ∨ n = 4 ∨ n = 5 ∨ n = 6 ∨ n = 7 ∨ n = 8 ∨ n = 9 ∨ n = 10 ∨ n = 11 ∨ n = 12 ∨ n = 13 by omega) with rfl | rfl | rfl | rfl | rfl | rfl | rfl | rfl | rfl | rfl | rfl | rfl | rfl | rfl; exact k45_0; exact k45_1; exact k45_2; exact k45_3; exact k45_4; exact k45_5; exact k45_6; exact k45_7; exact k45_8; exact k45_9; exact k45_10; exact k45_11; exact k45_12; exact k45_13) (by decide) dft
      · refine x_iload_n dX2_number_28 rfl ?_
        refine x_bipush (v := 19) dX2_number_29 rfl ?_
        refine x_icmp_ge (tgt := 44) dX2_number_31 (by decide) (fun c31 => ?_) (fun c31 => ?_)
        · refine x_iload_n dX2_number_44 rfl ?_
          by_cases k45_0 : w = 0
          · subst k45_0
            refine x_tableIn (off := 71) (tgt := 116) dX2_number_45 (by decide) (by decide) rfl (by decide) ?_
            refine x_aload_n dX2_number_116 rfl ?_
            refine x_get dX2_number_117 fX2_39 H.ob rfl ?_
            refine x_iret dX2_number_120 (Or.inl rfl) rfl (Nat.le_refl _) ?_
            exact RO.mk (by simp [oNumber, oNumB, oNumC, *])
          by_cases k45_1 : w = 1
          · subst k45_1
            refine x_tableIn (off := 76) (tgt := 121) dX2_number_45 (by decide) (by decide) rfl (by decide) ?_
            refine x_aload_n dX2_number_121 rfl ?_
            refine x_get dX2_number_122 fX2_18 H.ob rfl ?_
            refine x_get dX2_number_125 fX2_62 H.lo.ob rfl ?_
            refine x_iret dX2_number_128 (Or.inl rfl) rfl (Nat.le_refl _) ?_
            exact RO.mk (by simp [oNumber, oNumB, oNumC, *])
          by_cases k45_2 : w = 2
          · subst k45_2
            refine x_tableIn (off := 84) (tgt := 129) dX2_number_45 (by decide) (by decide) rfl (by decide) ?_
            refine x_aload_n dX2_number_129 rfl ?_
            refine x_get dX2_number_130 fX2_25 H.ob rfl ?_
            refine x_get dX2_number_133 fX2_96 H.cl.ob rfl ?_
            refine x_iret dX2_number_136 (Or.inl rfl) rfl (Nat.le_refl _) ?_
            exact RO.mk (by simp [oNumber, oNumB, oNumC, *])
          by_cases k45_8 : w = 8
          · subst k45_8
            refine x_tableIn (off := 92) (tgt := 137) dX2_number_45 (by decide) (by decide) rfl (by decide) ?_
            refine x_aload_n dX2_number_137 rfl ?_
            refine x_get dX2_number_138 fX2_18 H.ob rfl ?_
            refine x_get dX2_number_141 fX2_65 H.lo.ob rfl ?_
            refine x_aload_n dX2_number_144 rfl ?_
            refine x_get dX2_number_145 fX2_18 H.ob rfl ?_
            refine c_VR dX2_number_148 kX1_all iX1_all q216 (t_Lall _ H.lo) H.lo.ob rfl rfl rfl (Nat.le_of_ble_eq_true rfl) ⟨Nat.le_refl _, Nat.le_refl _⟩ ?_
            refine c_NR dX2_number_151 kX4_sum q224 q223 (t_sum _ H.lo.r1 (Nat.le_of_ble_eq_true rfl) _) rfl rfl (Nat.le_of_ble_eq_true rfl) ⟨Nat.le_refl _, Nat.le_refl _⟩ ?_
            refine x_iret dX2_number_154 (Or.inl rfl) rfl (Nat.le_refl _) ?_
            exact RO.mk (by simp [oNumber, oNumB, oNumC, *])
          by_cases k45_9 : w = 9
          · subst k45_9
            refine x_tableIn (off := 110) (tgt := 155) dX2_number_45 (by decide) (by decide) rfl (by decide) ?_
            refine x_aload_n dX2_number_155 rfl ?_
            refine x_get dX2_number_156 fX2_18 H.ob rfl ?_
            refine x_get dX2_number_159 fX2_65 H.lo.ob rfl ?_
            refine x_aload_n dX2_number_162 rfl ?_
            refine x_get dX2_number_163 fX2_18 H.ob rfl ?_
            refine x_iconst (v := 0) dX2_number_166 rfl ?_
            refine c_VR dX2_number_167 kX1_inState iX1_inState q209 (t_LinState _ H.lo hL _) H.lo.ob rfl rfl rfl (Nat.le_of_ble_eq_true rfl) ⟨Nat.le_refl _, Nat.le_refl _⟩ ?_
            refine x_aload_n dX2_number_170 rfl ?_
            refine x_get dX2_number_171 fX2_18 H.ob rfl ?_
            refine x_iconst (v := 1) dX2_number_174 rfl ?_
            refine c_VR dX2_number_175 kX1_inState iX1_inState q209 (t_LinState _ H.lo hL _) H.lo.ob rfl rfl rfl (Nat.le_of_ble_eq_true rfl) ⟨Nat.le_refl _, Nat.le_refl _⟩ ?_
            refine x_ior dX2_number_178 ?_
            refine c_NR dX2_number_179 kX4_sum q224 q223 (t_sum _ H.lo.r1 (Nat.le_of_ble_eq_true rfl) _) rfl rfl (Nat.le_of_ble_eq_true rfl) ⟨Nat.le_refl _, Nat.le_refl _⟩ ?_
            refine x_iret dX2_number_182 (Or.inl rfl) rfl (Nat.le_refl _) ?_
            exact RO.mk (by simp [oNumber, oNumB, oNumC, *])
          by_cases k45_10 : w = 10
          · subst k45_10
            refine x_tableIn (off := 138) (tgt := 183) dX2_number_45 (by decide) (by decide) rfl (by decide) ?_
            refine x_aload_n dX2_number_183 rfl ?_
            refine x_get dX2_number_184 fX2_36 H.ob rfl ?_
            refine x_iret dX2_number_187 (Or.inl rfl) rfl (Nat.le_refl _) ?_
            exact RO.mk (by simp [oNumber, oNumB, oNumC, *])
          by_cases k45_11 : w = 11
          · subst k45_11
            refine x_tableIn (off := 143) (tgt := 188) dX2_number_45 (by decide) (by decide) rfl (by decide) ?_
            refine x_aload_n dX2_number_188 rfl ?_
            refine x_get dX2_number_189 fX2_25 H.ob rfl ?_
            refine x_get dX2_number_192 fX2_162 H.cl.ob rfl ?_
            refine x_aload_n dX2_number_195 rfl ?_
            refine x_get dX2_number_196 fX2_25 H.ob rfl ?_
            refine c_VR dX2_number_199 kX0_all iX0_all q229 (t_Call _ H.cl) H.cl.ob rfl rfl rfl (Nat.le_of_ble_eq_true rfl) ⟨Nat.le_refl _, Nat.le_refl _⟩ ?_
            refine c_NR dX2_number_202 kX4_sum q224 q223 (t_sum _ H.cl.r11 (Nat.le_of_ble_eq_true rfl) _) rfl rfl (Nat.le_of_ble_eq_true rfl) ⟨Nat.le_refl _, Nat.le_refl _⟩ ?_
            refine x_iret dX2_number_205 (Or.inl rfl) rfl (Nat.le_refl _) ?_
            exact RO.mk (by simp [oNumber, oNumB, oNumC, *])
          by_cases k45_12 : w = 12
          · subst k45_12
            refine x_tableIn (off := 161) (tgt := 206) dX2_number_45 (by decide) (by decide) rfl (by decide) ?_
            refine x_aload_n dX2_number_206 rfl ?_
            refine x_get dX2_number_207 fX2_25 H.ob rfl ?_
            refine c_VR dX2_number_210 kX0_standing iX0_standing q234 (t_standing _ H.cl hC) H.cl.ob rfl rfl rfl (Nat.le_of_ble_eq_true rfl) ⟨Nat.le_refl _, Nat.le_refl _⟩ ?_
            refine x_iret dX2_number_213 (Or.inl rfl) rfl (Nat.le_refl _) ?_
            exact RO.mk (by simp [oNumber, oNumB, oNumC, *])
          by_cases k45_13 : w = 13
          · subst k45_13
            refine x_tableIn (off := 169) (tgt := 214) dX2_number_45 (by decide) (by decide) rfl (by decide) ?_
            refine x_aload_n dX2_number_214 rfl ?_
            refine x_get dX2_number_215 fX2_25 H.ob rfl ?_
            refine x_get dX2_number_218 fX2_97 H.cl.ob rfl ?_
            refine x_aload_n dX2_number_221 rfl ?_
            refine x_get dX2_number_222 fX2_25 H.ob rfl ?_
            refine c_VR dX2_number_225 kX0_all iX0_all q229 (t_Call _ H.cl) H.cl.ob rfl rfl rfl (Nat.le_of_ble_eq_true rfl) ⟨Nat.le_refl _, Nat.le_refl _⟩ ?_
            refine c_NR dX2_number_228 kX4_numbersIn q244 q243 (t_numbersIn _ H.cl.r5 (Nat.le_of_ble_eq_true rfl) _) rfl rfl (Nat.le_of_ble_eq_true rfl) ⟨Nat.le_refl _, Nat.le_refl _⟩ ?_
            refine c_SR dX2_number_231 kJ6_bitCount_0f7a4 q247 q246 (t_bitCount _ _) rfl rfl (Nat.le_of_ble_eq_true rfl) ⟨Nat.le_refl _, Nat.le_refl _⟩ ?_
            refine x_iret dX2_number_234 (Or.inl rfl) rfl (Nat.le_refl _) ?_
            exact RO.mk (by simp [oNumber, oNumB, oNumC, *])
          have dft : Ev st (d + 4) yX2_number cX2_number 2 (some .int) (z, h) 0 0 (RO (some (.int (oNumber σ w))) (z, h)) 235 [.ref o, .int w] [] (z, h) 0 0 := by
            refine x_bipush (v := (-2)) dX2_number_235 rfl ?_
            refine x_iret dX2_number_237 (Or.inl rfl) rfl (Nat.le_refl _) ?_
            exact RO.mk (by simp [oNumber, oNumB, oNumC, *])
          by_cases k45_3 : w = 3
          · subst k45_3
            exact x_tableIn (off := 190) (tgt := 235) dX2_number_45 (by decide) (by decide) rfl (by decide) dft
          by_cases k45_4 : w = 4
          · subst k45_4
            exact x_tableIn (off := 190) (tgt := 235) dX2_number_45 (by decide) (by decide) rfl (by decide) dft
          by_cases k45_5 : w = 5
          · subst k45_5
            exact x_tableIn (off := 190) (tgt := 235) dX2_number_45 (by decide) (by decide) rfl (by decide) dft
          by_cases k45_6 : w = 6
          · subst k45_6
            exact x_tableIn (off := 190) (tgt := 235) dX2_number_45 (by decide) (by decide) rfl (by decide) dft
          by_cases k45_7 : w = 7
          · subst k45_7
            exact x_tableIn (off := 190) (tgt := 235) dX2_number_45 (by decide) (by decide) rfl (by decide) dft
          exact x_tableOut (tgt := 235) dX2_number_45 (sw_out fun n h1 h2 => by rcases (show n = 0 ∨ n = 1 ∨ n = 2 ∨ n = 3 ∨ n = 4 ∨ n = 5 ∨ n = 6 ∨ n = 7 ∨ n = 8 ∨ n = 9 ∨ n = 10 ∨ n = 11 ∨ n = 12 ∨ n = 13 by omega) with rfl | rfl | rfl | rfl | rfl | rfl | rfl | rfl | rfl | rfl | rfl | rfl | rfl | rfl; exact k45_0; exact k45_1; exact k45_2; exact k45_3; exact k45_4; exact k45_5; exact k45_6; exact k45_7; exact k45_8; exact k45_9; exact k45_10; exact k45_11; exact k45_12; exact k45_13) (by decide) dft
        · refine x_aload_n dX2_number_34 rfl ?_
          refine x_get dX2_number_35 fX2_9 H.ob rfl ?_
          refine x_iload_n dX2_number_38 rfl ?_
          refine x_bipush (v := 14) dX2_number_39 rfl ?_
          refine x_isub dX2_number_41 ?_
          refine e_ald dX2_number_42 H.r0 (ix14 c25 c31) ?_
          refine x_iret dX2_number_43 (Or.inl rfl) rfl (Nat.le_refl _) ?_
          exact RO.mk (by simp [oNumber, oNumB, oNumC, *])
    · refine x_aload_n dX2_number_11 rfl ?_
      refine x_get dX2_number_12 fX2_18 H.ob rfl ?_
      refine x_iload_n dX2_number_15 rfl ?_
      refine x_iconst (v := 3) dX2_number_16 rfl ?_
      refine x_isub dX2_number_17 ?_
      refine c_VR dX2_number_18 kX1_inState iX1_inState q209 (t_LinState _ H.lo hL _) H.lo.ob rfl rfl rfl (Nat.le_of_ble_eq_true rfl) ⟨Nat.le_refl _, Nat.le_refl _⟩ ?_
      refine x_iret dX2_number_21 (Or.inl rfl) rfl (Nat.le_refl _) ?_
      exact RO.mk (by simp [oNumber, oNumB, oNumC, *])
