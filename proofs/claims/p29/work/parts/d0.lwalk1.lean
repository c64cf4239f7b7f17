/-! HELPERS OF THE LAW: what seen sees; a set's size; the lots add up -/
def sF1 (σ : Sg) (k : Nat) (a : Int64) : Int64 := (31 : Int64) * ((31 : Int64) * a + (oNumber σ (nI k)).toInt64) + (oPaid σ (nI k)).toInt64
def sF2 (σ : Sg) (k : Nat) (a : Int64) : Int64 := (31 : Int64) * ((31 : Int64) * a + (oOf σ (nI k / 4) (nI k - nI k / 4 * 4)).toInt64) + (oHeir σ (nI k / 3) (if nI k - nI k / 3 * 3 = 1 then 3 else 0)).toInt64
def sF3 (σ : Sg) (k : Nat) (a : Int64) : Int64 := (31 : Int64) * a + (oOfClaim σ (nI k / 7) (nI k - nI k / 7 * 7)).toInt64
def vSeen (σ : Sg) : Int64 := lp (sF3 σ) 0 210 (lp (sF2 σ) 0 48 (lp (sF1 σ) 0 19 181))
theorem xc_lo (σ : Sg) (n : Nat) (P : PD) {k : Nat} (hk : k < 19) : xCount σ n P (nI k) = oNumber σ (nI k) := by
  unfold xCount
  rw [if_neg (fun e => by have := nI_inj2 (b := 19) (by omega) (by decide) e; omega), if_neg (fun e => by have := nI_inj2 (b := 20) (by omega) (by decide) e; omega)]
theorem krn_nat : ∀ (n x : Nat), 0 < x → x < 2 ^ n → cnt (fun i => x.testBit i && (x - 1).testBit i) 0 n + 1 = cnt (fun i => x.testBit i) 0 n
  | 0, x, h1, h2 => by
    rw [Nat.pow_zero] at h2
    omega
  | n + 1, x, h1, h2 => by
    have e1 : cnt (fun i => x.testBit i && (x - 1).testBit i) 0 (n + 1) = (if (x.testBit 0 && (x - 1).testBit 0) = true then 1 else 0) + cnt (fun i => (x / 2).testBit i && ((x - 1) / 2).testBit i) 0 n := by
      show _ + cnt _ (0 + 1) n = _
      rw [cnt_sh (q := fun i => (x / 2).testBit i && ((x - 1) / 2).testBit i) 1 n 0 fun j _ _ => by rw [Nat.testBit_succ, Nat.testBit_succ]]
    have e2 : cnt (fun i => x.testBit i) 0 (n + 1) = (if x.testBit 0 = true then 1 else 0) + cnt (fun i => (x / 2).testBit i) 0 n := by
      show _ + cnt _ (0 + 1) n = _
      rw [cnt_sh (q := fun i => (x / 2).testBit i) 1 n 0 fun j _ _ => by rw [Nat.testBit_succ]]
    rw [e1, e2]
    have hp : 2 ^ (n + 1) = 2 * 2 ^ n := by rw [Nat.pow_succ]; omega
    rw [Nat.testBit_zero, Nat.testBit_zero]
    by_cases q : x % 2 = 1
    · have q2 : ¬ (x - 1) % 2 = 1 := by omega
      have q3 : (x - 1) / 2 = x / 2 := by omega
      rw [q3, decide_eq_true q, decide_eq_false q2]
      have e3 : cnt (fun i => (x / 2).testBit i && (x / 2).testBit i) 0 n = cnt (fun i => (x / 2).testBit i) 0 n := cnt_ext _ _ fun j _ _ => Bool.and_self _
      rw [e3, if_neg (by decide), if_pos rfl]
      omega
    · have q3 : (x - 1) / 2 = x / 2 - 1 := by omega
      have ih := krn_nat n (x / 2) (by omega) (by omega)
      rw [q3, decide_eq_false q, Bool.false_and, if_neg (by decide)]
      omega
theorem krn {x : Int32} (h : ¬ x = 0) : cnt (gb (x &&& (x - 1))) 0 32 + 1 = cnt (gb x) 0 32 := by
  have hx := x.toBitVec.isLt
  have h0 : x.toBitVec.toNat ≠ 0 := fun e => h (Int32.toBitVec_inj.mp (BitVec.eq_of_toNat_eq e))
  have e1 : (x - 1).toBitVec.toNat = x.toBitVec.toNat - 1 := i_sub x 1 (by show 1 ≤ _; omega)
  have k := krn_nat 32 x.toBitVec.toNat (by omega) hx
  have a1 : cnt (gb x) 0 32 = cnt (fun i => x.toBitVec.toNat.testBit i) 0 32 := cnt_ext _ _ fun j _ _ => (BitVec.testBit_toNat _).symm
  have a2 : cnt (gb (x &&& (x - 1))) 0 32 = cnt (fun i => x.toBitVec.toNat.testBit i && (x.toBitVec.toNat - 1).testBit i) 0 32 := cnt_ext _ _ fun j _ _ => by
    rw [gb_and, ← e1]
    unfold gb
    rw [BitVec.testBit_toNat, BitVec.testBit_toNat]
  rw [a1, a2]
  exact k
theorem cnt_z {x : Int32} (h : x = 0) : cnt (gb x) 0 32 = 0 := by
  subst h
  exact cnt_0 _ _ fun j _ _ => gb_0 j
theorem lotsEnd {σ : Sg} (h : QI σ) : (¬ nI (kN σ) < nI (sN (fN σ) (nLo σ))) ∧ (nI (sN (vN σ) (nLo σ)) = nI (sN (wN σ) (nLo σ)) + nI (kN σ) + nI (sN (bN σ) (nCl σ))) ∧ ¬ nI (sN (bN σ) (nCl σ)) < nI (sN (gN σ) (nLo σ)) := by
  have t := h.1.tot h.2.1.lok.2
  obtain ⟨_, s1, s2, s3⟩ := h.1.2.2
  refine ⟨?_, ?_, ?_⟩
  · rw [nI_ltI (by omega) (by omega)]
    omega
  · rw [nI_add, nI_add, s1]
  · rw [nI_ltI (by omega) (by omega)]
    omega

set_option maxRecDepth 100000 in
set_option maxHeartbeats 8000000 in
theorem L_seen3 {st : Nat → Nat} (d : Nat) {z : Nat} {h : Nat → Option va_E} {x : Nat} {σ τ : Sg} {n : Nat} {sl : Nat → Sg} {sv : Nat → Int32} (hX : XS h x σ n τ sl sv)  : ∀ (k i : Nat) (a : Int64), i + k = 210 → lp (sF3 σ) i k a = vSeen σ → Ev st (d + 8) yL_seen cL_seen 4 (some .long) (z, h) 0 0 (RO (some (.long (vSeen σ))) (z, h)) 101 [.ref x, .long a, .null, .int (nI i)] [] (z, h) 0 0 := by
  intro k
  induction k with
  | zero =>
    intro i a hi hR
    rw [lp_0] at hR
    subst hR
    refine x_iload_n dL_seen_101 rfl ?_
    refine x_sipush (v := 210) dL_seen_102 rfl ?_
    refine x_icmp_ge (tgt := 134) dL_seen_105 (by decide) (fun _ => ?_) (fun c => absurd ((nI_leI (a := 210) (b := i) (by decide) (by omega)).mpr (by omega)) c)
    refine x_lload_n dL_seen_134 rfl ?_
    refine x_lret dL_seen_135 rfl rfl (Nat.le_refl _) ?_
    exact ⟨rfl, rfl⟩
  | succ k ih =>
    intro i a hi hR
    rw [lp_s] at hR
    refine x_iload_n dL_seen_101 rfl ?_
    refine x_sipush (v := 210) dL_seen_102 rfl ?_
    refine x_icmp_ge (tgt := 134) dL_seen_105 (by decide) (fun c => absurd c (fun e => by have := (nI_leI (a := 210) (b := i) (by decide) (by omega)).mp e; omega)) (fun _ => ?_)
    refine x_ldc2 dL_seen_108 q300 ?_
    refine x_lload_n dL_seen_111 rfl ?_
    refine x_lmul dL_seen_112 ?_
    refine x_aload_n dL_seen_113 rfl ?_
    refine x_iload_n dL_seen_114 rfl ?_
    refine x_bipush (v := 7) dL_seen_115 rfl ?_
    refine x_idiv dL_seen_117 (by decide) ?_
    refine x_iload_n dL_seen_118 rfl ?_
    refine x_bipush (v := 7) dL_seen_119 rfl ?_
    refine x_irem dL_seen_121 (by decide) ?_
    refine l_rd (v := oOfClaim σ (nI i / 7) (nI i - nI i / 7 * 7)) dL_seen_122 kX4_ofClaim iX4_ofClaim q364 hX (fun _ _ _ a1 a2 a3 => x_ofClaim _ a1 a2 a3 _ _) rfl rfl rfl (Nat.le_of_ble_eq_true rfl) ⟨Nat.le_refl _, Nat.le_refl _⟩ rfl ?_
    refine x_i2l dL_seen_125 ?_
    refine x_ladd dL_seen_126 ?_
    refine e_lsd_n (b := sF3 σ i a) (lv2 := [.ref x, .long (sF3 σ i a), .null, .int (nI i)]) dL_seen_127 (Nat.le_of_ble_eq_true rfl) rfl rfl rfl ?_
    refine e_incd (b := nI (i + 1)) (lv2 := [.ref x, .long (sF3 σ i a), .null, .int (nI (i + 1))]) dL_seen_128 rfl (nI_1 _) rfl rfl ?_
    refine x_goto (tgt := 101) dL_seen_131 (by decide) ?_
    exact ih (i + 1) _ (by omega) hR

set_option maxRecDepth 100000 in
set_option maxHeartbeats 8000000 in
theorem L_seen2 {st : Nat → Nat} (d : Nat) {z : Nat} {h : Nat → Option va_E} {x : Nat} {σ τ : Sg} {n : Nat} {sl : Nat → Sg} {sv : Nat → Int32} (hX : XS h x σ n τ sl sv)  : ∀ (k i : Nat) (a : Int64), i + k = 48 → lp (sF2 σ) i k a = lp (sF2 σ) 0 48 (lp (sF1 σ) 0 19 181) → Ev st (d + 8) yL_seen cL_seen 4 (some .long) (z, h) 0 0 (RO (some (.long (vSeen σ))) (z, h)) 44 [.ref x, .long a, .null, .int (nI i)] [] (z, h) 0 0 := by
  intro k
  induction k with
  | zero =>
    intro i a hi hR
    rw [lp_0] at hR
    subst hR
    refine x_iload_n dL_seen_44 rfl ?_
    refine x_bipush (v := 48) dL_seen_45 rfl ?_
    refine x_icmp_ge (tgt := 99) dL_seen_47 (by decide) (fun _ => ?_) (fun c => absurd ((nI_leI (a := 48) (b := i) (by decide) (by omega)).mpr (by omega)) c)
    refine x_iconst (v := 0) dL_seen_99 rfl ?_
    refine e_isd_n (b := nI 0) (lv2 := [.ref x, .long (lp (sF2 σ) 0 48 (lp (sF1 σ) 0 19 181)), .null, .int (nI 0)]) dL_seen_100 (Nat.le_of_ble_eq_true rfl) rfl rfl rfl ?_
    exact L_seen3 d hX 210 0 _ rfl rfl
  | succ k ih =>
    intro i a hi hR
    rw [lp_s] at hR
    refine x_iload_n dL_seen_44 rfl ?_
    refine x_bipush (v := 48) dL_seen_45 rfl ?_
    refine x_icmp_ge (tgt := 99) dL_seen_47 (by decide) (fun c => absurd c (fun e => by have := (nI_leI (a := 48) (b := i) (by decide) (by omega)).mp e; omega)) (fun _ => ?_)
    refine x_ldc2 dL_seen_50 q300 ?_
    refine x_ldc2 dL_seen_53 q300 ?_
    refine x_lload_n dL_seen_56 rfl ?_
    refine x_lmul dL_seen_57 ?_
    refine x_aload_n dL_seen_58 rfl ?_
    refine x_iload_n dL_seen_59 rfl ?_
    refine x_iconst (v := 4) dL_seen_60 rfl ?_
    refine x_idiv dL_seen_61 (by decide) ?_
    refine x_iload_n dL_seen_62 rfl ?_
    refine x_iconst (v := 4) dL_seen_63 rfl ?_
    refine x_irem dL_seen_64 (by decide) ?_
    refine l_rd (v := oOf σ (nI i / 4) (nI i - nI i / 4 * 4)) dL_seen_65 kX4_of iX4_of q309 hX (fun _ _ _ a1 a2 a3 => x_of _ a1 a2 a3 _ _) rfl rfl rfl (Nat.le_of_ble_eq_true rfl) ⟨Nat.le_refl _, Nat.le_refl _⟩ rfl ?_
    refine x_i2l dL_seen_68 ?_
    refine x_ladd dL_seen_69 ?_
    refine x_lmul dL_seen_70 ?_
    refine x_aload_n dL_seen_71 rfl ?_
    refine x_iload_n dL_seen_72 rfl ?_
    refine x_iconst (v := 3) dL_seen_73 rfl ?_
    refine x_idiv dL_seen_74 (by decide) ?_
    have j87 : Ev st (d + 8) yL_seen cL_seen 4 (some .long) (z, h) 0 0 (RO (some (.long (vSeen σ))) (z, h)) 87 [.ref x, .long a, .null, .int (nI i)] [.int (if nI i - nI i / 3 * 3 = 1 then 3 else 0), .int (nI i / 3), .ref x, .long ((31) * (((31) * a) + ((oOf σ (nI i / 4) (nI i - nI i / 4 * 4)).toInt64)))] (z, h) 0 0 := by
      refine l_rd (v := oHeir σ (nI i / 3) (if nI i - nI i / 3 * 3 = 1 then 3 else 0)) dL_seen_87 kX4_heir iX4_heir q340 hX (fun _ _ _ a1 a2 a3 => x_heir _ a1 a2 a3 _ _) rfl rfl rfl (Nat.le_of_ble_eq_true rfl) ⟨Nat.le_refl _, Nat.le_refl _⟩ rfl ?_
      refine x_i2l dL_seen_90 ?_
      refine x_ladd dL_seen_91 ?_
      refine e_lsd_n (b := sF2 σ i a) (lv2 := [.ref x, .long (sF2 σ i a), .null, .int (nI i)]) dL_seen_92 (Nat.le_of_ble_eq_true rfl) rfl rfl rfl ?_
      refine e_incd (b := nI (i + 1)) (lv2 := [.ref x, .long (sF2 σ i a), .null, .int (nI (i + 1))]) dL_seen_93 rfl (nI_1 _) rfl rfl ?_
      refine x_goto (tgt := 44) dL_seen_96 (by decide) ?_
      exact ih (i + 1) _ (by omega) hR
    refine x_iload_n dL_seen_75 rfl ?_
    refine x_iconst (v := 3) dL_seen_76 rfl ?_
    refine x_irem dL_seen_77 (by decide) ?_
    refine x_iconst (v := 1) dL_seen_78 rfl ?_
    refine x_icmp_ne (tgt := 86) dL_seen_79 (by decide) (fun c79 => ?_) (fun c79 => ?_)
    · refine x_iconst (v := 0) dL_seen_86 rfl ?_
      exact e_top (b := (if nI i - nI i / 3 * 3 = 1 then 3 else 0)) (by first | exact (if_neg c79).symm | exact (if_pos c79).symm) j87
    · refine x_iconst (v := 3) dL_seen_82 rfl ?_
      refine x_goto (tgt := 87) dL_seen_83 (by decide) ?_
      exact e_top (b := (if nI i - nI i / 3 * 3 = 1 then 3 else 0)) (by first | exact (if_neg c79).symm | exact (if_pos c79).symm) j87

set_option maxRecDepth 100000 in
set_option maxHeartbeats 8000000 in
theorem L_seen1 {st : Nat → Nat} (d : Nat) {z : Nat} {h : Nat → Option va_E} {x : Nat} {σ τ : Sg} {n : Nat} {sl : Nat → Sg} {sv : Nat → Int32} (hX : XS h x σ n τ sl sv)  : ∀ (k i : Nat) (a : Int64), i + k = 19 → lp (sF1 σ) i k a = lp (sF1 σ) 0 19 181 → Ev st (d + 8) yL_seen cL_seen 4 (some .long) (z, h) 0 0 (RO (some (.long (vSeen σ))) (z, h)) 6 [.ref x, .long a, .null, .int (nI i)] [] (z, h) 0 0 := by
  intro k
  induction k with
  | zero =>
    intro i a hi hR
    rw [lp_0] at hR
    subst hR
    refine x_iload_n dL_seen_6 rfl ?_
    refine x_bipush (v := 19) dL_seen_7 rfl ?_
    refine x_icmp_ge (tgt := 42) dL_seen_9 (by decide) (fun _ => ?_) (fun c => absurd ((nI_leI (a := 19) (b := i) (by decide) (by omega)).mpr (by omega)) c)
    refine x_iconst (v := 0) dL_seen_42 rfl ?_
    refine e_isd_n (b := nI 0) (lv2 := [.ref x, .long (lp (sF1 σ) 0 19 181), .null, .int (nI 0)]) dL_seen_43 (Nat.le_of_ble_eq_true rfl) rfl rfl rfl ?_
    exact L_seen2 d hX 48 0 _ rfl rfl
  | succ k ih =>
    intro i a hi hR
    rw [lp_s] at hR
    refine x_iload_n dL_seen_6 rfl ?_
    refine x_bipush (v := 19) dL_seen_7 rfl ?_
    refine x_icmp_ge (tgt := 42) dL_seen_9 (by decide) (fun c => absurd c (fun e => by have := (nI_leI (a := 19) (b := i) (by decide) (by omega)).mp e; omega)) (fun _ => ?_)
    refine x_ldc2 dL_seen_12 q300 ?_
    refine x_ldc2 dL_seen_15 q300 ?_
    refine x_lload_n dL_seen_18 rfl ?_
    refine x_lmul dL_seen_19 ?_
    refine x_aload_n dL_seen_20 rfl ?_
    refine x_iload_n dL_seen_21 rfl ?_
    refine l_cn (v := oNumber σ (nI i)) dL_seen_22 q201 hX (Nat.le_of_ble_eq_true rfl) ⟨Nat.le_refl _, Nat.le_refl _⟩ (fun _ _ => xc_lo _ _ _ (by omega)) ?_
    refine x_i2l dL_seen_25 ?_
    refine x_ladd dL_seen_26 ?_
    refine x_lmul dL_seen_27 ?_
    refine x_aload_n dL_seen_28 rfl ?_
    refine x_iload_n dL_seen_29 rfl ?_
    refine l_rd (v := oPaid σ (nI i)) dL_seen_30 kX4_paid iX4_paid q301 hX (fun _ _ _ a1 a2 a3 => x_paid _ a1 a2 a3 _) rfl rfl rfl (Nat.le_of_ble_eq_true rfl) ⟨Nat.le_refl _, Nat.le_refl _⟩ rfl ?_
    refine x_i2l dL_seen_33 ?_
    refine x_ladd dL_seen_34 ?_
    refine e_lsd_n (b := sF1 σ i a) (lv2 := [.ref x, .long (sF1 σ i a), .null, .int (nI i)]) dL_seen_35 (Nat.le_of_ble_eq_true rfl) rfl rfl rfl ?_
    refine e_incd (b := nI (i + 1)) (lv2 := [.ref x, .long (sF1 σ i a), .null, .int (nI (i + 1))]) dL_seen_36 rfl (nI_1 _) rfl rfl ?_
    refine x_goto (tgt := 6) dL_seen_39 (by decide) ?_
    exact ih (i + 1) _ (by omega) hR

set_option maxRecDepth 100000 in
set_option maxHeartbeats 8000000 in
theorem t_seen {st : Nat → Nat} (d : Nat) {z : Nat} {h : Nat → Option va_E} {x : Nat} {σ τ : Sg} {n : Nat} {sl : Nat → Sg} {sv : Nat → Int32} (hX : XS h x σ n τ sl sv)  : CT st (d + 8) yL_seen cL_seen 4 (some .long) [.ref x] (z, h) 0 0 (RO (some (.long (vSeen σ))) (z, h)) := by
  refine CT.of (lv := [.ref x, .null, .null, .null]) (by decide) (Nat.le_of_ble_eq_true rfl) rfl rfl ?_
  refine x_ldc2 dL_seen_0 q299 ?_
  refine e_lsd_n (b := (181)) (lv2 := [.ref x, .long (181), .null, .null]) dL_seen_3 (Nat.le_of_ble_eq_true rfl) rfl rfl rfl ?_
  refine x_iconst (v := 0) dL_seen_4 rfl ?_
  refine e_isd_n (b := nI 0) (lv2 := [.ref x, .long (181), .null, .int (nI 0)]) dL_seen_5 (Nat.le_of_ble_eq_true rfl) rfl rfl rfl ?_
  exact L_seen1 d hX 19 0 _ rfl rfl

set_option maxRecDepth 100000 in
set_option maxHeartbeats 8000000 in
theorem L_size {st : Nat → Nat} (d : Nat) {z : Nat} {h : Nat → Option va_E} {s : Int32}  : ∀ (k m : Nat) (l : Int32), cnt (gb l) 0 32 = k → m + k = cnt (gb s) 0 32 → Ev st (d + 1) yL_size cL_size 3 (some .int) (z, h) 0 0 (RO (some (.int (sBit s))) (z, h)) 4 [.int s, .int (nI m), .int l] [] (z, h) 0 0 := by
  intro k
  induction k with
  | zero =>
    intro m l hl hm
    refine x_iload_n dL_size_4 rfl ?_
    refine x_if_eq (tgt := 20) dL_size_5 (by decide) (fun _ => ?_) (fun c => absurd (Classical.byContradiction fun q => by have := krn q; omega) c)
    refine x_iload_n dL_size_20 rfl ?_
    refine x_iret dL_size_21 (Or.inl rfl) rfl (Nat.le_refl _) ?_
    exact ⟨by rw [sBit_cnt, show m = cnt (gb s) 0 32 by omega], rfl⟩
  | succ k ih =>
    intro m l hl hm
    refine x_iload_n dL_size_4 rfl ?_
    refine x_if_eq (tgt := 20) dL_size_5 (by decide) (fun c => by have := cnt_z c; omega) (fun c5 => ?_)
    refine e_incd (b := nI (m + 1)) (lv2 := [.int s, .int (nI (m + 1)), .int l]) dL_size_8 rfl (nI_1 _) rfl rfl ?_
    refine x_iload_n dL_size_11 rfl ?_
    refine x_iload_n dL_size_12 rfl ?_
    refine x_iconst (v := 1) dL_size_13 rfl ?_
    refine x_isub dL_size_14 ?_
    refine x_iand dL_size_15 ?_
    refine e_isd_n (b := (l &&& (l - 1))) (lv2 := [.int s, .int (nI (m + 1)), .int (l &&& (l - 1))]) dL_size_16 (Nat.le_of_ble_eq_true rfl) rfl rfl rfl ?_
    refine x_goto (tgt := 4) dL_size_17 (by decide) ?_
    refine ih _ _ ?_ (by omega)
    have := krn c5
    omega

set_option maxRecDepth 100000 in
set_option maxHeartbeats 8000000 in
theorem t_size {st : Nat → Nat} (d : Nat) {z : Nat} {h : Nat → Option va_E} {s : Int32}  : CT st (d + 1) yL_size cL_size 3 (some .int) [.int s] (z, h) 0 0 (RO (some (.int (sBit s))) (z, h)) := by
  refine CT.of (lv := [.int s, .null, .null]) (by decide) (Nat.le_of_ble_eq_true rfl) rfl rfl ?_
  refine x_iconst (v := 0) dL_size_0 rfl ?_
  refine e_isd_n (b := nI 0) (lv2 := [.int s, .int (nI 0), .null]) dL_size_1 (Nat.le_of_ble_eq_true rfl) rfl rfl rfl ?_
  refine x_iload_n dL_size_2 rfl ?_
  refine e_isd_n (b := s) (lv2 := [.int s, .int (nI 0), .int s]) dL_size_3 (Nat.le_of_ble_eq_true rfl) rfl rfl rfl ?_
  exact L_size d _ 0 s rfl (Nat.zero_add _)

theorem xc_st (σ : Sg) (n : Nat) (P : PD) {t : Nat} (ht : t < 5) : xCount σ n P (3 + nI t) = lIn σ (nI t) := by
  rcases (show t = 0 ∨ t = 1 ∨ t = 2 ∨ t = 3 ∨ t = 4 by omega) with rfl | rfl | rfl | rfl | rfl
  · exact xn_3 n P
  · exact xn_4 n P
  · exact xn_5 n P
  · exact xn_6 n P
  · exact xn_7 n P

set_option maxRecDepth 100000 in
set_option maxHeartbeats 8000000 in
theorem L_areLots {st : Nat → Nat} (d : Nat) {z : Nat} {h : Nat → Option va_E} {x : Nat} {σ τ : Sg} {n : Nat} {sl : Nat → Sg} {sv : Nat → Int32} (hX : XS h x σ n τ sl sv)  : ∀ (k i : Nat), i + k = nLo σ → ∀ a9 a10 a11 : Value, Ev st (d + 8) yL_areLots cL_areLots 12 (some .boolean) (z, h) 0 0 (RO (some (.int 1)) (z, h)) 117 [.ref x, .int (nI (nLo σ)), .int (nI (sN (vN σ) i)), .int (nI (sN (wN σ) i)), .int (nI (sN (fN σ) i)), .int (nI (sN (gN σ) i)), .int (SO σ i), .int 1, .int (nI i), a9, a10, a11] [] (z, h) 0 0 := by
  intro k
  induction k with
  | zero =>
    intro i hi a9 a10 a11
    obtain rfl : i = nLo σ := by omega
    refine x_iload dL_areLots_117 rfl ?_
    refine x_iload_n dL_areLots_119 rfl ?_
    refine x_icmp_ge (tgt := 545) dL_areLots_120 (by decide) (fun _ => ?_) (fun c => absurd (Int32.le_refl _) c)
    refine x_iload dL_areLots_545 rfl ?_
    refine x_if_eq (tgt := 636) dL_areLots_547 (by decide) (fun c => absurd c (by decide)) (fun _ => ?_)
    refine x_iload_n dL_areLots_550 rfl ?_
    refine x_aload_n dL_areLots_551 rfl ?_
    refine x_bipush (v := 8) dL_areLots_552 rfl ?_
    refine l_cn (v := nI (sN (vN σ) (nLo σ))) dL_areLots_554 q201 hX (Nat.le_of_ble_eq_true rfl) ⟨Nat.le_refl _, Nat.le_refl _⟩ (fun _ _ => xn_8 hX.q _ _) ?_
    refine x_icmp_ne (tgt := 636) dL_areLots_557 (by decide) (fun c => absurd rfl c) (fun _ => ?_)
    refine x_iload_n dL_areLots_560 rfl ?_
    refine x_aload_n dL_areLots_561 rfl ?_
    refine x_bipush (v := 9) dL_areLots_562 rfl ?_
    refine l_cn (v := nI (sN (wN σ) (nLo σ))) dL_areLots_564 q201 hX (Nat.le_of_ble_eq_true rfl) ⟨Nat.le_refl _, Nat.le_refl _⟩ (fun _ _ => xn_9 hX.q _ _) ?_
    refine x_icmp_ne (tgt := 636) dL_areLots_567 (by decide) (fun c => absurd rfl c) (fun _ => ?_)
    refine x_iload dL_areLots_570 rfl ?_
    refine x_aload_n dL_areLots_572 rfl ?_
    refine x_bipush (v := 12) dL_areLots_573 rfl ?_
    refine l_cn (v := cStanding σ) dL_areLots_575 q201 hX (Nat.le_of_ble_eq_true rfl) ⟨Nat.le_refl _, Nat.le_refl _⟩ (fun _ _ => xn_12 hX.q _ _) ?_
    refine x_icmp_ne (tgt := 636) dL_areLots_578 (by decide) (fun c => absurd (SO_all hX.q) c) (fun _ => ?_)
    refine x_aload_n dL_areLots_581 rfl ?_
    refine x_bipush (v := 10) dL_areLots_582 rfl ?_
    refine l_cn (v := nI (kN σ)) dL_areLots_584 q201 hX (Nat.le_of_ble_eq_true rfl) ⟨Nat.le_refl _, Nat.le_refl _⟩ (fun _ _ => xn_10 hX.q _ _) ?_
    refine x_iload dL_areLots_587 rfl ?_
    refine x_icmp_lt (tgt := 636) dL_areLots_589 (by decide) (fun c => absurd c ((lotsEnd hX.q).1)) (fun _ => ?_)
    refine x_aload_n dL_areLots_592 rfl ?_
    refine x_bipush (v := 8) dL_areLots_593 rfl ?_
    refine l_cn (v := nI (sN (vN σ) (nLo σ))) dL_areLots_595 q201 hX (Nat.le_of_ble_eq_true rfl) ⟨Nat.le_refl _, Nat.le_refl _⟩ (fun _ _ => xn_8 hX.q _ _) ?_
    refine x_aload_n dL_areLots_598 rfl ?_
    refine x_bipush (v := 9) dL_areLots_599 rfl ?_
    refine l_cn (v := nI (sN (wN σ) (nLo σ))) dL_areLots_601 q201 hX (Nat.le_of_ble_eq_true rfl) ⟨Nat.le_refl _, Nat.le_refl _⟩ (fun _ _ => xn_9 hX.q _ _) ?_
    refine x_aload_n dL_areLots_604 rfl ?_
    refine x_bipush (v := 10) dL_areLots_605 rfl ?_
    refine l_cn (v := nI (kN σ)) dL_areLots_607 q201 hX (Nat.le_of_ble_eq_true rfl) ⟨Nat.le_refl _, Nat.le_refl _⟩ (fun _ _ => xn_10 hX.q _ _) ?_
    refine x_iadd dL_areLots_610 ?_
    refine x_aload_n dL_areLots_611 rfl ?_
    refine x_bipush (v := 11) dL_areLots_612 rfl ?_
    refine l_cn (v := nI (sN (bN σ) (nCl σ))) dL_areLots_614 q201 hX (Nat.le_of_ble_eq_true rfl) ⟨Nat.le_refl _, Nat.le_refl _⟩ (fun _ _ => xn_11 hX.q _ _) ?_
    refine x_iadd dL_areLots_617 ?_
    refine x_icmp_ne (tgt := 636) dL_areLots_618 (by decide) (fun c => absurd ((lotsEnd hX.q).2.1) c) (fun _ => ?_)
    refine x_aload_n dL_areLots_621 rfl ?_
    refine x_bipush (v := 11) dL_areLots_622 rfl ?_
    refine l_cn (v := nI (sN (bN σ) (nCl σ))) dL_areLots_624 q201 hX (Nat.le_of_ble_eq_true rfl) ⟨Nat.le_refl _, Nat.le_refl _⟩ (fun _ _ => xn_11 hX.q _ _) ?_
    refine x_iload dL_areLots_627 rfl ?_
    refine x_icmp_lt (tgt := 636) dL_areLots_629 (by decide) (fun c => absurd c ((lotsEnd hX.q).2.2)) (fun _ => ?_)
    refine x_iconst (v := 1) dL_areLots_632 rfl ?_
    refine x_goto (tgt := 637) dL_areLots_633 (by decide) ?_
    refine x_iret dL_areLots_637 (Or.inr ⟨rfl, rfl⟩) rfl (Nat.le_refl _) ?_
    exact ⟨rfl, rfl⟩
  | succ k ih =>
    intro i hi a9 a10 a11
    have l12 := hX.q.2.1.lok.2
    have hi2 : i < nLo σ := by omega
    obtain ⟨t, ht, et⟩ := (hX.q.1.1 i hi2).2.1
    obtain ⟨f214, f222, f227, f233, f250, f275, f297, f312, f328, f338, f353, f368, f384, f403, f427, f488, f506, f519⟩ := lotF hX.q hi2 ht et
    obtain ⟨w1, w2, w3, w4, w5, w6⟩ := wN_in ht et
    refine x_iload dL_areLots_117 rfl ?_
    refine x_iload_n dL_areLots_119 rfl ?_
    refine x_icmp_ge (tgt := 545) dL_areLots_120 (by decide) (fun c => absurd c (fun e => by have := (nI_leI (by omega) (by omega)).mp e; omega)) (fun _ => ?_)
    refine x_iload dL_areLots_123 rfl ?_
    refine x_if_eq (tgt := 545) dL_areLots_125 (by decide) (fun c => absurd c (by decide)) (fun _ => ?_)
    refine x_aload_n dL_areLots_128 rfl ?_
    refine x_iload dL_areLots_129 rfl ?_
    refine x_iconst (v := 0) dL_areLots_131 rfl ?_
    refine l_rd (v := nI (vN σ i)) dL_areLots_132 kX4_of iX4_of q309 hX (fun _ _ _ a1 a2 a3 => x_of _ a1 a2 a3 _ _) rfl rfl rfl (Nat.le_of_ble_eq_true rfl) ⟨Nat.le_refl _, Nat.le_refl _⟩ ((of_n hX.q.2.1.lok hi2).1.trans (hX.q.1.1.val hi2).2.2) ?_
    refine e_isd (b := nI (vN σ i)) (lv2 := [.ref x, .int (nI (nLo σ)), .int (nI (sN (vN σ) i)), .int (nI (sN (wN σ) i)), .int (nI (sN (fN σ) i)), .int (nI (sN (gN σ) i)), .int (SO σ i), .int 1, .int (nI i), .int (nI (vN σ i)), a10, a11]) dL_areLots_135 (Nat.le_of_ble_eq_true rfl) rfl rfl rfl ?_
    refine x_aload_n dL_areLots_137 rfl ?_
    refine x_iload dL_areLots_138 rfl ?_
    refine x_iconst (v := 1) dL_areLots_140 rfl ?_
    refine l_rd (v := nI t) dL_areLots_141 kX4_of iX4_of q309 hX (fun _ _ _ a1 a2 a3 => x_of _ a1 a2 a3 _ _) rfl rfl rfl (Nat.le_of_ble_eq_true rfl) ⟨Nat.le_refl _, Nat.le_refl _⟩ ((of_n hX.q.2.1.lok hi2).2.1.trans et) ?_
    refine e_isd (b := nI t) (lv2 := [.ref x, .int (nI (nLo σ)), .int (nI (sN (vN σ) i)), .int (nI (sN (wN σ) i)), .int (nI (sN (fN σ) i)), .int (nI (sN (gN σ) i)), .int (SO σ i), .int 1, .int (nI i), .int (nI (vN σ i)), .int (nI t), a11]) dL_areLots_144 (Nat.le_of_ble_eq_true rfl) rfl rfl rfl ?_
    refine x_iload_n dL_areLots_146 rfl ?_
    refine x_iload dL_areLots_147 rfl ?_
    refine x_iadd dL_areLots_149 ?_
    refine e_isd_n (b := nI (sN (vN σ) (i + 1))) (lv2 := [.ref x, .int (nI (nLo σ)), .int (nI (sN (vN σ) (i + 1))), .int (nI (sN (wN σ) i)), .int (nI (sN (fN σ) i)), .int (nI (sN (gN σ) i)), .int (SO σ i), .int 1, .int (nI i), .int (nI (vN σ i)), .int (nI t), a11]) dL_areLots_150 (Nat.le_of_ble_eq_true rfl) rfl (nI_add _ _) rfl ?_
    refine x_iload_n dL_areLots_151 rfl ?_
    have j164 : Ev st (d + 8) yL_areLots cL_areLots 12 (some .boolean) (z, h) 0 0 (RO (some (.int 1)) (z, h)) 164 [.ref x, .int (nI (nLo σ)), .int (nI (sN (vN σ) (i + 1))), .int (nI (sN (wN σ) i)), .int (nI (sN (fN σ) i)), .int (nI (sN (gN σ) i)), .int (SO σ i), .int 1, .int (nI i), .int (nI (vN σ i)), .int (nI t), a11] [.int (nI (wN σ i)), .int (nI (sN (wN σ) i))] (z, h) 0 0 := by
      refine x_iadd dL_areLots_164 ?_
      refine e_isd_n (b := nI (sN (wN σ) (i + 1))) (lv2 := [.ref x, .int (nI (nLo σ)), .int (nI (sN (vN σ) (i + 1))), .int (nI (sN (wN σ) (i + 1))), .int (nI (sN (fN σ) i)), .int (nI (sN (gN σ) i)), .int (SO σ i), .int 1, .int (nI i), .int (nI (vN σ i)), .int (nI t), a11]) dL_areLots_165 (Nat.le_of_ble_eq_true rfl) rfl (nI_add _ _) rfl ?_
      refine x_iload dL_areLots_166 rfl ?_
      have j180 : Ev st (d + 8) yL_areLots cL_areLots 12 (some .boolean) (z, h) 0 0 (RO (some (.int 1)) (z, h)) 180 [.ref x, .int (nI (nLo σ)), .int (nI (sN (vN σ) (i + 1))), .int (nI (sN (wN σ) (i + 1))), .int (nI (sN (fN σ) i)), .int (nI (sN (gN σ) i)), .int (SO σ i), .int 1, .int (nI i), .int (nI (vN σ i)), .int (nI t), a11] [.int (nI (fN σ i)), .int (nI (sN (fN σ) i))] (z, h) 0 0 := by
        refine x_iadd dL_areLots_180 ?_
        refine e_isd (b := nI (sN (fN σ) (i + 1))) (lv2 := [.ref x, .int (nI (nLo σ)), .int (nI (sN (vN σ) (i + 1))), .int (nI (sN (wN σ) (i + 1))), .int (nI (sN (fN σ) (i + 1))), .int (nI (sN (gN σ) i)), .int (SO σ i), .int 1, .int (nI i), .int (nI (vN σ i)), .int (nI t), a11]) dL_areLots_181 (Nat.le_of_ble_eq_true rfl) rfl (nI_add _ _) rfl ?_
        refine x_iload dL_areLots_183 rfl ?_
        have j197 : Ev st (d + 8) yL_areLots cL_areLots 12 (some .boolean) (z, h) 0 0 (RO (some (.int 1)) (z, h)) 197 [.ref x, .int (nI (nLo σ)), .int (nI (sN (vN σ) (i + 1))), .int (nI (sN (wN σ) (i + 1))), .int (nI (sN (fN σ) (i + 1))), .int (nI (sN (gN σ) i)), .int (SO σ i), .int 1, .int (nI i), .int (nI (vN σ i)), .int (nI t), a11] [.int (nI (gN σ i)), .int (nI (sN (gN σ) i))] (z, h) 0 0 := by
          refine x_iadd dL_areLots_197 ?_
          refine e_isd (b := nI (sN (gN σ) (i + 1))) (lv2 := [.ref x, .int (nI (nLo σ)), .int (nI (sN (vN σ) (i + 1))), .int (nI (sN (wN σ) (i + 1))), .int (nI (sN (fN σ) (i + 1))), .int (nI (sN (gN σ) (i + 1))), .int (SO σ i), .int 1, .int (nI i), .int (nI (vN σ i)), .int (nI t), a11]) dL_areLots_198 (Nat.le_of_ble_eq_true rfl) rfl (nI_add _ _) rfl ?_
          refine x_iload dL_areLots_200 rfl ?_
          refine x_aload_n dL_areLots_202 rfl ?_
          refine x_iload dL_areLots_203 rfl ?_
          refine x_iconst (v := 4) dL_areLots_205 rfl ?_
          refine l_rd (v := cStandTo σ (nI i)) dL_areLots_206 kX4_of iX4_of q309 hX (fun _ _ _ a1 a2 a3 => x_of _ a1 a2 a3 _ _) rfl rfl rfl (Nat.le_of_ble_eq_true rfl) ⟨Nat.le_refl _, Nat.le_refl _⟩ ((of_n hX.q.2.1.lok hi2).2.2.2.2.1) ?_
          refine x_ior dL_areLots_209 ?_
          refine e_isd (b := SO σ (i + 1)) (lv2 := [.ref x, .int (nI (nLo σ)), .int (nI (sN (vN σ) (i + 1))), .int (nI (sN (wN σ) (i + 1))), .int (nI (sN (fN σ) (i + 1))), .int (nI (sN (gN σ) (i + 1))), .int (SO σ (i + 1)), .int 1, .int (nI i), .int (nI (vN σ i)), .int (nI t), a11]) dL_areLots_210 (Nat.le_of_ble_eq_true rfl) rfl (SO_s _ _) rfl ?_
          refine x_iload dL_areLots_212 rfl ?_
          refine x_if_le (tgt := 457) dL_areLots_214 (by decide) (fun c => absurd c f214) (fun _ => ?_)
          refine x_iload dL_areLots_217 rfl ?_
          refine x_sipush (v := 10000) dL_areLots_219 rfl ?_
          refine x_icmp_ge (tgt := 457) dL_areLots_222 (by decide) (fun c => absurd c f222) (fun _ => ?_)
          refine x_iload dL_areLots_225 rfl ?_
          refine x_if_lt (tgt := 457) dL_areLots_227 (by decide) (fun c => absurd c f227) (fun _ => ?_)
          refine x_iload dL_areLots_230 rfl ?_
          refine x_iconst (v := 5) dL_areLots_232 rfl ?_
          refine x_icmp_ge (tgt := 457) dL_areLots_233 (by decide) (fun c => absurd c f233) (fun _ => ?_)
          refine x_aload_n dL_areLots_236 rfl ?_
          refine x_iconst (v := 3) dL_areLots_237 rfl ?_
          refine x_iload dL_areLots_238 rfl ?_
          refine x_iadd dL_areLots_240 ?_
          refine l_cn (v := lIn σ (nI t)) dL_areLots_241 q201 hX (Nat.le_of_ble_eq_true rfl) ⟨Nat.le_refl _, Nat.le_refl _⟩ (fun _ _ => (by first | exact xc_st _ _ _ ht)) ?_
          refine x_iload dL_areLots_244 rfl ?_
          refine x_ishr dL_areLots_246 ?_
          refine x_iconst (v := 1) dL_areLots_247 rfl ?_
          refine x_iand dL_areLots_248 ?_
          refine x_iconst (v := 1) dL_areLots_249 rfl ?_
          refine x_icmp_ne (tgt := 457) dL_areLots_250 (by decide) (fun c => absurd f250 c) (fun _ => ?_)
          refine x_aload_n dL_areLots_253 rfl ?_
          refine x_iload dL_areLots_254 rfl ?_
          refine x_iconst (v := 4) dL_areLots_256 rfl ?_
          refine l_rd (v := cStandTo σ (nI i)) dL_areLots_257 kX4_of iX4_of q309 hX (fun _ _ _ a1 a2 a3 => x_of _ a1 a2 a3 _ _) rfl rfl rfl (Nat.le_of_ble_eq_true rfl) ⟨Nat.le_refl _, Nat.le_refl _⟩ ((of_n hX.q.2.1.lok hi2).2.2.2.2.1) ?_
          refine x_aload_n dL_areLots_260 rfl ?_
          refine x_iload dL_areLots_261 rfl ?_
          refine x_iconst (v := 5) dL_areLots_263 rfl ?_
          refine l_rd (v := cToLot σ (nI i)) dL_areLots_264 kX4_of iX4_of q309 hX (fun _ _ _ a1 a2 a3 => x_of _ a1 a2 a3 _ _) rfl rfl rfl (Nat.le_of_ble_eq_true rfl) ⟨Nat.le_refl _, Nat.le_refl _⟩ ((of_n hX.q.2.1.lok hi2).2.2.2.2.2.1) ?_
          refine x_iand dL_areLots_267 ?_
          refine x_aload_n dL_areLots_268 rfl ?_
          refine x_iload dL_areLots_269 rfl ?_
          refine x_iconst (v := 4) dL_areLots_271 rfl ?_
          refine l_rd (v := cStandTo σ (nI i)) dL_areLots_272 kX4_of iX4_of q309 hX (fun _ _ _ a1 a2 a3 => x_of _ a1 a2 a3 _ _) rfl rfl rfl (Nat.le_of_ble_eq_true rfl) ⟨Nat.le_refl _, Nat.le_refl _⟩ ((of_n hX.q.2.1.lok hi2).2.2.2.2.1) ?_
          refine x_icmp_ne (tgt := 457) dL_areLots_275 (by decide) (fun c => absurd f275 c) (fun _ => ?_)
          have j300 : Ev st (d + 8) yL_areLots cL_areLots 12 (some .boolean) (z, h) 0 0 (RO (some (.int 1)) (z, h)) 300 [.ref x, .int (nI (nLo σ)), .int (nI (sN (vN σ) (i + 1))), .int (nI (sN (wN σ) (i + 1))), .int (nI (sN (fN σ) (i + 1))), .int (nI (sN (gN σ) (i + 1))), .int (SO σ (i + 1)), .int 1, .int (nI i), .int (nI (vN σ i)), .int (nI t), a11] [] (z, h) 0 0 := by
            have j315 : Ev st (d + 8) yL_areLots cL_areLots 12 (some .boolean) (z, h) 0 0 (RO (some (.int 1)) (z, h)) 315 [.ref x, .int (nI (nLo σ)), .int (nI (sN (vN σ) (i + 1))), .int (nI (sN (wN σ) (i + 1))), .int (nI (sN (fN σ) (i + 1))), .int (nI (sN (gN σ) (i + 1))), .int (SO σ (i + 1)), .int 1, .int (nI i), .int (nI (vN σ i)), .int (nI t), a11] [] (z, h) 0 0 := by
              have j331 : Ev st (d + 8) yL_areLots cL_areLots 12 (some .boolean) (z, h) 0 0 (RO (some (.int 1)) (z, h)) 331 [.ref x, .int (nI (nLo σ)), .int (nI (sN (vN σ) (i + 1))), .int (nI (sN (wN σ) (i + 1))), .int (nI (sN (fN σ) (i + 1))), .int (nI (sN (gN σ) (i + 1))), .int (SO σ (i + 1)), .int 1, .int (nI i), .int (nI (vN σ i)), .int (nI t), a11] [] (z, h) 0 0 := by
                refine x_aload_n dL_areLots_331 rfl ?_
                refine x_iload dL_areLots_332 rfl ?_
                refine x_iconst (v := 2) dL_areLots_334 rfl ?_
                refine l_rd (v := σ 3 i) dL_areLots_335 kX4_of iX4_of q309 hX (fun _ _ _ a1 a2 a3 => x_of _ a1 a2 a3 _ _) rfl rfl rfl (Nat.le_of_ble_eq_true rfl) ⟨Nat.le_refl _, Nat.le_refl _⟩ ((of_n hX.q.2.1.lok hi2).2.2.1) ?_
                refine x_if_lt (tgt := 457) dL_areLots_338 (by decide) (fun c => absurd c f338) (fun _ => ?_)
                refine x_aload_n dL_areLots_341 rfl ?_
                refine x_iload dL_areLots_342 rfl ?_
                refine x_iconst (v := 2) dL_areLots_344 rfl ?_
                refine l_rd (v := σ 3 i) dL_areLots_345 kX4_of iX4_of q309 hX (fun _ _ _ a1 a2 a3 => x_of _ a1 a2 a3 _ _) rfl rfl rfl (Nat.le_of_ble_eq_true rfl) ⟨Nat.le_refl _, Nat.le_refl _⟩ ((of_n hX.q.2.1.lok hi2).2.2.1) ?_
                refine x_aload_n dL_areLots_348 rfl ?_
                refine x_iconst (v := 0) dL_areLots_349 rfl ?_
                refine l_cn (v := nI (dN σ)) dL_areLots_350 q201 hX (Nat.le_of_ble_eq_true rfl) ⟨Nat.le_refl _, Nat.le_refl _⟩ (fun _ _ => xn_0 hX.q _ _) ?_
                refine x_icmp_gt (tgt := 457) dL_areLots_353 (by decide) (fun c => absurd c f353) (fun _ => ?_)
                refine x_aload_n dL_areLots_356 rfl ?_
                refine x_iload dL_areLots_357 rfl ?_
                refine x_iconst (v := 3) dL_areLots_359 rfl ?_
                refine l_rd (v := σ 4 i) dL_areLots_360 kX4_of iX4_of q309 hX (fun _ _ _ a1 a2 a3 => x_of _ a1 a2 a3 _ _) rfl rfl rfl (Nat.le_of_ble_eq_true rfl) ⟨Nat.le_refl _, Nat.le_refl _⟩ ((of_n hX.q.2.1.lok hi2).2.2.2.1) ?_
                refine x_aload_n dL_areLots_363 rfl ?_
                refine x_iconst (v := 0) dL_areLots_364 rfl ?_
                refine l_cn (v := nI (dN σ)) dL_areLots_365 q201 hX (Nat.le_of_ble_eq_true rfl) ⟨Nat.le_refl _, Nat.le_refl _⟩ (fun _ _ => xn_0 hX.q _ _) ?_
                refine x_icmp_gt (tgt := 457) dL_areLots_368 (by decide) (fun c => absurd c f368) (fun _ => ?_)
                have j387 : Ev st (d + 8) yL_areLots cL_areLots 12 (some .boolean) (z, h) 0 0 (RO (some (.int 1)) (z, h)) 387 [.ref x, .int (nI (nLo σ)), .int (nI (sN (vN σ) (i + 1))), .int (nI (sN (wN σ) (i + 1))), .int (nI (sN (fN σ) (i + 1))), .int (nI (sN (gN σ) (i + 1))), .int (SO σ (i + 1)), .int 1, .int (nI i), .int (nI (vN σ i)), .int (nI t), a11] [] (z, h) 0 0 := by
                  have j406 : Ev st (d + 8) yL_areLots cL_areLots 12 (some .boolean) (z, h) 0 0 (RO (some (.int 1)) (z, h)) 406 [.ref x, .int (nI (nLo σ)), .int (nI (sN (vN σ) (i + 1))), .int (nI (sN (wN σ) (i + 1))), .int (nI (sN (fN σ) (i + 1))), .int (nI (sN (gN σ) (i + 1))), .int (SO σ (i + 1)), .int 1, .int (nI i), .int (nI (vN σ i)), .int (nI t), a11] [] (z, h) 0 0 := by
                    have j453 : Ev st (d + 8) yL_areLots cL_areLots 12 (some .boolean) (z, h) 0 0 (RO (some (.int 1)) (z, h)) 453 [.ref x, .int (nI (nLo σ)), .int (nI (sN (vN σ) (i + 1))), .int (nI (sN (wN σ) (i + 1))), .int (nI (sN (fN σ) (i + 1))), .int (nI (sN (gN σ) (i + 1))), .int (SO σ (i + 1)), .int 1, .int (nI i), .int (nI (vN σ i)), .int (nI t), a11] [] (z, h) 0 0 := by
                      refine x_iconst (v := 1) dL_areLots_453 rfl ?_
                      refine x_goto (tgt := 458) dL_areLots_454 (by decide) ?_
                      refine e_isd (b := 1) (lv2 := [.ref x, .int (nI (nLo σ)), .int (nI (sN (vN σ) (i + 1))), .int (nI (sN (wN σ) (i + 1))), .int (nI (sN (fN σ) (i + 1))), .int (nI (sN (gN σ) (i + 1))), .int (SO σ (i + 1)), .int 1, .int (nI i), .int (nI (vN σ i)), .int (nI t), a11]) dL_areLots_458 (Nat.le_of_ble_eq_true rfl) rfl rfl rfl ?_
                      refine x_aload_n dL_areLots_460 rfl ?_
                      refine x_iload dL_areLots_461 rfl ?_
                      refine l_rd (v := oFalls σ (nI i)) dL_areLots_463 kX4_fallsIn iX4_fallsIn q391 hX (fun _ _ _ a1 a2 a3 => x_fallsIn _ a1 a2 a3 _) rfl rfl rfl (Nat.le_of_ble_eq_true rfl) ⟨Nat.le_refl _, Nat.le_refl _⟩ rfl ?_
                      refine e_isd (b := oFalls σ (nI i)) (lv2 := [.ref x, .int (nI (nLo σ)), .int (nI (sN (vN σ) (i + 1))), .int (nI (sN (wN σ) (i + 1))), .int (nI (sN (fN σ) (i + 1))), .int (nI (sN (gN σ) (i + 1))), .int (SO σ (i + 1)), .int 1, .int (nI i), .int (nI (vN σ i)), .int (nI t), .int (oFalls σ (nI i))]) dL_areLots_466 (Nat.le_of_ble_eq_true rfl) rfl rfl rfl ?_
                      refine x_iload dL_areLots_468 rfl ?_
                      refine x_if_eq (tgt := 536) dL_areLots_470 (by decide) (fun c => absurd c (by decide)) (fun _ => ?_)
                      have j509 : Ev st (d + 8) yL_areLots cL_areLots 12 (some .boolean) (z, h) 0 0 (RO (some (.int 1)) (z, h)) 509 [.ref x, .int (nI (nLo σ)), .int (nI (sN (vN σ) (i + 1))), .int (nI (sN (wN σ) (i + 1))), .int (nI (sN (fN σ) (i + 1))), .int (nI (sN (gN σ) (i + 1))), .int (SO σ (i + 1)), .int 1, .int (nI i), .int (nI (vN σ i)), .int (nI t), .int (oFalls σ (nI i))] [] (z, h) 0 0 := by
                        have j532 : Ev st (d + 8) yL_areLots cL_areLots 12 (some .boolean) (z, h) 0 0 (RO (some (.int 1)) (z, h)) 532 [.ref x, .int (nI (nLo σ)), .int (nI (sN (vN σ) (i + 1))), .int (nI (sN (wN σ) (i + 1))), .int (nI (sN (fN σ) (i + 1))), .int (nI (sN (gN σ) (i + 1))), .int (SO σ (i + 1)), .int 1, .int (nI i), .int (nI (vN σ i)), .int (nI t), .int (oFalls σ (nI i))] [] (z, h) 0 0 := by
                          refine x_iconst (v := 1) dL_areLots_532 rfl ?_
                          refine x_goto (tgt := 537) dL_areLots_533 (by decide) ?_
                          refine e_isd (b := 1) (lv2 := [.ref x, .int (nI (nLo σ)), .int (nI (sN (vN σ) (i + 1))), .int (nI (sN (wN σ) (i + 1))), .int (nI (sN (fN σ) (i + 1))), .int (nI (sN (gN σ) (i + 1))), .int (SO σ (i + 1)), .int 1, .int (nI i), .int (nI (vN σ i)), .int (nI t), .int (oFalls σ (nI i))]) dL_areLots_537 (Nat.le_of_ble_eq_true rfl) rfl rfl rfl ?_
                          refine e_incd (b := nI (i + 1)) (lv2 := [.ref x, .int (nI (nLo σ)), .int (nI (sN (vN σ) (i + 1))), .int (nI (sN (wN σ) (i + 1))), .int (nI (sN (fN σ) (i + 1))), .int (nI (sN (gN σ) (i + 1))), .int (SO σ (i + 1)), .int 1, .int (nI (i + 1)), .int (nI (vN σ i)), .int (nI t), .int (oFalls σ (nI i))]) dL_areLots_539 rfl (nI_1 _) rfl rfl ?_
                          refine x_goto (tgt := 117) dL_areLots_542 (by decide) ?_
                          exact ih (i + 1) (by omega) _ _ _
                        refine x_iload dL_areLots_509 rfl ?_
                        refine x_if_lt (tgt := 532) dL_areLots_511 (by decide) (fun c511 => ?_) (fun c511 => ?_)
                        · exact j532
                        · refine x_aload_n dL_areLots_514 rfl ?_
                          refine x_iconst (v := 1) dL_areLots_515 rfl ?_
                          refine l_rd (v := oNextFall σ 1) dL_areLots_516 kX4_nextFall iX4_nextFall q411 hX (fun _ _ _ a1 a2 a3 => x_nextFall _ a1 a2 a3 _) rfl rfl rfl (Nat.le_of_ble_eq_true rfl) ⟨Nat.le_refl _, Nat.le_refl _⟩ rfl ?_
                          refine x_if_lt (tgt := 536) dL_areLots_519 (by decide) (fun c => absurd c ((f519 c511).1)) (fun _ => ?_)
                          refine x_aload_n dL_areLots_522 rfl ?_
                          refine x_iconst (v := 1) dL_areLots_523 rfl ?_
                          refine l_rd (v := oNextFall σ 1) dL_areLots_524 kX4_nextFall iX4_nextFall q411 hX (fun _ _ _ a1 a2 a3 => x_nextFall _ a1 a2 a3 _) rfl rfl rfl (Nat.le_of_ble_eq_true rfl) ⟨Nat.le_refl _, Nat.le_refl _⟩ rfl ?_
                          refine x_iload dL_areLots_527 rfl ?_
                          refine x_icmp_gt (tgt := 536) dL_areLots_529 (by decide) (fun c => absurd c ((f519 c511).2)) (fun _ => ?_)
                          exact j532
                      refine x_iload dL_areLots_473 rfl ?_
                      refine x_iconst (v := 1) dL_areLots_475 rfl ?_
                      refine x_icmp_ne (tgt := 502) dL_areLots_476 (by decide) (fun c476 => ?_) (fun c476 => ?_)
                      · refine x_iload dL_areLots_502 rfl ?_
                        refine x_bipush (v := (-5)) dL_areLots_504 rfl ?_
                        refine x_icmp_ne (tgt := 536) dL_areLots_506 (by decide) (fun c => absurd (f506 c476) c) (fun _ => ?_)
                        exact j509
                      · refine x_iload dL_areLots_479 rfl ?_
                        refine x_bipush (v := (-6)) dL_areLots_481 rfl ?_
                        refine x_icmp_eq (tgt := 509) dL_areLots_483 (by decide) (fun c483 => ?_) (fun c483 => ?_)
                        · exact j509
                        · refine x_iload dL_areLots_486 rfl ?_
                          refine x_if_le (tgt := 536) dL_areLots_488 (by decide) (fun c => absurd c ((f488 c476 c483).1)) (fun _ => ?_)
                          refine x_iload dL_areLots_491 rfl ?_
                          refine x_sipush (v := 700) dL_areLots_493 rfl ?_
                          refine x_icmp_gt (tgt := 536) dL_areLots_496 (by decide) (fun c => absurd c ((f488 c476 c483).2)) (fun _ => ?_)
                          refine x_goto (tgt := 509) dL_areLots_499 (by decide) ?_
                          exact j509
                    refine x_aload_n dL_areLots_406 rfl ?_
                    refine x_iload dL_areLots_407 rfl ?_
                    refine x_bipush (v := 6) dL_areLots_409 rfl ?_
                    refine l_rd (v := cNearLine σ (cUpTo σ (nI i))) dL_areLots_411 kX4_of iX4_of q309 hX (fun _ _ _ a1 a2 a3 => x_of _ a1 a2 a3 _ _) rfl rfl rfl (Nat.le_of_ble_eq_true rfl) ⟨Nat.le_refl _, Nat.le_refl _⟩ ((of_n hX.q.2.1.lok hi2).2.2.2.2.2.2) ?_
                    refine x_bipush (v := (-6)) dL_areLots_414 rfl ?_
                    refine x_icmp_eq (tgt := 453) dL_areLots_416 (by decide) (fun c416 => ?_) (fun c416 => ?_)
                    · exact j453
                    · refine x_aload_n dL_areLots_419 rfl ?_
                      refine x_iload dL_areLots_420 rfl ?_
                      refine x_bipush (v := 6) dL_areLots_422 rfl ?_
                      refine l_rd (v := cNearLine σ (cUpTo σ (nI i))) dL_areLots_424 kX4_of iX4_of q309 hX (fun _ _ _ a1 a2 a3 => x_of _ a1 a2 a3 _ _) rfl rfl rfl (Nat.le_of_ble_eq_true rfl) ⟨Nat.le_refl _, Nat.le_refl _⟩ ((of_n hX.q.2.1.lok hi2).2.2.2.2.2.2) ?_
                      refine x_if_le (tgt := 457) dL_areLots_427 (by decide) (fun c => absurd c ((f427 c416).1)) (fun _ => ?_)
                      refine x_aload_n dL_areLots_430 rfl ?_
                      refine x_iload dL_areLots_431 rfl ?_
                      refine x_bipush (v := 6) dL_areLots_433 rfl ?_
                      refine l_rd (v := cNearLine σ (cUpTo σ (nI i))) dL_areLots_435 kX4_of iX4_of q309 hX (fun _ _ _ a1 a2 a3 => x_of _ a1 a2 a3 _ _) rfl rfl rfl (Nat.le_of_ble_eq_true rfl) ⟨Nat.le_refl _, Nat.le_refl _⟩ ((of_n hX.q.2.1.lok hi2).2.2.2.2.2.2) ?_
                      refine x_bipush (v := 6) dL_areLots_438 rfl ?_
                      refine x_icmp_ge (tgt := 457) dL_areLots_440 (by decide) (fun c => absurd c ((f427 c416).2.1)) (fun _ => ?_)
                      refine x_aload_n dL_areLots_443 rfl ?_
                      refine x_iload dL_areLots_444 rfl ?_
                      refine x_iconst (v := 4) dL_areLots_446 rfl ?_
                      refine l_rd (v := cStandTo σ (nI i)) dL_areLots_447 kX4_of iX4_of q309 hX (fun _ _ _ a1 a2 a3 => x_of _ a1 a2 a3 _ _) rfl rfl rfl (Nat.le_of_ble_eq_true rfl) ⟨Nat.le_refl _, Nat.le_refl _⟩ ((of_n hX.q.2.1.lok hi2).2.2.2.2.1) ?_
                      refine x_if_eq (tgt := 457) dL_areLots_450 (by decide) (fun c => absurd c ((f427 c416).2.2)) (fun _ => ?_)
                      exact j453
                  refine x_aload_n dL_areLots_387 rfl ?_
                  refine x_iload dL_areLots_388 rfl ?_
                  refine l_rd (v := oWhy σ (nI i)) dL_areLots_390 kX4_why iX4_why q379 hX (fun _ _ _ a1 a2 a3 => x_why _ a1 a2 a3 _) rfl rfl rfl (Nat.le_of_ble_eq_true rfl) ⟨Nat.le_refl _, Nat.le_refl _⟩ rfl ?_
                  refine x_if_ne (tgt := 406) dL_areLots_393 (by decide) (fun c393 => ?_) (fun c393 => ?_)
                  · exact j406
                  · refine x_aload_n dL_areLots_396 rfl ?_
                    refine x_iload dL_areLots_397 rfl ?_
                    refine x_iconst (v := 4) dL_areLots_399 rfl ?_
                    refine l_rd (v := cStandTo σ (nI i)) dL_areLots_400 kX4_of iX4_of q309 hX (fun _ _ _ a1 a2 a3 => x_of _ a1 a2 a3 _ _) rfl rfl rfl (Nat.le_of_ble_eq_true rfl) ⟨Nat.le_refl _, Nat.le_refl _⟩ ((of_n hX.q.2.1.lok hi2).2.2.2.2.1) ?_
                    refine x_if_ne (tgt := 457) dL_areLots_403 (by decide) (fun c => absurd (f403 c393) c) (fun _ => ?_)
                    exact j406
                refine x_iload dL_areLots_371 rfl ?_
                refine x_iconst (v := 1) dL_areLots_373 rfl ?_
                refine x_icmp_eq (tgt := 387) dL_areLots_374 (by decide) (fun c374 => ?_) (fun c374 => ?_)
                · exact j387
                · refine x_aload_n dL_areLots_377 rfl ?_
                  refine x_iload dL_areLots_378 rfl ?_
                  refine l_rd (v := oWhy σ (nI i)) dL_areLots_380 kX4_why iX4_why q379 hX (fun _ _ _ a1 a2 a3 => x_why _ a1 a2 a3 _) rfl rfl rfl (Nat.le_of_ble_eq_true rfl) ⟨Nat.le_refl _, Nat.le_refl _⟩ rfl ?_
                  refine x_iconst (v := 1) dL_areLots_383 rfl ?_
                  refine x_icmp_ne (tgt := 457) dL_areLots_384 (by decide) (fun c => absurd (f384 c374) c) (fun _ => ?_)
                  exact j387
              refine x_iload dL_areLots_315 rfl ?_
              refine x_iconst (v := 2) dL_areLots_317 rfl ?_
              refine x_icmp_gt (tgt := 331) dL_areLots_318 (by decide) (fun c318 => ?_) (fun c318 => ?_)
              · exact j331
              · refine x_aload_n dL_areLots_321 rfl ?_
                refine x_iload dL_areLots_322 rfl ?_
                refine x_iconst (v := 3) dL_areLots_324 rfl ?_
                refine l_rd (v := σ 4 i) dL_areLots_325 kX4_of iX4_of q309 hX (fun _ _ _ a1 a2 a3 => x_of _ a1 a2 a3 _ _) rfl rfl rfl (Nat.le_of_ble_eq_true rfl) ⟨Nat.le_refl _, Nat.le_refl _⟩ ((of_n hX.q.2.1.lok hi2).2.2.2.1) ?_
                refine x_if_ne (tgt := 457) dL_areLots_328 (by decide) (fun c => absurd (f328 c318) c) (fun _ => ?_)
                exact j331
            refine x_iload dL_areLots_300 rfl ?_
            refine x_if_gt (tgt := 315) dL_areLots_302 (by decide) (fun c302 => ?_) (fun c302 => ?_)
            · exact j315
            · refine x_aload_n dL_areLots_305 rfl ?_
              refine x_iload dL_areLots_306 rfl ?_
              refine x_iconst (v := 2) dL_areLots_308 rfl ?_
              refine l_rd (v := σ 3 i) dL_areLots_309 kX4_of iX4_of q309 hX (fun _ _ _ a1 a2 a3 => x_of _ a1 a2 a3 _ _) rfl rfl rfl (Nat.le_of_ble_eq_true rfl) ⟨Nat.le_refl _, Nat.le_refl _⟩ ((of_n hX.q.2.1.lok hi2).2.2.1) ?_
              refine x_if_ne (tgt := 457) dL_areLots_312 (by decide) (fun c => absurd (f312 c302) c) (fun _ => ?_)
              exact j315
          refine x_iload dL_areLots_278 rfl ?_
          refine x_iconst (v := 2) dL_areLots_280 rfl ?_
          refine x_icmp_eq (tgt := 290) dL_areLots_281 (by decide) (fun c281 => ?_) (fun c281 => ?_)
          · refine x_aload_n dL_areLots_290 rfl ?_
            refine x_iload dL_areLots_291 rfl ?_
            refine x_iconst (v := 4) dL_areLots_293 rfl ?_
            refine l_rd (v := cStandTo σ (nI i)) dL_areLots_294 kX4_of iX4_of q309 hX (fun _ _ _ a1 a2 a3 => x_of _ a1 a2 a3 _ _) rfl rfl rfl (Nat.le_of_ble_eq_true rfl) ⟨Nat.le_refl _, Nat.le_refl _⟩ ((of_n hX.q.2.1.lok hi2).2.2.2.2.1) ?_
            refine x_if_ne (tgt := 457) dL_areLots_297 (by decide) (fun c => absurd (f297 (by first | exact Or.inl c281 | exact Or.inr (Classical.byContradiction c287) | exact Or.inr c287)) c) (fun _ => ?_)
            exact j300
          · refine x_iload dL_areLots_284 rfl ?_
            refine x_iconst (v := 4) dL_areLots_286 rfl ?_
            refine x_icmp_ne (tgt := 300) dL_areLots_287 (by decide) (fun c287 => ?_) (fun c287 => ?_)
            · exact j300
            · refine x_aload_n dL_areLots_290 rfl ?_
              refine x_iload dL_areLots_291 rfl ?_
              refine x_iconst (v := 4) dL_areLots_293 rfl ?_
              refine l_rd (v := cStandTo σ (nI i)) dL_areLots_294 kX4_of iX4_of q309 hX (fun _ _ _ a1 a2 a3 => x_of _ a1 a2 a3 _ _) rfl rfl rfl (Nat.le_of_ble_eq_true rfl) ⟨Nat.le_refl _, Nat.le_refl _⟩ ((of_n hX.q.2.1.lok hi2).2.2.2.2.1) ?_
              refine x_if_ne (tgt := 457) dL_areLots_297 (by decide) (fun c => absurd (f297 (by first | exact Or.inl c281 | exact Or.inr (Classical.byContradiction c287) | exact Or.inr c287)) c) (fun _ => ?_)
              exact j300
        refine x_iload dL_areLots_185 rfl ?_
        refine x_iconst (v := 2) dL_areLots_187 rfl ?_
        refine x_icmp_ne (tgt := 196) dL_areLots_188 (by decide) (fun c188 => ?_) (fun c188 => ?_)
        · refine x_iconst (v := 0) dL_areLots_196 rfl ?_
          exact e_top (b := nI (gN σ i)) (by first | exact w5 c188 | exact w6 c188) j197
        · refine x_iload dL_areLots_191 rfl ?_
          refine x_goto (tgt := 197) dL_areLots_193 (by decide) ?_
          exact e_top (b := nI (gN σ i)) (by first | exact w5 c188 | exact w6 c188) j197
      refine x_iload dL_areLots_168 rfl ?_
      refine x_iconst (v := 3) dL_areLots_170 rfl ?_
      refine x_icmp_ne (tgt := 179) dL_areLots_171 (by decide) (fun c171 => ?_) (fun c171 => ?_)
      · refine x_iconst (v := 0) dL_areLots_179 rfl ?_
        exact e_top (b := nI (fN σ i)) (by first | exact w3 c171 | exact w4 c171) j180
      · refine x_iload dL_areLots_174 rfl ?_
        refine x_goto (tgt := 180) dL_areLots_176 (by decide) ?_
        exact e_top (b := nI (fN σ i)) (by first | exact w3 c171 | exact w4 c171) j180
    refine x_iload dL_areLots_152 rfl ?_
    refine x_iconst (v := 2) dL_areLots_154 rfl ?_
    refine x_icmp_ge (tgt := 163) dL_areLots_155 (by decide) (fun c155 => ?_) (fun c155 => ?_)
    · refine x_iconst (v := 0) dL_areLots_163 rfl ?_
      exact e_top (b := nI (wN σ i)) (by first | exact w1 c155 | exact w2 c155) j164
    · refine x_iload dL_areLots_158 rfl ?_
      refine x_goto (tgt := 164) dL_areLots_160 (by decide) ?_
      exact e_top (b := nI (wN σ i)) (by first | exact w1 c155 | exact w2 c155) j164

set_option maxRecDepth 100000 in
set_option maxHeartbeats 8000000 in
theorem t_areLots {st : Nat → Nat} (d : Nat) {z : Nat} {h : Nat → Option va_E} {x : Nat} {σ τ : Sg} {n : Nat} {sl : Nat → Sg} {sv : Nat → Int32} (hX : XS h x σ n τ sl sv)  : CT st (d + 8) yL_areLots cL_areLots 12 (some .boolean) [.ref x] (z, h) 0 0 (RO (some (.int 1)) (z, h)) := by
  refine CT.of (lv := [.ref x, .null, .null, .null, .null, .null, .null, .null, .null, .null, .null, .null]) (by decide) (Nat.le_of_ble_eq_true rfl) rfl rfl ?_
  have l12 := hX.q.2.1.lok.2
  refine x_aload_n dL_areLots_0 rfl ?_
  refine x_iconst (v := 1) dL_areLots_1 rfl ?_
  refine l_cn (v := nI (nLo σ)) dL_areLots_2 q201 hX (Nat.le_of_ble_eq_true rfl) ⟨Nat.le_refl _, Nat.le_refl _⟩ (fun _ _ => xn_1 hX.q _ _) ?_
  refine e_isd_n (b := nI (nLo σ)) (lv2 := [.ref x, .int (nI (nLo σ)), .null, .null, .null, .null, .null, .null, .null, .null, .null, .null]) dL_areLots_5 (Nat.le_of_ble_eq_true rfl) rfl rfl rfl ?_
  refine x_iconst (v := 0) dL_areLots_6 rfl ?_
  refine e_isd_n (b := nI (sN (vN σ) 0)) (lv2 := [.ref x, .int (nI (nLo σ)), .int (nI (sN (vN σ) 0)), .null, .null, .null, .null, .null, .null, .null, .null, .null]) dL_areLots_7 (Nat.le_of_ble_eq_true rfl) rfl rfl rfl ?_
  refine x_iconst (v := 0) dL_areLots_8 rfl ?_
  refine e_isd_n (b := nI (sN (wN σ) 0)) (lv2 := [.ref x, .int (nI (nLo σ)), .int (nI (sN (vN σ) 0)), .int (nI (sN (wN σ) 0)), .null, .null, .null, .null, .null, .null, .null, .null]) dL_areLots_9 (Nat.le_of_ble_eq_true rfl) rfl rfl rfl ?_
  refine x_iconst (v := 0) dL_areLots_10 rfl ?_
  refine e_isd (b := nI (sN (fN σ) 0)) (lv2 := [.ref x, .int (nI (nLo σ)), .int (nI (sN (vN σ) 0)), .int (nI (sN (wN σ) 0)), .int (nI (sN (fN σ) 0)), .null, .null, .null, .null, .null, .null, .null]) dL_areLots_11 (Nat.le_of_ble_eq_true rfl) rfl rfl rfl ?_
  refine x_iconst (v := 0) dL_areLots_13 rfl ?_
  refine e_isd (b := nI (sN (gN σ) 0)) (lv2 := [.ref x, .int (nI (nLo σ)), .int (nI (sN (vN σ) 0)), .int (nI (sN (wN σ) 0)), .int (nI (sN (fN σ) 0)), .int (nI (sN (gN σ) 0)), .null, .null, .null, .null, .null, .null]) dL_areLots_14 (Nat.le_of_ble_eq_true rfl) rfl rfl rfl ?_
  refine x_iconst (v := 0) dL_areLots_16 rfl ?_
  refine e_isd (b := SO σ 0) (lv2 := [.ref x, .int (nI (nLo σ)), .int (nI (sN (vN σ) 0)), .int (nI (sN (wN σ) 0)), .int (nI (sN (fN σ) 0)), .int (nI (sN (gN σ) 0)), .int (SO σ 0), .null, .null, .null, .null, .null]) dL_areLots_17 (Nat.le_of_ble_eq_true rfl) rfl rfl rfl ?_
  refine x_iload_n dL_areLots_19 rfl ?_
  refine x_if_lt (tgt := 111) dL_areLots_20 (by decide) (fun c => absurd c (nng (by omega))) (fun _ => ?_)
  refine x_iload_n dL_areLots_23 rfl ?_
  refine x_bipush (v := 12) dL_areLots_24 rfl ?_
  refine x_icmp_gt (tgt := 111) dL_areLots_26 (by decide) (fun c => absurd c (fun e => by have := (nI_ltI (a := 12) (by decide) (by omega)).mp e; omega)) (fun _ => ?_)
  refine x_aload_n dL_areLots_29 rfl ?_
  refine x_iconst (v := 3) dL_areLots_30 rfl ?_
  refine l_cn (v := lIn σ 0) dL_areLots_31 q201 hX (Nat.le_of_ble_eq_true rfl) ⟨Nat.le_refl _, Nat.le_refl _⟩ (fun _ _ => xn_3 _ _) ?_
  refine x_aload_n dL_areLots_34 rfl ?_
  refine x_iconst (v := 4) dL_areLots_35 rfl ?_
  refine l_cn (v := lIn σ 1) dL_areLots_36 q201 hX (Nat.le_of_ble_eq_true rfl) ⟨Nat.le_refl _, Nat.le_refl _⟩ (fun _ _ => xn_4 _ _) ?_
  refine x_ior dL_areLots_39 ?_
  refine x_aload_n dL_areLots_40 rfl ?_
  refine x_iconst (v := 5) dL_areLots_41 rfl ?_
  refine l_cn (v := lIn σ 2) dL_areLots_42 q201 hX (Nat.le_of_ble_eq_true rfl) ⟨Nat.le_refl _, Nat.le_refl _⟩ (fun _ _ => xn_5 _ _) ?_
  refine x_ior dL_areLots_45 ?_
  refine x_aload_n dL_areLots_46 rfl ?_
  refine x_bipush (v := 6) dL_areLots_47 rfl ?_
  refine l_cn (v := lIn σ 3) dL_areLots_49 q201 hX (Nat.le_of_ble_eq_true rfl) ⟨Nat.le_refl _, Nat.le_refl _⟩ (fun _ _ => xn_6 _ _) ?_
  refine x_ior dL_areLots_52 ?_
  refine x_aload_n dL_areLots_53 rfl ?_
  refine x_bipush (v := 7) dL_areLots_54 rfl ?_
  refine l_cn (v := lIn σ 4) dL_areLots_56 q201 hX (Nat.le_of_ble_eq_true rfl) ⟨Nat.le_refl _, Nat.le_refl _⟩ (fun _ _ => xn_7 _ _) ?_
  refine x_ior dL_areLots_59 ?_
  refine x_iconst (v := 1) dL_areLots_60 rfl ?_
  refine x_iload_n dL_areLots_61 rfl ?_
  refine x_ishl dL_areLots_62 ?_
  refine x_iconst (v := 1) dL_areLots_63 rfl ?_
  refine x_isub dL_areLots_64 ?_
  refine x_icmp_ne (tgt := 111) dL_areLots_65 (by decide) (fun c => absurd (lIn_or hX.q) c) (fun _ => ?_)
  refine x_aload_n dL_areLots_68 rfl ?_
  refine x_iconst (v := 3) dL_areLots_69 rfl ?_
  refine l_cn (v := lIn σ 0) dL_areLots_70 q201 hX (Nat.le_of_ble_eq_true rfl) ⟨Nat.le_refl _, Nat.le_refl _⟩ (fun _ _ => xn_3 _ _) ?_
  refine x_aload_n dL_areLots_73 rfl ?_
  refine x_iconst (v := 4) dL_areLots_74 rfl ?_
  refine l_cn (v := lIn σ 1) dL_areLots_75 q201 hX (Nat.le_of_ble_eq_true rfl) ⟨Nat.le_refl _, Nat.le_refl _⟩ (fun _ _ => xn_4 _ _) ?_
  refine x_iadd dL_areLots_78 ?_
  refine x_aload_n dL_areLots_79 rfl ?_
  refine x_iconst (v := 5) dL_areLots_80 rfl ?_
  refine l_cn (v := lIn σ 2) dL_areLots_81 q201 hX (Nat.le_of_ble_eq_true rfl) ⟨Nat.le_refl _, Nat.le_refl _⟩ (fun _ _ => xn_5 _ _) ?_
  refine x_iadd dL_areLots_84 ?_
  refine x_aload_n dL_areLots_85 rfl ?_
  refine x_bipush (v := 6) dL_areLots_86 rfl ?_
  refine l_cn (v := lIn σ 3) dL_areLots_88 q201 hX (Nat.le_of_ble_eq_true rfl) ⟨Nat.le_refl _, Nat.le_refl _⟩ (fun _ _ => xn_6 _ _) ?_
  refine x_iadd dL_areLots_91 ?_
  refine x_aload_n dL_areLots_92 rfl ?_
  refine x_bipush (v := 7) dL_areLots_93 rfl ?_
  refine l_cn (v := lIn σ 4) dL_areLots_95 q201 hX (Nat.le_of_ble_eq_true rfl) ⟨Nat.le_refl _, Nat.le_refl _⟩ (fun _ _ => xn_7 _ _) ?_
  refine x_iadd dL_areLots_98 ?_
  refine x_iconst (v := 1) dL_areLots_99 rfl ?_
  refine x_iload_n dL_areLots_100 rfl ?_
  refine x_ishl dL_areLots_101 ?_
  refine x_iconst (v := 1) dL_areLots_102 rfl ?_
  refine x_isub dL_areLots_103 ?_
  refine x_icmp_ne (tgt := 111) dL_areLots_104 (by decide) (fun c => absurd (lIn_sum hX.q) c) (fun _ => ?_)
  refine x_iconst (v := 1) dL_areLots_107 rfl ?_
  refine x_goto (tgt := 112) dL_areLots_108 (by decide) ?_
  refine e_isd (b := 1) (lv2 := [.ref x, .int (nI (nLo σ)), .int (nI (sN (vN σ) 0)), .int (nI (sN (wN σ) 0)), .int (nI (sN (fN σ) 0)), .int (nI (sN (gN σ) 0)), .int (SO σ 0), .int 1, .null, .null, .null, .null]) dL_areLots_112 (Nat.le_of_ble_eq_true rfl) rfl rfl rfl ?_
  refine x_iconst (v := 0) dL_areLots_114 rfl ?_
  refine e_isd (b := nI 0) (lv2 := [.ref x, .int (nI (nLo σ)), .int (nI (sN (vN σ) 0)), .int (nI (sN (wN σ) 0)), .int (nI (sN (fN σ) 0)), .int (nI (sN (gN σ) 0)), .int (SO σ 0), .int 1, .int (nI 0), .null, .null, .null]) dL_areLots_115 (Nat.le_of_ble_eq_true rfl) rfl rfl rfl ?_
  exact L_areLots d hX (nLo σ) 0 (Nat.zero_add _) _ _ _
