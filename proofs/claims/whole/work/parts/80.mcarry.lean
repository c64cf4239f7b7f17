def mCo (tl : Nat → Int32) : Nat → Nat → Sg → Nat × Sg
  | 0, i, σ => (i, σ)
  | k + 1, i, σ => if tOrd tl i (wOrd σ) = 0 then mCo tl k (i + 1) (tOrd tl i (nOrd σ)) else (i, σ)
theorem mPf_le (T : Nat → Nat) {t : Nat} (ht : t ≤ 80) : ∀ (j : Nat) (g : Bool) (s : Nat) (tl : Nat → Int32) (k : Nat), s ≤ 80 → 2 * k ≤ s + 1 → 2 * (mPf T t j g s tl k).2.2.2 ≤ (mPf T t j g s tl k).2.1 + 1 ∧ (mPf T t j g s tl k).2.1 ≤ 80
  | 0, g, s, tl, k, h1, h2 => ⟨h2, h1⟩
  | j + 1, g, s, tl, k, h1, h2 => by
    unfold mPf
    split
    · exact ⟨h2, h1⟩
    split
    · exact ⟨h2, h1⟩
    split
    next q =>
      have hs1 := mTk_t (T := T) (t := t) (s := s) h1 ht q
      have hle := mROs_le T (t := t) (s := s + 1) hs1 ht
      exact mPf_le T ht j _ _ _ _ hle.2.1 (hle.2.2 k (by omega))
    · exact mPf_le T ht j _ _ _ _ h1 h2
theorem mPadA_le (T : Nat → Nat) {t : Nat} (ht : t ≤ 80) (tl : Nat → Int32) : (mPadA T t tl).2.2.2 ≤ 40 ∧ (mPadA T t tl).2.1 ≤ 80 := by
  have hle := mROs_le T (t := t) (s := 0) (by omega) ht
  have := mPf_le T ht 80 (mROb T t 0) (mROs T t 0) (mROt T t 0 tl 0) (mROk T t 0 0) hle.2.1 (hle.2.2 0 (by omega))
  unfold mPadA
  omega
set_option maxRecDepth 100000 in
set_option maxHeartbeats 4000000 in
theorem L_mcarry {st : Nat → Nat} (d : Nat) {z : Nat} {h : Nat → Option va_E} {m : Nat}  {n nv : Nat} {G S : Nat → Sg} {sv tx : Nat → Int32} {ty sp : Int32} {tl : Nat → Int32} {K : Nat} (hK : K ≤ 40) {I : Sg → Prop} (hI : ∀ τ, I τ → LOk τ ∧ COk τ ∧ WH τ ∧ WP τ) (hst : ∀ τ c f e g, I τ → wOrd τ c f e g = 0 → I (nOrd τ c f e g))  : ∀ (k : Nat) (i : Nat) (ζ1 : Sg) (hq1 : Nat → Option va_E), i + k = K → MAt hq1 m ζ1 n nv G S sv tx ty sp tl (nI K) → Fr m 8 h hq1 → I ζ1 → Ev st (d + 9) yX5_carryOut cX5_carryOut 2 (some .int) (z, h) 0 0 (MMO (some (.int (nI (mCo tl k i ζ1).1))) z m h (mCo tl k i ζ1).2 n nv G S sv tx 0 sp tl (nI K)) 16 [.ref m, .int (nI i)] [] (z, hq1) 0 0 := by
  intro k
  induction k with
  | zero =>
    intro i ζ1 hq1 hik HQ1 hFQ hJ
    obtain ⟨hL, hC, hH, hWP⟩ := hI _ hJ
    refine x_iload_n dX5_carryOut_16 rfl ?_
    refine x_aload_n dX5_carryOut_17 rfl ?_
    refine x_get dX5_carryOut_18 fX5_226 HQ1.ob rfl ?_
    refine x_icmp_ge (tgt := 44) dX5_carryOut_21 (by decide) (fun c21 => ?_) (fun c21 => absurd (nI_le (a := K) (b := i) (by omega) (by omega)) c21)
    refine x_aload_n dX5_carryOut_44 rfl ?_
    refine x_iconst (v := 0) dX5_carryOut_45 rfl ?_
    refine M_put (n) (0) (sp) ((nI K)) dX5_carryOut_46 fX5_197 HQ1 (Nat.le_of_ble_eq_true rfl) rfl HQ1.n6 (fun h1 hM1 hf1 => ?_)
    have hG1 : Fr m 8 _ h1 := fun q hq => hf1 q (by omega)
    refine x_iload_n dX5_carryOut_49 rfl ?_
    refine x_iret dX5_carryOut_50 (Or.inl rfl) rfl (Nat.le_refl _) ?_
    exact ⟨rfl, _, rfl, hM1, (hFQ.tr hG1)⟩
  | succ k ih =>
    intro i ζ1 hq1 hik HQ1 hFQ hJ
    obtain ⟨hL, hC, hH, hWP⟩ := hI _ hJ
    refine x_iload_n dX5_carryOut_16 rfl ?_
    refine x_aload_n dX5_carryOut_17 rfl ?_
    refine x_get dX5_carryOut_18 fX5_226 HQ1.ob rfl ?_
    refine x_icmp_ge (tgt := 44) dX5_carryOut_21 (by decide) (fun c21 => absurd c21 (nI_ge (a := i) (b := K) (by omega) (by omega))) (fun c21 => ?_)
    refine x_aload_n dX5_carryOut_24 rfl ?_
    refine x_iload_n dX5_carryOut_25 rfl ?_
    refine c_VR dX5_carryOut_26 kX5_whyNot iX5_whyNot q1054 (m_whyNot _ HQ1 (i := i) (by omega) hL hC) HQ1.ob rfl rfl rfl (Nat.le_of_ble_eq_true rfl) ⟨Nat.le_refl _, Nat.le_refl _⟩ ?_
    refine x_if_ne (tgt := 44) dX5_carryOut_29 (by decide) (fun c29 => ?_) (fun c29 => ?_)
    · refine x_aload_n dX5_carryOut_44 rfl ?_
      refine x_iconst (v := 0) dX5_carryOut_45 rfl ?_
      refine M_put (n) (0) (sp) ((nI K)) dX5_carryOut_46 fX5_197 HQ1 (Nat.le_of_ble_eq_true rfl) rfl HQ1.n6 (fun h1 hM1 hf1 => ?_)
      have hG1 : Fr m 8 _ h1 := fun q hq => hf1 q (by omega)
      refine x_iload_n dX5_carryOut_49 rfl ?_
      refine x_iret dX5_carryOut_50 (Or.inl rfl) rfl (Nat.le_refl _) ?_
      rw [mCo, if_neg c29]
      exact ⟨rfl, _, rfl, hM1, (hFQ.tr hG1)⟩
    · refine x_aload_n dX5_carryOut_32 rfl ?_
      refine x_iload_n dX5_carryOut_33 rfl ?_
      refine c_VMM dX5_carryOut_34 kX5_doOrder iX5_doOrder q1058 (m_doOrder _ HQ1 (i := i) (by omega) hL hC hH hWP c29) HQ1.ob rfl rfl rfl (Nat.le_of_ble_eq_true rfl) ⟨Nat.le_refl _, Nat.le_refl _⟩ (fun h2 hM2 hG2 => ?_)
      refine x_pop dX5_carryOut_37 rfl ?_
      refine e_inc (lv' := fun w9 => [.ref m, .int w9]) dX5_carryOut_38 rfl rfl (fun _ => rfl) (fun v3 ev3 => ?_)
      refine x_goto (tgt := 16) dX5_carryOut_41 (by decide) ?_
      obtain rfl := inc1 ev3
      rw [mCo, if_pos c29]
      exact ih (i + 1) _ h2 (by omega) hM2 (hFQ.tr hG2) (hst _ _ _ _ _ hJ c29)

set_option maxRecDepth 100000 in
set_option maxHeartbeats 4000000 in
theorem m_carryOut {st : Nat → Nat} (d : Nat) {z : Nat} {h : Nat → Option va_E} {m : Nat} {ζ : Sg} {n : Nat} {G S : Nat → Sg} {sv : Nat → Int32} {T : Nat → Nat} {t : Nat} {sp : Int32} {tl : Nat → Int32} {tm : Int32} (hM : MAt h m ζ n n G S sv (fun i => nI (T i)) (nI t) sp tl tm) (ht : t ≤ 80) {I : Sg → Prop} (hI : ∀ τ, I τ → LOk τ ∧ COk τ ∧ WH τ ∧ WP τ) (hst : ∀ τ c f e g, I τ → wOrd τ c f e g = 0 → I (nOrd τ c f e g)) (hJ : I ζ) : CT st (d + 9) yX5_carryOut cX5_carryOut 2 (some .int) [.ref m] (z, h) 0 0 (MMO (some (.int (if (mPadA T t tl).1 = true then nI (mCo (mPadA T t tl).2.2.1 (mPadA T t tl).2.2.2 0 ζ).1 else -3))) z m h (if (mPadA T t tl).1 = true then (mCo (mPadA T t tl).2.2.1 (mPadA T t tl).2.2.2 0 ζ).2 else ζ) (if (mPadA T t tl).1 = true then rcN n else n) (if (mPadA T t tl).1 = true then rcN n else n) (if (mPadA T t tl).1 = true then rcG G n ζ else G) S sv (fun i => nI (T i)) (if (mPadA T t tl).1 = true then 0 else nI t) (nI (mPadA T t tl).2.1) (mPadA T t tl).2.2.1 (nI (mPadA T t tl).2.2.2)) := by
  refine CT.of (lv := [.ref m, .null]) (by decide) (Nat.le_of_ble_eq_true rfl) rfl rfl ?_
  refine x_aload_n dX5_carryOut_0 rfl ?_
  refine c_VMM dX5_carryOut_1 kX5_readPad iX5_readPad q1027 (m_readPad _ hM ht) hM.ob rfl rfl rfl (Nat.le_of_ble_eq_true rfl) ⟨Nat.le_refl _, Nat.le_refl _⟩ (fun h1 hM1 hG1 => ?_)
  refine x_if_ne (tgt := 10) dX5_carryOut_4 (by decide) (fun c4 => ?_) (fun c4 => ?_)
  · have c4 := bI_ne c4
    refine x_aload_n dX5_carryOut_10 rfl ?_
    refine c_VMMn dX5_carryOut_11 kX5_record iX5_record q738 (t_record _ hM1) hM1.ob rfl rfl rfl (Nat.le_of_ble_eq_true rfl) ⟨Nat.le_refl _, Nat.le_refl _⟩ (fun h2 hM2 hG2 => ?_)
    refine x_iconst (v := 0) dX5_carryOut_14 rfl ?_
    refine e_ist_n (lv' := fun w9 => [.ref m, .int w9]) dX5_carryOut_15 (Nat.le_of_ble_eq_true rfl) rfl (fun _ => rfl) (fun v3 ev3 => ?_)
    subst ev3
    simp only [if_pos c4]
    exact L_mcarry d (K := (mPadA T t tl).2.2.2) (mPadA_le T ht tl).1 hI hst (mPadA T t tl).2.2.2 0 ζ h2 (by omega) hM2 (hG1.tr hG2) hJ
  · have c4 := bI_eq c4
    refine x_bipush (v := (-3)) dX5_carryOut_7 rfl ?_
    refine x_iret dX5_carryOut_9 (Or.inl rfl) rfl (Nat.le_refl _) ?_
    have c4 : ¬ (mPadA T t tl).1 = true := by rw [c4]; decide
    simp only [if_neg c4]
    exact ⟨rfl, _, rfl, hM1, hG1⟩
