theorem mRd_le (T : Nat → Nat) {t s : Nat} (hs : s + 1 ≤ 80) (ht : t ≤ 80) : s + 1 ≤ (mRd T t s).2 ∧ (mRd T t s).2 ≤ 80 := by
  have r2 : ∀ (a : Nat) (g hi : Int32), a ≤ 80 → a ≤ (mR2 T t a g hi).2 ∧ (mR2 T t a g hi).2 ≤ 80 := by
    intro a g hi ha
    unfold mR2
    split
    next q =>
      have := mTk_t (T := T) (t := t) (s := a) ha ht q
      have := mNum_le T (t := t) (s := a + 1) hi this ht
      exact ⟨by omega, this.2⟩
    · exact ⟨Nat.le_refl _, ha⟩
  have h1 := mNum_le T (t := t) (s := s + 1) 9999 hs ht
  have h2 := r2 (mNum T t (s + 1) 9999).2 64 9999 h1.2
  have h3 := r2 (mR2 T t (mNum T t (s + 1) 9999).2 64 9999).2 47 9 h2.2
  have h4 := r2 (mNum T t (s + 1) 9999).2 43 9999 h1.2
  unfold mRd
  split
  · exact h1
  split
  · split
    · exact ⟨by dsimp only; omega, h2.2⟩
    · exact ⟨by dsimp only; omega, h3.2⟩
  split
  · exact ⟨by dsimp only; omega, h4.2⟩
  · exact h1
def mROb (T : Nat → Nat) (t s : Nat) : Bool := mOkL T t s && mGood (mRd T t s).1
def mROs (T : Nat → Nat) (t s : Nat) : Nat := if mOkL T t s = true then (mRd T t s).2 else s
def mROt (T : Nat → Nat) (t s : Nat) (tl : Nat → Int32) (k : Nat) : Nat → Int32 := if mOkL T t s = true then up4 tl k (nI (T s)) (mRd T t s).1 else tl
def mROk (T : Nat → Nat) (t s k : Nat) : Nat := if mOkL T t s = true then k + 1 else k
theorem mROs_le (T : Nat → Nat) {t s : Nat} (hs : s ≤ 80) (ht : t ≤ 80) : s ≤ mROs T t s ∧ mROs T t s ≤ 80 ∧ ∀ k, 2 * k ≤ s → 2 * mROk T t s k ≤ mROs T t s + 1 := by
  unfold mROs mROk
  split
  next q =>
    have hlt : s < t := by
      unfold mOkL at q
      split at q
      · exact absurd q (by decide)
      next q2 => exact lt_of_nle (by omega) q2
    have := mRd_le T (t := t) (s := s) (by omega) ht
    exact ⟨by omega, this.2, fun k hk => by omega⟩
  · exact ⟨Nat.le_refl _, hs, fun k hk => by omega⟩
def mPf (T : Nat → Nat) (t : Nat) : Nat → Bool → Nat → (Nat → Int32) → Nat → Bool × Nat × (Nat → Int32) × Nat
  | 0, g, s, tl, k => (g, s, tl, k)
  | j + 1, g, s, tl, k => if g = false then (g, s, tl, k) else if nI t ≤ nI s then (g, s, tl, k) else
      if mSees T t s 59 59 = true then mPf T t j (mROb T t (s + 1)) (mROs T t (s + 1)) (mROt T t (s + 1) tl k) (mROk T t (s + 1) k) else mPf T t j false s tl k
def mPadA (T : Nat → Nat) (t : Nat) (tl : Nat → Int32) : Bool × Nat × (Nat → Int32) × Nat := mPf T t 80 (mROb T t 0) (mROs T t 0) (mROt T t 0 tl 0) (mROk T t 0 0)
set_option maxRecDepth 100000 in
set_option maxHeartbeats 4000000 in
theorem L_readPad {st : Nat → Nat} (d : Nat) {z : Nat} {h : Nat → Option va_E} {m : Nat} {ζ : Sg} {n nv : Nat} {G S : Nat → Sg} {sv : Nat → Int32} {T : Nat → Nat} {t : Nat}  (ht : t ≤ 80) : ∀ (j : Nat) (g : Bool) (s : Nat) (tl : Nat → Int32) (k : Nat) (hq1 : Nat → Option va_E), (g = true → t ≤ s + j) → s ≤ 80 → 2 * k ≤ s + 1 → MAt hq1 m ζ n nv G S sv (fun i => nI (T i)) (nI t) (nI s) tl (nI k) → Fr m 8 h hq1 → Ev st (d + 5) yX5_readPad cX5_readPad 2 (some .boolean) (z, h) 0 0 (MMO (some (.int (bI (mPf T t j g s tl k).1))) z m h ζ n nv G S sv (fun i => nI (T i)) (nI t) (nI (mPf T t j g s tl k).2.1) (mPf T t j g s tl k).2.2.1 (nI (mPf T t j g s tl k).2.2.2)) 15 [.ref m, .int (bI g)] [] (z, hq1) 0 0 := by
  intro j
  induction j with
  | zero =>
    intro g s tl k hq1 hts hs hk HQ1 hFQ
    refine x_iload_n dX5_readPad_15 rfl ?_
    refine x_if_eq (tgt := 55) dX5_readPad_16 (by decide) (fun c16 => ?_) (fun c16 => ?_)
    · have c16 := bI_eq c16
      refine x_iload_n dX5_readPad_55 rfl ?_
      refine x_iret dX5_readPad_56 (Or.inr ⟨rfl, by first | rfl | exact bI_z _⟩) rfl (Nat.le_refl _) ?_
      exact ⟨rfl, _, rfl, HQ1, hFQ⟩
    · have c16 := bI_ne c16
      refine x_aload_n dX5_readPad_19 rfl ?_
      refine x_get dX5_readPad_20 fX5_211 HQ1.ob rfl ?_
      refine x_aload_n dX5_readPad_23 rfl ?_
      refine x_get dX5_readPad_24 fX5_197 HQ1.ob rfl ?_
      refine x_icmp_ge (tgt := 55) dX5_readPad_27 (by decide) (fun c27 => ?_) (fun c27 => ?_)
      · refine x_iload_n dX5_readPad_55 rfl ?_
        refine x_iret dX5_readPad_56 (Or.inr ⟨rfl, by first | rfl | exact bI_z _⟩) rfl (Nat.le_refl _) ?_
        exact ⟨rfl, _, rfl, HQ1, hFQ⟩
      · exact absurd (nI_le (a := t) (b := s) (by have := hts c16; omega) (by omega)) c27
  | succ j ih =>
    intro g s tl k hq1 hts hs hk HQ1 hFQ
    refine x_iload_n dX5_readPad_15 rfl ?_
    refine x_if_eq (tgt := 55) dX5_readPad_16 (by decide) (fun c16 => ?_) (fun c16 => ?_)
    · have c16 := bI_eq c16
      refine x_iload_n dX5_readPad_55 rfl ?_
      refine x_iret dX5_readPad_56 (Or.inr ⟨rfl, by first | rfl | exact bI_z _⟩) rfl (Nat.le_refl _) ?_
      first
        | (rw [mPf, if_pos c16]; exact ⟨rfl, _, rfl, HQ1, hFQ⟩)
        | (rw [mPf, if_neg (by decide), if_pos c27]; exact ⟨rfl, _, rfl, HQ1, hFQ⟩)
    · have c16 := bI_ne c16
      subst c16
      refine x_aload_n dX5_readPad_19 rfl ?_
      refine x_get dX5_readPad_20 fX5_211 HQ1.ob rfl ?_
      refine x_aload_n dX5_readPad_23 rfl ?_
      refine x_get dX5_readPad_24 fX5_197 HQ1.ob rfl ?_
      refine x_icmp_ge (tgt := 55) dX5_readPad_27 (by decide) (fun c27 => ?_) (fun c27 => ?_)
      · refine x_iload_n dX5_readPad_55 rfl ?_
        refine x_iret dX5_readPad_56 (Or.inr ⟨rfl, by first | rfl | exact bI_z _⟩) rfl (Nat.le_refl _) ?_
        first
          | (rw [mPf, if_pos c16]; exact ⟨rfl, _, rfl, HQ1, hFQ⟩)
          | (rw [mPf, if_neg (by decide), if_pos c27]; exact ⟨rfl, _, rfl, HQ1, hFQ⟩)
      · refine x_aload_n dX5_readPad_30 rfl ?_
        refine x_bipush (v := 59) dX5_readPad_31 rfl ?_
        refine c_VMM dX5_readPad_33 kX5_takes iX5_takes q1046 (m_takes _ HQ1 ht hs _) HQ1.ob rfl rfl rfl (Nat.le_of_ble_eq_true rfl) ⟨Nat.le_refl _, Nat.le_refl _⟩ (fun h1 hM1 hG1 => ?_)
        refine x_if_eq (tgt := 50) dX5_readPad_36 (by decide) (fun c36 => ?_) (fun c36 => ?_)
        · have c36 := bI_eq c36
          refine x_iconst (v := 0) dX5_readPad_50 rfl ?_
          refine e_ist_n (lv' := fun w9 => [.ref m, .int w9]) dX5_readPad_51 (Nat.le_of_ble_eq_true rfl) rfl (fun _ => rfl) (fun v2 ev2 => ?_)
          subst ev2
          refine x_goto (tgt := 15) dX5_readPad_52 (by decide) ?_
          first
            | (rw [mPf, if_neg (by decide), if_neg c27, if_pos c36, show mROb T t (s + 1) = false from c43]; have hle := mROs_le T (t := t) (s := s + 1) hs1 ht; exact ih false _ _ _ h1 (fun _ => by have := hts rfl; omega) hle.2.1 (hle.2.2 k (by omega)) hM1 (hFQ.tr hG1))
            | (rw [mPf, if_neg (by decide), if_neg c27, if_neg (by rw [c36]; decide)]; rw [if_neg (by rw [c36]; decide)] at hM1; exact ih false _ _ _ h1 (fun q => absurd q (by decide)) hs hk hM1 (hFQ.tr hG1))
        · have c36 := bI_ne c36
          rw [if_pos c36] at hM1
          have hs1 := mTk_t (T := T) (t := t) (s := s) hs ht c36
          refine x_aload_n dX5_readPad_39 rfl ?_
          refine c_VMM dX5_readPad_40 kX5_readOrder iX5_readOrder q1031 (m_readOrder (tl := _) _ hM1 ht hs1 (by omega)) hM1.ob rfl rfl rfl (Nat.le_of_ble_eq_true rfl) ⟨Nat.le_refl _, Nat.le_refl _⟩ (fun h3 hM3 hG3 => ?_)
          refine x_if_eq (tgt := 50) dX5_readPad_43 (by decide) (fun c43 => ?_) (fun c43 => ?_)
          · have c43 := bI_eq c43
            refine x_iconst (v := 0) dX5_readPad_50 rfl ?_
            refine e_ist_n (lv' := fun w9 => [.ref m, .int w9]) dX5_readPad_51 (Nat.le_of_ble_eq_true rfl) rfl (fun _ => rfl) (fun v4 ev4 => ?_)
            subst ev4
            refine x_goto (tgt := 15) dX5_readPad_52 (by decide) ?_
            first
              | (rw [mPf, if_neg (by decide), if_neg c27, if_pos c36, show mROb T t (s + 1) = false from c43]; have hle := mROs_le T (t := t) (s := s + 1) hs1 ht; exact ih false _ _ _ h3 (fun _ => by have := hts rfl; omega) hle.2.1 (hle.2.2 k (by omega)) hM3 ((hFQ.tr hG1).tr hG3))
              | (rw [mPf, if_neg (by decide), if_neg c27, if_neg (by rw [c36]; decide)]; rw [if_neg (by rw [c36]; decide)] at hM3; exact ih false _ _ _ h3 (fun q => absurd q (by decide)) hs hk hM3 ((hFQ.tr hG1).tr hG3))
          · have c43 := bI_ne c43
            refine x_iconst (v := 1) dX5_readPad_46 rfl ?_
            refine x_goto (tgt := 51) dX5_readPad_47 (by decide) ?_
            refine e_ist_n (lv' := fun w9 => [.ref m, .int w9]) dX5_readPad_51 (Nat.le_of_ble_eq_true rfl) rfl (fun _ => rfl) (fun v5 ev5 => ?_)
            subst ev5
            refine x_goto (tgt := 15) dX5_readPad_52 (by decide) ?_
            first
              | (rw [mPf, if_neg (by decide), if_neg c27, if_pos c36, show mROb T t (s + 1) = true from c43]; have hle := mROs_le T (t := t) (s := s + 1) hs1 ht; exact ih true _ _ _ h3 (fun _ => by have := hts rfl; omega) hle.2.1 (hle.2.2 k (by omega)) hM3 ((hFQ.tr hG1).tr hG3))
              | (rw [mPf, if_neg (by decide), if_neg c27, if_neg (by rw [c36]; decide)]; rw [if_neg (by rw [c36]; decide)] at hM3; exact ih true _ _ _ h3 (fun q => absurd q (by decide)) hs hk hM3 ((hFQ.tr hG1).tr hG3))

set_option maxRecDepth 100000 in
set_option maxHeartbeats 4000000 in
theorem m_readPad {st : Nat → Nat} (d : Nat) {z : Nat} {h : Nat → Option va_E} {m : Nat} {ζ : Sg} {n nv : Nat} {G S : Nat → Sg} {sv : Nat → Int32} {T : Nat → Nat} {t : Nat} {sp : Int32} {tl : Nat → Int32} {tm : Int32} (hM : MAt h m ζ n nv G S sv (fun i => nI (T i)) (nI t) sp tl tm) (ht : t ≤ 80)  : CT st (d + 5) yX5_readPad cX5_readPad 2 (some .boolean) [.ref m] (z, h) 0 0 (MMO (some (.int (bI (mPadA T t tl).1))) z m h ζ n nv G S sv (fun i => nI (T i)) (nI t) (nI (mPadA T t tl).2.1) (mPadA T t tl).2.2.1 (nI (mPadA T t tl).2.2.2)) := by
  refine CT.of (lv := [.ref m, .null]) (by decide) (Nat.le_of_ble_eq_true rfl) rfl rfl ?_
  refine x_aload_n dX5_readPad_0 rfl ?_
  refine x_iconst (v := 0) dX5_readPad_1 rfl ?_
  refine M_put (n) ((nI t)) (nI 0) (tm) dX5_readPad_2 fX5_211 hM (Nat.le_of_ble_eq_true rfl) rfl hM.n6 (fun h1 hM1 hf1 => ?_)
  have hG1 : Fr m 8 _ h1 := fun q hq => hf1 q (by omega)
  refine x_aload_n dX5_readPad_5 rfl ?_
  refine x_iconst (v := 0) dX5_readPad_6 rfl ?_
  refine M_put (n) (((nI t))) ((nI 0)) (nI 0) dX5_readPad_7 fX5_226 hM1 (Nat.le_of_ble_eq_true rfl) rfl hM1.n6 (fun h2 hM2 hf2 => ?_)
  have hG2 : Fr m 8 _ h2 := fun q hq => hf2 q (by omega)
  refine x_aload_n dX5_readPad_10 rfl ?_
  refine c_VMM dX5_readPad_11 kX5_readOrder iX5_readOrder q1031 (m_readOrder (tl := _) _ hM2 ht (Nat.zero_le _) (by decide)) hM2.ob rfl rfl rfl (Nat.le_of_ble_eq_true rfl) ⟨Nat.le_refl _, Nat.le_refl _⟩ (fun h3 hM3 hG3 => ?_)
  refine e_ist_n (lv' := fun w9 => [.ref m, .int w9]) dX5_readPad_14 (Nat.le_of_ble_eq_true rfl) rfl (fun _ => rfl) (fun v4 ev4 => ?_)
  have ev4 : bI (mROb T t 0) = v4 := (ev4.trans rfl).symm
  subst ev4
  have hle := mROs_le T (t := t) (s := 0) (by omega) ht
  exact L_readPad d ht 80 (mROb T t 0) _ _ _ h3 (fun _ => by omega) hle.2.1 (hle.2.2 0 (by omega)) hM3 ((hG1.tr hG2).tr hG3)

set_option maxRecDepth 100000 in
set_option maxHeartbeats 4000000 in
theorem m_fault {st : Nat → Nat} (d : Nat) {z : Nat} {h : Nat → Option va_E} {m : Nat} {ζ : Sg} {n nv : Nat} {G S : Nat → Sg} {sv : Nat → Int32} {T : Nat → Nat} {t : Nat} {sp : Int32} {tl : Nat → Int32} {tm : Int32} (hM : MAt h m ζ n nv G S sv (fun i => nI (T i)) (nI t) sp tl tm) (ht : t ≤ 80)  : CT st (d + 6) yX5_fault cX5_fault 1 (some .int) [.ref m] (z, h) 0 0 (MMO (some (.int (if (mPadA T t tl).1 = true then -6 else nI (mPadA T t tl).2.1))) z m h ζ n nv G S sv (fun i => nI (T i)) (nI t) (nI (mPadA T t tl).2.1) (mPadA T t tl).2.2.1 (nI (mPadA T t tl).2.2.2)) := by
  refine CT.of (lv := [.ref m]) (by decide) (Nat.le_of_ble_eq_true rfl) rfl rfl ?_
  refine x_aload_n dX5_fault_0 rfl ?_
  refine c_VMM dX5_fault_1 kX5_readPad iX5_readPad q1027 (m_readPad _ hM ht) hM.ob rfl rfl rfl (Nat.le_of_ble_eq_true rfl) ⟨Nat.le_refl _, Nat.le_refl _⟩ (fun h1 hM1 hG1 => ?_)
  refine x_if_eq (tgt := 12) dX5_fault_4 (by decide) (fun c4 => ?_) (fun c4 => ?_)
  · have c4 := bI_eq c4
    refine x_aload_n dX5_fault_12 rfl ?_
    refine x_get dX5_fault_13 fX5_211 hM1.ob rfl ?_
    refine x_iret dX5_fault_16 (Or.inl rfl) rfl (Nat.le_refl _) ?_
    exact ⟨by simp [c4], _, rfl, hM1, hG1⟩
  · have c4 := bI_ne c4
    refine x_bipush (v := (-6)) dX5_fault_7 rfl ?_
    refine x_goto (tgt := 16) dX5_fault_9 (by decide) ?_
    refine x_iret dX5_fault_16 (Or.inl rfl) rfl (Nat.le_refl _) ?_
    exact ⟨by simp [c4], _, rfl, hM1, hG1⟩
