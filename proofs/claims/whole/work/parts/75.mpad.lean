def mSees (T : Nat → Nat) (t s : Nat) (lo hi : Int32) : Bool := if nI t ≤ nI s then false else mIn (nI (T s)) lo hi
def mNumL (T : Nat → Nat) (t : Nat) (hi : Int32) : Nat → Int32 → Nat → Int32 × Nat
  | 0, v, s => (v, s)
  | k + 1, v, s => if v ≤ 0 then (v, s) else if mSees T t s 48 57 = false then (v, s) else if hi < 10 * v + nI (T s) - 48 then (v, s) else mNumL T t hi k (10 * v + nI (T s) - 48) (s + 1)
def mNum (T : Nat → Nat) (t s : Nat) (hi : Int32) : Int32 × Nat := if mSees T t s 48 57 = true then mNumL T t hi 80 (nI (T s) - 48) (s + 1) else (-6, s)
def mLet (c : Int32) : Bool := decide (c = 108) || (decide (c = 110) || (decide (c = 99) || (decide (c = 112) || (decide (c = 100) || (decide (c = 119) || (decide (c = 115) || decide (c = 116)))))))
theorem mSees_lt {T : Nat → Nat} {t s : Nat} {lo hi : Int32} (hs : s < 2 ^ 31) (h : mSees T t s lo hi = true) : s < t := by
  unfold mSees at h
  split at h
  · exact absurd h (by decide)
  next q => exact lt_of_nle hs q
theorem mSees_ge {T : Nat → Nat} {t s : Nat} (lo hi : Int32) (hs : s < 2 ^ 31) (h : t ≤ s) : mSees T t s lo hi = false := by
  unfold mSees
  rw [if_pos (nI_le h hs)]
theorem mNumL_le (T : Nat → Nat) (t : Nat) (hi : Int32) : ∀ (k : Nat) (v : Int32) (s : Nat), s ≤ 80 → t ≤ 80 → s ≤ (mNumL T t hi k v s).2 ∧ (mNumL T t hi k v s).2 ≤ 80
  | 0, v, s, h, _ => ⟨Nat.le_refl _, h⟩
  | k + 1, v, s, h, ht => by
    unfold mNumL
    split
    · exact ⟨Nat.le_refl _, h⟩
    split
    · exact ⟨Nat.le_refl _, h⟩
    next q =>
      have := mSees_lt (T := T) (t := t) (s := s) (lo := 48) (hi := 57) (by omega) (by simpa using q)
      split
      · exact ⟨Nat.le_refl _, h⟩
      · have := mNumL_le T t hi k (10 * v + nI (T s) - 48) (s + 1) (by omega) ht
        exact ⟨by omega, this.2⟩
theorem mNum_le (T : Nat → Nat) {t s : Nat} (hi : Int32) (hs : s ≤ 80) (ht : t ≤ 80) : s ≤ (mNum T t s hi).2 ∧ (mNum T t s hi).2 ≤ 80 := by
  unfold mNum
  split
  next q =>
    have := mSees_lt (T := T) (t := t) (s := s) (lo := 48) (hi := 57) (by omega) q
    have := mNumL_le T t hi 80 (nI (T s) - 48) (s + 1) (by omega) ht
    exact ⟨by omega, this.2⟩
  · exact ⟨Nat.le_refl _, hs⟩
set_option maxRecDepth 100000 in
set_option maxHeartbeats 4000000 in
theorem m_sees {st : Nat → Nat} (d : Nat) {z : Nat} {h : Nat → Option va_E} {m : Nat} {ζ : Sg} {n nv : Nat} {G S : Nat → Sg} {sv : Nat → Int32} {T : Nat → Nat} {t s : Nat} {tl : Nat → Int32} {tm : Int32} (hM : MAt h m ζ n nv G S sv (fun i => nI (T i)) (nI t) (nI s) tl tm) (ht : t ≤ 80) (hs : s ≤ 80) (l u : Int32) : CT st (d + 2) yX5_sees cX5_sees 3 (some .boolean) [.ref m, .int l, .int u] (z, h) 0 0 (RO (some (.int (bI (mSees T t s l u)))) (z, h)) := by
  refine CT.of (lv := [.ref m, .int l, .int u]) (by decide) (Nat.le_of_ble_eq_true rfl) rfl rfl ?_
  refine x_aload_n dX5_sees_0 rfl ?_
  refine x_get dX5_sees_1 fX5_211 hM.ob rfl ?_
  refine x_aload_n dX5_sees_4 rfl ?_
  refine x_get dX5_sees_5 fX5_197 hM.ob rfl ?_
  refine x_icmp_ge (tgt := 32) dX5_sees_8 (by decide) (fun c8 => ?_) (fun c8 => ?_)
  · refine x_iconst (v := 0) dX5_sees_32 rfl ?_
    refine x_iret dX5_sees_33 (Or.inr ⟨rfl, by first | rfl | exact bI_z _⟩) rfl (Nat.le_refl _) ?_
    exact RO.mk (by simp [mSees, bI, *])
  · refine x_aload_n dX5_sees_11 rfl ?_
    refine x_get dX5_sees_12 fX5_26 hM.ob rfl ?_
    refine x_aload_n dX5_sees_15 rfl ?_
    refine x_get dX5_sees_16 fX5_211 hM.ob rfl ?_
    refine e_ald dX5_sees_19 hM.pad (pad_ix ht (by omega) c8) ?_
    refine x_iload_n dX5_sees_20 rfl ?_
    refine x_iload_n dX5_sees_21 rfl ?_
    refine c_SR dX5_sees_22 kX5_in q732 q731 (t_in _ _ _ _) rfl rfl (Nat.le_of_ble_eq_true rfl) ⟨Nat.le_refl _, Nat.le_refl _⟩ ?_
    refine x_if_eq (tgt := 32) dX5_sees_25 (by decide) (fun c25 => ?_) (fun c25 => ?_)
    · have c25 := bI_eq c25
      refine x_iconst (v := 0) dX5_sees_32 rfl ?_
      refine x_iret dX5_sees_33 (Or.inr ⟨rfl, by first | rfl | exact bI_z _⟩) rfl (Nat.le_refl _) ?_
      exact RO.mk (by simp [mSees, bI, *])
    · have c25 := bI_ne c25
      refine x_iconst (v := 1) dX5_sees_28 rfl ?_
      refine x_goto (tgt := 33) dX5_sees_29 (by decide) ?_
      refine x_iret dX5_sees_33 (Or.inr ⟨rfl, by first | rfl | exact bI_z _⟩) rfl (Nat.le_refl _) ?_
      exact RO.mk (by simp [mSees, bI, *])

set_option maxRecDepth 100000 in
set_option maxHeartbeats 4000000 in
theorem m_takes {st : Nat → Nat} (d : Nat) {z : Nat} {h : Nat → Option va_E} {m : Nat} {ζ : Sg} {n nv : Nat} {G S : Nat → Sg} {sv : Nat → Int32} {T : Nat → Nat} {t s : Nat} {tl : Nat → Int32} {tm : Int32} (hM : MAt h m ζ n nv G S sv (fun i => nI (T i)) (nI t) (nI s) tl tm) (ht : t ≤ 80) (hs : s ≤ 80) (c : Int32) : CT st (d + 3) yX5_takes cX5_takes 3 (some .boolean) [.ref m, .int c] (z, h) 0 0 (MMO (some (.int (bI (mSees T t s c c)))) z m h (ζ) n nv G S sv (fun i => nI (T i)) (nI (t)) (nI (if mSees T t s c c = true then s + 1 else s)) (tl) (tm)) := by
  refine CT.of (lv := [.ref m, .int c, .null]) (by decide) (Nat.le_of_ble_eq_true rfl) rfl rfl ?_
  refine x_aload_n dX5_takes_0 rfl ?_
  refine x_iload_n dX5_takes_1 rfl ?_
  refine x_iload_n dX5_takes_2 rfl ?_
  refine c_VR dX5_takes_3 kX5_sees iX5_sees q1042 (m_sees _ hM ht (by omega) _ _) hM.ob rfl rfl rfl (Nat.le_of_ble_eq_true rfl) ⟨Nat.le_refl _, Nat.le_refl _⟩ ?_
  refine e_ist_n (lv' := fun w9 => [.ref m, .int c, .int w9]) dX5_takes_6 (Nat.le_of_ble_eq_true rfl) rfl (fun _ => rfl) (fun v1 ev1 => ?_)
  have ev1 : bI (mSees T t s c c) = v1 := (ev1.trans rfl).symm
  subst ev1
  refine x_aload_n dX5_takes_7 rfl ?_
  refine x_dup dX5_takes_8 rfl ?_
  refine x_get dX5_takes_9 fX5_211 hM.ob rfl ?_
  refine x_iload_n dX5_takes_12 rfl ?_
  refine x_if_eq (tgt := 20) dX5_takes_13 (by decide) (fun c13 => ?_) (fun c13 => ?_)
  · have c13 := bI_eq c13
    refine x_iconst (v := 0) dX5_takes_20 rfl ?_
    refine x_iadd dX5_takes_21 ?_
    rw [show nI s + 0 = nI s from Int32.add_zero _]
    refine M_put (n) ((nI t)) (nI s) (tm) dX5_takes_22 fX5_211 hM (Nat.le_of_ble_eq_true rfl) rfl hM.n6 (fun h2 hM2 hf2 => ?_)
    have hG2 : Fr m 8 _ h2 := fun q hq => hf2 q (by omega)
    refine x_iload_n dX5_takes_25 rfl ?_
    refine x_iret dX5_takes_26 (Or.inr ⟨rfl, by first | rfl | exact bI_z _⟩) rfl (Nat.le_refl _) ?_
    exact ⟨rfl, _, rfl, by simpa [c13] using hM2, hG2⟩
  · have c13 := bI_ne c13
    refine x_iconst (v := 1) dX5_takes_16 rfl ?_
    refine x_goto (tgt := 21) dX5_takes_17 (by decide) ?_
    refine x_iadd dX5_takes_21 ?_
    rw [show nI s + 1 = nI (s + 1) from nI_1 s]
    refine M_put (n) ((nI t)) (nI (s + 1)) (tm) dX5_takes_22 fX5_211 hM (Nat.le_of_ble_eq_true rfl) rfl hM.n6 (fun h3 hM3 hf3 => ?_)
    have hG3 : Fr m 8 _ h3 := fun q hq => hf3 q (by omega)
    refine x_iload_n dX5_takes_25 rfl ?_
    refine x_iret dX5_takes_26 (Or.inr ⟨rfl, by first | rfl | exact bI_z _⟩) rfl (Nat.le_refl _) ?_
    exact ⟨rfl, _, rfl, by simpa [c13] using hM3, hG3⟩

set_option maxRecDepth 100000 in
set_option maxHeartbeats 4000000 in
theorem L_number {st : Nat → Nat} (d : Nat) {z : Nat} {h : Nat → Option va_E} {m : Nat} {ζ : Sg} {n nv : Nat} {G S : Nat → Sg} {sv : Nat → Int32} {T : Nat → Nat} {t : Nat} {tl : Nat → Int32} {tm : Int32} (ht : t ≤ 80) (u : Int32) : ∀ (k : Nat) (v : Int32) (s : Nat) (hq1 : Nat → Option va_E), t ≤ s + k → s ≤ 80 → MAt hq1 m ζ n nv G S sv (fun i => nI (T i)) (nI t) (nI s) tl tm → Fr m 8 h hq1 → Ev st (d + 3) yX5_number cX5_number 3 (some .int) (z, h) 0 0 (MMO (some (.int (mNumL T t u k v s).1)) z m h (ζ) n nv G S sv (fun i => nI (T i)) (nI (t)) (nI ((mNumL T t u k v s).2)) (tl) (tm)) 37 [.ref m, .int u, .int v] [] (z, hq1) 0 0 := by
  intro k
  induction k with
  | zero =>
    intro v s hq1 hts hs HQ1 hFQ
    refine x_iload_n dX5_number_37 rfl ?_
    refine x_if_le (tgt := 104) dX5_number_38 (by decide) (fun c38 => ?_) (fun c38 => ?_)
    · refine x_iload_n dX5_number_104 rfl ?_
      refine x_iret dX5_number_105 (Or.inl rfl) rfl (Nat.le_refl _) ?_
      exact ⟨rfl, _, rfl, HQ1, hFQ⟩
    · refine x_aload_n dX5_number_41 rfl ?_
      refine x_bipush (v := 48) dX5_number_42 rfl ?_
      refine x_bipush (v := 57) dX5_number_44 rfl ?_
      refine c_VR dX5_number_46 kX5_sees iX5_sees q1042 (m_sees _ HQ1 ht (by omega) _ _) HQ1.ob rfl rfl rfl (Nat.le_of_ble_eq_true rfl) ⟨Nat.le_refl _, Nat.le_refl _⟩ ?_
      refine x_if_eq (tgt := 104) dX5_number_49 (by decide) (fun c49 => ?_) (fun c49 => ?_)
      · have c49 := bI_eq c49
        refine x_iload_n dX5_number_104 rfl ?_
        refine x_iret dX5_number_105 (Or.inl rfl) rfl (Nat.le_refl _) ?_
        exact ⟨rfl, _, rfl, HQ1, hFQ⟩
      · have c49 := bI_ne c49
        exact absurd c49 (by rw [mSees_ge 48 57 (by omega) (by omega)]; decide)
  | succ k ih =>
    intro v s hq1 hts hs HQ1 hFQ
    refine x_iload_n dX5_number_37 rfl ?_
    refine x_if_le (tgt := 104) dX5_number_38 (by decide) (fun c38 => ?_) (fun c38 => ?_)
    · refine x_iload_n dX5_number_104 rfl ?_
      refine x_iret dX5_number_105 (Or.inl rfl) rfl (Nat.le_refl _) ?_
      exact ⟨by first | rw [mNumL, if_pos c38] | rw [mNumL, if_neg c38, if_pos c49] | rw [mNumL, if_neg c38, if_neg (by rw [c49]; decide), if_pos c70], _, rfl, by first | (rw [mNumL, if_pos c38]; exact HQ1) | (rw [mNumL, if_neg c38, if_pos c49]; exact HQ1) | (rw [mNumL, if_neg c38, if_neg (by rw [c49]; decide), if_pos c70]; exact HQ1), hFQ⟩
    · refine x_aload_n dX5_number_41 rfl ?_
      refine x_bipush (v := 48) dX5_number_42 rfl ?_
      refine x_bipush (v := 57) dX5_number_44 rfl ?_
      refine c_VR dX5_number_46 kX5_sees iX5_sees q1042 (m_sees _ HQ1 ht (by omega) _ _) HQ1.ob rfl rfl rfl (Nat.le_of_ble_eq_true rfl) ⟨Nat.le_refl _, Nat.le_refl _⟩ ?_
      refine x_if_eq (tgt := 104) dX5_number_49 (by decide) (fun c49 => ?_) (fun c49 => ?_)
      · have c49 := bI_eq c49
        refine x_iload_n dX5_number_104 rfl ?_
        refine x_iret dX5_number_105 (Or.inl rfl) rfl (Nat.le_refl _) ?_
        exact ⟨by first | rw [mNumL, if_pos c38] | rw [mNumL, if_neg c38, if_pos c49] | rw [mNumL, if_neg c38, if_neg (by rw [c49]; decide), if_pos c70], _, rfl, by first | (rw [mNumL, if_pos c38]; exact HQ1) | (rw [mNumL, if_neg c38, if_pos c49]; exact HQ1) | (rw [mNumL, if_neg c38, if_neg (by rw [c49]; decide), if_pos c70]; exact HQ1), hFQ⟩
      · have c49 := bI_ne c49
        refine x_bipush (v := 10) dX5_number_52 rfl ?_
        refine x_iload_n dX5_number_54 rfl ?_
        refine x_imul dX5_number_55 ?_
        refine x_aload_n dX5_number_56 rfl ?_
        refine x_get dX5_number_57 fX5_26 HQ1.ob rfl ?_
        refine x_aload_n dX5_number_60 rfl ?_
        refine x_get dX5_number_61 fX5_211 HQ1.ob rfl ?_
        refine e_ald dX5_number_64 HQ1.pad (ax_ixN (j := s) (by have := mSees_lt (T := T) (t := t) (s := s) (lo := 48) (hi := 57) (by omega) c49; omega) (by decide)) ?_
        refine x_iadd dX5_number_65 ?_
        refine x_bipush (v := 48) dX5_number_66 rfl ?_
        refine x_isub dX5_number_68 ?_
        refine x_iload_n dX5_number_69 rfl ?_
        refine x_icmp_gt (tgt := 104) dX5_number_70 (by decide) (fun c70 => ?_) (fun c70 => ?_)
        · refine x_iload_n dX5_number_104 rfl ?_
          refine x_iret dX5_number_105 (Or.inl rfl) rfl (Nat.le_refl _) ?_
          exact ⟨by first | rw [mNumL, if_pos c38] | rw [mNumL, if_neg c38, if_pos c49] | rw [mNumL, if_neg c38, if_neg (by rw [c49]; decide), if_pos c70], _, rfl, by first | (rw [mNumL, if_pos c38]; exact HQ1) | (rw [mNumL, if_neg c38, if_pos c49]; exact HQ1) | (rw [mNumL, if_neg c38, if_neg (by rw [c49]; decide), if_pos c70]; exact HQ1), hFQ⟩
        · refine x_bipush (v := 10) dX5_number_73 rfl ?_
          refine x_iload_n dX5_number_75 rfl ?_
          refine x_imul dX5_number_76 ?_
          refine x_aload_n dX5_number_77 rfl ?_
          refine x_get dX5_number_78 fX5_26 HQ1.ob rfl ?_
          refine x_aload_n dX5_number_81 rfl ?_
          refine x_get dX5_number_82 fX5_211 HQ1.ob rfl ?_
          refine e_ald dX5_number_85 HQ1.pad (ax_ixN (j := s) (by have := mSees_lt (T := T) (t := t) (s := s) (lo := 48) (hi := 57) (by omega) c49; omega) (by decide)) ?_
          refine x_iadd dX5_number_86 ?_
          refine x_bipush (v := 48) dX5_number_87 rfl ?_
          refine x_isub dX5_number_89 ?_
          refine e_ist_n (lv' := fun w9 => [.ref m, .int u, .int w9]) dX5_number_90 (Nat.le_of_ble_eq_true rfl) rfl (fun _ => rfl) (fun v1 ev1 => ?_)
          have ev1 : 10 * v + nI (T s) - 48 = v1 := (ev1.trans rfl).symm
          subst ev1
          refine x_aload_n dX5_number_91 rfl ?_
          refine x_dup dX5_number_92 rfl ?_
          refine x_get dX5_number_93 fX5_211 HQ1.ob rfl ?_
          refine x_iconst (v := 1) dX5_number_96 rfl ?_
          refine x_iadd dX5_number_97 ?_
          rw [show nI s + 1 = nI (s + 1) from nI_1 s]
          refine M_put (n) ((nI t)) (nI (s + 1)) (tm) dX5_number_98 fX5_211 HQ1 (Nat.le_of_ble_eq_true rfl) rfl HQ1.n6 (fun h2 hM2 hf2 => ?_)
          have hG2 : Fr m 8 _ h2 := fun q hq => hf2 q (by omega)
          refine x_goto (tgt := 37) dX5_number_101 (by decide) ?_
          rw [show mNumL T t u (k + 1) v s = mNumL T t u k (10 * v + nI (T s) - 48) (s + 1) from by rw [mNumL, if_neg (Int32.not_le.mpr (Int32.not_le.mp c38)), if_neg (by rw [c49]; decide), if_neg c70]]
          exact ih (10 * v + nI (T s) - 48) (s + 1) h2 (by have := mSees_lt (T := T) (t := t) (s := s) (lo := 48) (hi := 57) (by omega) c49; omega) (by have := mSees_lt (T := T) (t := t) (s := s) (lo := 48) (hi := 57) (by omega) c49; omega) hM2 (hFQ.tr hG2)

set_option maxRecDepth 100000 in
set_option maxHeartbeats 4000000 in
theorem m_number {st : Nat → Nat} (d : Nat) {z : Nat} {h : Nat → Option va_E} {m : Nat} {ζ : Sg} {n nv : Nat} {G S : Nat → Sg} {sv : Nat → Int32} {T : Nat → Nat} {t s : Nat} {tl : Nat → Int32} {tm : Int32} (hM : MAt h m ζ n nv G S sv (fun i => nI (T i)) (nI t) (nI s) tl tm) (ht : t ≤ 80) (hs : s ≤ 80) (u : Int32) : CT st (d + 3) yX5_number cX5_number 3 (some .int) [.ref m, .int u] (z, h) 0 0 (MMO (some (.int (mNum T t s u).1)) z m h (ζ) n nv G S sv (fun i => nI (T i)) (nI (t)) (nI ((mNum T t s u).2)) (tl) (tm)) := by
  refine CT.of (lv := [.ref m, .int u, .null]) (by decide) (Nat.le_of_ble_eq_true rfl) rfl rfl ?_
  refine x_aload_n dX5_number_0 rfl ?_
  refine x_bipush (v := 48) dX5_number_1 rfl ?_
  refine x_bipush (v := 57) dX5_number_3 rfl ?_
  refine c_VR dX5_number_5 kX5_sees iX5_sees q1042 (m_sees _ hM ht (by omega) _ _) hM.ob rfl rfl rfl (Nat.le_of_ble_eq_true rfl) ⟨Nat.le_refl _, Nat.le_refl _⟩ ?_
  refine x_if_ne (tgt := 14) dX5_number_8 (by decide) (fun c8 => ?_) (fun c8 => ?_)
  · have c8 := bI_ne c8
    refine x_aload_n dX5_number_14 rfl ?_
    refine x_get dX5_number_15 fX5_26 hM.ob rfl ?_
    refine x_aload_n dX5_number_18 rfl ?_
    refine x_get dX5_number_19 fX5_211 hM.ob rfl ?_
    refine e_ald dX5_number_22 hM.pad (ax_ixN (j := s) (by have := mSees_lt (T := T) (t := t) (s := s) (lo := 48) (hi := 57) (by omega) c8; omega) (by decide)) ?_
    refine x_bipush (v := 48) dX5_number_23 rfl ?_
    refine x_isub dX5_number_25 ?_
    refine e_ist_n (lv' := fun w9 => [.ref m, .int u, .int w9]) dX5_number_26 (Nat.le_of_ble_eq_true rfl) rfl (fun _ => rfl) (fun v1 ev1 => ?_)
    have ev1 : nI (T s) - 48 = v1 := (ev1.trans rfl).symm
    subst ev1
    refine x_aload_n dX5_number_27 rfl ?_
    refine x_dup dX5_number_28 rfl ?_
    refine x_get dX5_number_29 fX5_211 hM.ob rfl ?_
    refine x_iconst (v := 1) dX5_number_32 rfl ?_
    refine x_iadd dX5_number_33 ?_
    rw [show nI s + 1 = nI (s + 1) from nI_1 s]
    refine M_put (n) ((nI t)) (nI (s + 1)) (tm) dX5_number_34 fX5_211 hM (Nat.le_of_ble_eq_true rfl) rfl hM.n6 (fun h2 hM2 hf2 => ?_)
    have hG2 : Fr m 8 _ h2 := fun q hq => hf2 q (by omega)
    rw [mNum, if_pos c8]
    exact L_number d ht u 80 (nI (T s) - 48) (s + 1) h2 (by omega) (by have := mSees_lt (T := T) (t := t) (s := s) (lo := 48) (hi := 57) (by omega) c8; omega) hM2 hG2
  · have c8 := bI_eq c8
    refine x_bipush (v := (-6)) dX5_number_11 rfl ?_
    refine x_iret dX5_number_13 (Or.inl rfl) rfl (Nat.le_refl _) ?_
    exact ⟨by rw [mNum, if_neg (by rw [c8]; decide)], _, rfl, by rw [mNum, if_neg (by rw [c8]; decide)]; exact hM, Fr.rf⟩

set_option maxRecDepth 100000 in
set_option maxHeartbeats 4000000 in
theorem t_isLetter {st : Nat → Nat} (d : Nat) {z : Nat} {h : Nat → Option va_E} (c : Int32) : CT st (d + 1) yX5_isLetter cX5_isLetter 1 (some .boolean) [.int c] (z, h) 0 0 (RO (some (.int (bI (mLet c)))) (z, h)) := by
  refine CT.of (lv := [.int c]) (by decide) (Nat.le_of_ble_eq_true rfl) rfl rfl ?_
  refine x_iload_n dX5_isLetter_0 rfl ?_
  refine x_bipush (v := 108) dX5_isLetter_1 rfl ?_
  refine x_icmp_eq (tgt := 48) dX5_isLetter_3 (by decide) (fun c3 => ?_) (fun c3 => ?_)
  · refine x_iconst (v := 1) dX5_isLetter_48 rfl ?_
    refine x_goto (tgt := 53) dX5_isLetter_49 (by decide) ?_
    refine x_iret dX5_isLetter_53 (Or.inr ⟨rfl, by first | rfl | exact bI_z _⟩) rfl (Nat.le_refl _) ?_
    exact RO.mk (by simp [mLet, bI, *])
  · refine x_iload_n dX5_isLetter_6 rfl ?_
    refine x_bipush (v := 110) dX5_isLetter_7 rfl ?_
    refine x_icmp_eq (tgt := 48) dX5_isLetter_9 (by decide) (fun c9 => ?_) (fun c9 => ?_)
    · refine x_iconst (v := 1) dX5_isLetter_48 rfl ?_
      refine x_goto (tgt := 53) dX5_isLetter_49 (by decide) ?_
      refine x_iret dX5_isLetter_53 (Or.inr ⟨rfl, by first | rfl | exact bI_z _⟩) rfl (Nat.le_refl _) ?_
      exact RO.mk (by simp [mLet, bI, *])
    · refine x_iload_n dX5_isLetter_12 rfl ?_
      refine x_bipush (v := 99) dX5_isLetter_13 rfl ?_
      refine x_icmp_eq (tgt := 48) dX5_isLetter_15 (by decide) (fun c15 => ?_) (fun c15 => ?_)
      · refine x_iconst (v := 1) dX5_isLetter_48 rfl ?_
        refine x_goto (tgt := 53) dX5_isLetter_49 (by decide) ?_
        refine x_iret dX5_isLetter_53 (Or.inr ⟨rfl, by first | rfl | exact bI_z _⟩) rfl (Nat.le_refl _) ?_
        exact RO.mk (by simp [mLet, bI, *])
      · refine x_iload_n dX5_isLetter_18 rfl ?_
        refine x_bipush (v := 112) dX5_isLetter_19 rfl ?_
        refine x_icmp_eq (tgt := 48) dX5_isLetter_21 (by decide) (fun c21 => ?_) (fun c21 => ?_)
        · refine x_iconst (v := 1) dX5_isLetter_48 rfl ?_
          refine x_goto (tgt := 53) dX5_isLetter_49 (by decide) ?_
          refine x_iret dX5_isLetter_53 (Or.inr ⟨rfl, by first | rfl | exact bI_z _⟩) rfl (Nat.le_refl _) ?_
          exact RO.mk (by simp [mLet, bI, *])
        · refine x_iload_n dX5_isLetter_24 rfl ?_
          refine x_bipush (v := 100) dX5_isLetter_25 rfl ?_
          refine x_icmp_eq (tgt := 48) dX5_isLetter_27 (by decide) (fun c27 => ?_) (fun c27 => ?_)
          · refine x_iconst (v := 1) dX5_isLetter_48 rfl ?_
            refine x_goto (tgt := 53) dX5_isLetter_49 (by decide) ?_
            refine x_iret dX5_isLetter_53 (Or.inr ⟨rfl, by first | rfl | exact bI_z _⟩) rfl (Nat.le_refl _) ?_
            exact RO.mk (by simp [mLet, bI, *])
          · refine x_iload_n dX5_isLetter_30 rfl ?_
            refine x_bipush (v := 119) dX5_isLetter_31 rfl ?_
            refine x_icmp_eq (tgt := 48) dX5_isLetter_33 (by decide) (fun c33 => ?_) (fun c33 => ?_)
            · refine x_iconst (v := 1) dX5_isLetter_48 rfl ?_
              refine x_goto (tgt := 53) dX5_isLetter_49 (by decide) ?_
              refine x_iret dX5_isLetter_53 (Or.inr ⟨rfl, by first | rfl | exact bI_z _⟩) rfl (Nat.le_refl _) ?_
              exact RO.mk (by simp [mLet, bI, *])
            · refine x_iload_n dX5_isLetter_36 rfl ?_
              refine x_bipush (v := 115) dX5_isLetter_37 rfl ?_
              refine x_icmp_eq (tgt := 48) dX5_isLetter_39 (by decide) (fun c39 => ?_) (fun c39 => ?_)
              · refine x_iconst (v := 1) dX5_isLetter_48 rfl ?_
                refine x_goto (tgt := 53) dX5_isLetter_49 (by decide) ?_
                refine x_iret dX5_isLetter_53 (Or.inr ⟨rfl, by first | rfl | exact bI_z _⟩) rfl (Nat.le_refl _) ?_
                exact RO.mk (by simp [mLet, bI, *])
              · refine x_iload_n dX5_isLetter_42 rfl ?_
                refine x_bipush (v := 116) dX5_isLetter_43 rfl ?_
                refine x_icmp_ne (tgt := 52) dX5_isLetter_45 (by decide) (fun c45 => ?_) (fun c45 => ?_)
                · refine x_iconst (v := 0) dX5_isLetter_52 rfl ?_
                  refine x_iret dX5_isLetter_53 (Or.inr ⟨rfl, by first | rfl | exact bI_z _⟩) rfl (Nat.le_refl _) ?_
                  exact RO.mk (by simp [mLet, bI, *])
                · refine x_iconst (v := 1) dX5_isLetter_48 rfl ?_
                  refine x_goto (tgt := 53) dX5_isLetter_49 (by decide) ?_
                  refine x_iret dX5_isLetter_53 (Or.inr ⟨rfl, by first | rfl | exact bI_z _⟩) rfl (Nat.le_refl _) ?_
                  exact RO.mk (by simp [mLet, bI, *])

set_option maxRecDepth 100000 in
set_option maxHeartbeats 4000000 in
theorem m_wipe {st : Nat → Nat} (d : Nat) {z : Nat} {h : Nat → Option va_E} {m : Nat} {ζ : Sg} {n nv : Nat} {G S : Nat → Sg} {sv tx : Nat → Int32} {ty sp : Int32} {tl : Nat → Int32} {tm : Int32} (hM : MAt h m ζ n nv G S sv tx ty sp tl tm)  : CT st (d + 1) yX5_wipe cX5_wipe 2 (some .int) [.ref m] (z, h) 0 0 (MMO (some (.int ty)) z m h (ζ) (n) (nv) (G) (S) (sv) (tx) (0) (sp) (tl) (tm)) := by
  refine CT.of (lv := [.ref m, .null]) (by decide) (Nat.le_of_ble_eq_true rfl) rfl rfl ?_
  refine x_aload_n dX5_wipe_0 rfl ?_
  refine x_get dX5_wipe_1 fX5_197 hM.ob rfl ?_
  refine e_ist_n (lv' := fun w9 => [.ref m, .int w9]) dX5_wipe_4 (Nat.le_of_ble_eq_true rfl) rfl (fun _ => rfl) (fun v1 ev1 => ?_)
  refine x_aload_n dX5_wipe_5 rfl ?_
  refine x_iconst (v := 0) dX5_wipe_6 rfl ?_
  refine M_put (n) (0) (sp) (tm) dX5_wipe_7 fX5_197 hM (Nat.le_of_ble_eq_true rfl) rfl hM.n6 (fun h2 hM2 hf2 => ?_)
  have hG2 : Fr m 8 _ h2 := fun q hq => hf2 q (by omega)
  refine x_iload_n dX5_wipe_10 rfl ?_
  refine x_iret dX5_wipe_11 (Or.inl rfl) rfl (Nat.le_refl _) ?_
  exact ⟨by subst_vars; rfl, _, rfl, hM2, hG2⟩
