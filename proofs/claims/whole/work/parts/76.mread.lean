def mR2 (T : Nat → Nat) (t s : Nat) (g hi : Int32) : Int32 × Nat := if mSees T t s g g = true then mNum T t (s + 1) hi else (-6, s)
def mRd (T : Nat → Nat) (t s : Nat) : (Int32 × Int32 × Int32) × Nat :=
  if (mNum T t (s + 1) 9999).1 = -6 then ((-6, 0, 0), (mNum T t (s + 1) 9999).2)
  else if nI (T s) = 99 then (if (mR2 T t (mNum T t (s + 1) 9999).2 64 9999).1 = -6 then (((mNum T t (s + 1) 9999).1, -6, -6), (mR2 T t (mNum T t (s + 1) 9999).2 64 9999).2)
    else (((mNum T t (s + 1) 9999).1, (mR2 T t (mNum T t (s + 1) 9999).2 64 9999).1, (mR2 T t (mR2 T t (mNum T t (s + 1) 9999).2 64 9999).2 47 9).1), (mR2 T t (mR2 T t (mNum T t (s + 1) 9999).2 64 9999).2 47 9).2))
  else if nI (T s) = 112 then (((mNum T t (s + 1) 9999).1, (mR2 T t (mNum T t (s + 1) 9999).2 43 9999).1, 0), (mR2 T t (mNum T t (s + 1) 9999).2 43 9999).2)
  else (((mNum T t (s + 1) 9999).1, 0, 0), (mNum T t (s + 1) 9999).2)
def mOkL (T : Nat → Nat) (t s : Nat) : Bool := if nI t ≤ nI s then false else mLet (nI (T s))
def mGood (q : Int32 × Int32 × Int32) : Bool := !decide (q.1 = -6) && (!decide (q.2.1 = -6) && !decide (q.2.2 = -6))
def up4 (tl : Nat → Int32) (k : Nat) (c : Int32) (q : Int32 × Int32 × Int32) : Nat → Int32 := upd (upd (upd (upd tl (4 * k) c) (4 * k + 1) q.1) (4 * k + 2) q.2.1) (4 * k + 3) q.2.2
theorem mTk_le {T : Nat → Nat} {t s : Nat} {g : Int32} (hs : s ≤ 80) (ht : t ≤ 80) : (if mSees T t s g g = true then s + 1 else s) ≤ 80 := by
  split
  next q => have := mSees_lt (T := T) (t := t) (s := s) (by omega) q; omega
  · exact hs
theorem mTk_t {T : Nat → Nat} {t s : Nat} {g : Int32} (hs : s ≤ 80) (ht : t ≤ 80) (h : mSees T t s g g = true) : s + 1 ≤ 80 := by
  have := mSees_lt (T := T) (t := t) (s := s) (by omega) h
  omega
set_option maxRecDepth 100000 in
set_option maxHeartbeats 4000000 in
theorem D153 {st : Nat → Nat} (d : Nat) {z : Nat} {h : Nat → Option va_E} {m : Nat} {ζ : Sg} {n nv : Nat} {G S : Nat → Sg} {sv : Nat → Int32} {T : Nat → Nat} {t s : Nat} {tl : Nat → Int32} {k : Nat} {h1 : Nat → Option va_E} (hM : MAt h1 m ζ n nv G S sv (fun i => nI (T i)) (nI t) (nI s) tl (nI k)) (ht : t ≤ 80) (hs : s ≤ 80) (hk : k < 41) (hF : Fr m 8 h h1) (c f e g : Int32) : Ev st (d + 4) yX5_readOrder cX5_readOrder 5 (some .boolean) (z, h) 0 0 (MMO (some (.int (bI (mGood (f, e, g))))) z m h ζ n nv G S sv (fun i => nI (T i)) (nI t) (nI (s)) (up4 tl k c (f, e, g)) (nI (k + 1))) 153 [.ref m, .int c, .int f, .int e, .int g] [] (z, h1) 0 0 := by
  refine x_aload_n dX5_readOrder_153 rfl ?_
  refine x_get dX5_readOrder_154 fX5_29 hM.ob rfl ?_
  refine x_iconst (v := 4) dX5_readOrder_157 rfl ?_
  refine x_aload_n dX5_readOrder_158 rfl ?_
  refine x_get dX5_readOrder_159 fX5_226 hM.ob rfl ?_
  refine x_imul dX5_readOrder_162 ?_
  refine x_iload_n dX5_readOrder_163 rfl ?_
  refine e_ast dX5_readOrder_164 hM.told (show ax_ix _ 164 (4 * k) from by rw [show (4 : Int32) = nI 4 from rfl, pk_mul]; exact ax_ixN (by omega) (by decide)) (fun h1 hR1 he1 => ?_)
  have hM1 := hM.setTold hR1 he1
  have hG1 : Fr m 8 _ h1 := fun q hq => he1 q (by omega)
  refine x_aload_n dX5_readOrder_165 rfl ?_
  refine x_get dX5_readOrder_166 fX5_29 hM1.ob rfl ?_
  refine x_iconst (v := 4) dX5_readOrder_169 rfl ?_
  refine x_aload_n dX5_readOrder_170 rfl ?_
  refine x_get dX5_readOrder_171 fX5_226 hM1.ob rfl ?_
  refine x_imul dX5_readOrder_174 ?_
  refine x_iconst (v := 1) dX5_readOrder_175 rfl ?_
  refine x_iadd dX5_readOrder_176 ?_
  refine x_iload_n dX5_readOrder_177 rfl ?_
  refine e_ast dX5_readOrder_178 hM1.told (show ax_ix _ 164 (4 * k + 1) from by rw [show (4 : Int32) = nI 4 from rfl, pk_mul, show (1 : Int32) = nI 1 from rfl, nI_add]; exact ax_ixN (by omega) (by decide)) (fun h2 hR2 he2 => ?_)
  have hM2 := hM1.setTold hR2 he2
  have hG2 : Fr m 8 _ h2 := fun q hq => he2 q (by omega)
  refine x_aload_n dX5_readOrder_179 rfl ?_
  refine x_get dX5_readOrder_180 fX5_29 hM2.ob rfl ?_
  refine x_iconst (v := 4) dX5_readOrder_183 rfl ?_
  refine x_aload_n dX5_readOrder_184 rfl ?_
  refine x_get dX5_readOrder_185 fX5_226 hM2.ob rfl ?_
  refine x_imul dX5_readOrder_188 ?_
  refine x_iconst (v := 2) dX5_readOrder_189 rfl ?_
  refine x_iadd dX5_readOrder_190 ?_
  refine x_iload_n dX5_readOrder_191 rfl ?_
  refine e_ast dX5_readOrder_192 hM2.told (show ax_ix _ 164 (4 * k + 2) from by rw [show (4 : Int32) = nI 4 from rfl, pk_mul, show (2 : Int32) = nI 2 from rfl, nI_add]; exact ax_ixN (by omega) (by decide)) (fun h3 hR3 he3 => ?_)
  have hM3 := hM2.setTold hR3 he3
  have hG3 : Fr m 8 _ h3 := fun q hq => he3 q (by omega)
  refine x_aload_n dX5_readOrder_193 rfl ?_
  refine x_get dX5_readOrder_194 fX5_29 hM3.ob rfl ?_
  refine x_iconst (v := 4) dX5_readOrder_197 rfl ?_
  refine x_aload_n dX5_readOrder_198 rfl ?_
  refine x_get dX5_readOrder_199 fX5_226 hM3.ob rfl ?_
  refine x_imul dX5_readOrder_202 ?_
  refine x_iconst (v := 3) dX5_readOrder_203 rfl ?_
  refine x_iadd dX5_readOrder_204 ?_
  refine x_iload dX5_readOrder_205 rfl ?_
  refine e_ast dX5_readOrder_207 hM3.told (show ax_ix _ 164 (4 * k + 3) from by rw [show (4 : Int32) = nI 4 from rfl, pk_mul, show (3 : Int32) = nI 3 from rfl, nI_add]; exact ax_ixN (by omega) (by decide)) (fun h4 hR4 he4 => ?_)
  have hM4 := hM3.setTold hR4 he4
  have hG4 : Fr m 8 _ h4 := fun q hq => he4 q (by omega)
  refine x_aload_n dX5_readOrder_208 rfl ?_
  refine x_dup dX5_readOrder_209 rfl ?_
  refine x_get dX5_readOrder_210 fX5_226 hM4.ob rfl ?_
  refine x_iconst (v := 1) dX5_readOrder_213 rfl ?_
  refine x_iadd dX5_readOrder_214 ?_
  rw [show nI k + 1 = nI (k + 1) from nI_1 k]
  refine M_put (n) ((nI t)) ((nI s)) (nI (k + 1)) dX5_readOrder_215 fX5_226 hM4 (Nat.le_of_ble_eq_true rfl) rfl hM4.n6 (fun h5 hM5 hf5 => ?_)
  have hG5 : Fr m 8 _ h5 := fun q hq => hf5 q (by omega)
  refine x_iload_n dX5_readOrder_218 rfl ?_
  refine x_bipush (v := (-6)) dX5_readOrder_219 rfl ?_
  refine x_icmp_eq (tgt := 241) dX5_readOrder_221 (by decide) (fun c221 => ?_) (fun c221 => ?_)
  · refine x_iconst (v := 0) dX5_readOrder_241 rfl ?_
    refine x_iret dX5_readOrder_242 (Or.inr ⟨rfl, by first | rfl | exact bI_z _⟩) rfl (Nat.le_refl _) ?_
    exact ⟨by first | (simp [mGood, bI, c221]; done) | (simp [mGood, bI, c221, c227]; done) | (simp [mGood, bI, c221, c227, c234]; done), _, rfl, hM5, (((((hF.tr hG1).tr hG2).tr hG3).tr hG4).tr hG5)⟩
  · refine x_iload_n dX5_readOrder_224 rfl ?_
    refine x_bipush (v := (-6)) dX5_readOrder_225 rfl ?_
    refine x_icmp_eq (tgt := 241) dX5_readOrder_227 (by decide) (fun c227 => ?_) (fun c227 => ?_)
    · refine x_iconst (v := 0) dX5_readOrder_241 rfl ?_
      refine x_iret dX5_readOrder_242 (Or.inr ⟨rfl, by first | rfl | exact bI_z _⟩) rfl (Nat.le_refl _) ?_
      exact ⟨by first | (simp [mGood, bI, c221]; done) | (simp [mGood, bI, c221, c227]; done) | (simp [mGood, bI, c221, c227, c234]; done), _, rfl, hM5, (((((hF.tr hG1).tr hG2).tr hG3).tr hG4).tr hG5)⟩
    · refine x_iload dX5_readOrder_230 rfl ?_
      refine x_bipush (v := (-6)) dX5_readOrder_232 rfl ?_
      refine x_icmp_eq (tgt := 241) dX5_readOrder_234 (by decide) (fun c234 => ?_) (fun c234 => ?_)
      · refine x_iconst (v := 0) dX5_readOrder_241 rfl ?_
        refine x_iret dX5_readOrder_242 (Or.inr ⟨rfl, by first | rfl | exact bI_z _⟩) rfl (Nat.le_refl _) ?_
        exact ⟨by first | (simp [mGood, bI, c221]; done) | (simp [mGood, bI, c221, c227]; done) | (simp [mGood, bI, c221, c227, c234]; done), _, rfl, hM5, (((((hF.tr hG1).tr hG2).tr hG3).tr hG4).tr hG5)⟩
      · refine x_iconst (v := 1) dX5_readOrder_237 rfl ?_
        refine x_goto (tgt := 242) dX5_readOrder_238 (by decide) ?_
        refine x_iret dX5_readOrder_242 (Or.inr ⟨rfl, by first | rfl | exact bI_z _⟩) rfl (Nat.le_refl _) ?_
        exact ⟨by first | (simp [mGood, bI, c221]; done) | (simp [mGood, bI, c221, c227]; done) | (simp [mGood, bI, c221, c227, c234]; done), _, rfl, hM5, (((((hF.tr hG1).tr hG2).tr hG3).tr hG4).tr hG5)⟩

set_option maxRecDepth 100000 in
set_option maxHeartbeats 4000000 in
theorem m_readOrder {st : Nat → Nat} (d : Nat) {z : Nat} {h : Nat → Option va_E} {m : Nat} {ζ : Sg} {n nv : Nat} {G S : Nat → Sg} {sv : Nat → Int32} {T : Nat → Nat} {t s : Nat} {tl : Nat → Int32} {k : Nat} (hM : MAt h m ζ n nv G S sv (fun i => nI (T i)) (nI t) (nI s) tl (nI k)) (ht : t ≤ 80) (hs : s ≤ 80) (hk : k < 41)  : CT st (d + 4) yX5_readOrder cX5_readOrder 5 (some .boolean) [.ref m] (z, h) 0 0 (MMO (some (.int (bI (mOkL T t s && mGood (mRd T t s).1)))) z m h ζ n nv G S sv (fun i => nI (T i)) (nI t) (nI (if mOkL T t s = true then (mRd T t s).2 else s)) (if mOkL T t s = true then up4 tl k (nI (T s)) (mRd T t s).1 else tl) (nI (if mOkL T t s = true then k + 1 else k))) := by
  refine CT.of (lv := [.ref m, .null, .null, .null, .null]) (by decide) (Nat.le_of_ble_eq_true rfl) rfl rfl ?_
  refine x_aload_n dX5_readOrder_0 rfl ?_
  refine x_get dX5_readOrder_1 fX5_211 hM.ob rfl ?_
  refine x_aload_n dX5_readOrder_4 rfl ?_
  refine x_get dX5_readOrder_5 fX5_197 hM.ob rfl ?_
  refine x_icmp_ge (tgt := 23) dX5_readOrder_8 (by decide) (fun c8 => ?_) (fun c8 => ?_)
  · refine x_iconst (v := 0) dX5_readOrder_23 rfl ?_
    refine e_ist_n (lv' := fun w9 => [.ref m, .int w9, .null, .null, .null]) dX5_readOrder_24 (Nat.le_of_ble_eq_true rfl) rfl (fun _ => rfl) (fun v1 ev1 => ?_)
    subst ev1
    refine x_iload_n dX5_readOrder_25 rfl ?_
    refine c_SR dX5_readOrder_26 kX5_isLetter q1036 q1035 (t_isLetter _ _) rfl rfl (Nat.le_of_ble_eq_true rfl) ⟨Nat.le_refl _, Nat.le_refl _⟩ ?_
    refine x_if_ne (tgt := 34) dX5_readOrder_29 (by decide) (fun c29 => ?_) (fun c29 => ?_)
    · have c29 := bI_ne c29
      exact absurd c29 (by decide)
    · have c29 := bI_eq c29
      refine x_iconst (v := 0) dX5_readOrder_32 rfl ?_
      refine x_iret dX5_readOrder_33 (Or.inr ⟨rfl, by first | rfl | exact bI_z _⟩) rfl (Nat.le_refl _) ?_
      have e0 : mOkL T t s = false := by
        rw [mOkL]
        first | rw [if_pos c8] | (rw [if_neg c8]; exact c29)
      rw [e0]
      exact ⟨rfl, _, rfl, hM, Fr.rf⟩
  · refine x_aload_n dX5_readOrder_11 rfl ?_
    refine x_get dX5_readOrder_12 fX5_26 hM.ob rfl ?_
    refine x_aload_n dX5_readOrder_15 rfl ?_
    refine x_get dX5_readOrder_16 fX5_211 hM.ob rfl ?_
    refine e_ald dX5_readOrder_19 hM.pad (pad_ix ht (by omega) c8) ?_
    refine x_goto (tgt := 24) dX5_readOrder_20 (by decide) ?_
    refine e_ist_n (lv' := fun w9 => [.ref m, .int w9, .null, .null, .null]) dX5_readOrder_24 (Nat.le_of_ble_eq_true rfl) rfl (fun _ => rfl) (fun v2 ev2 => ?_)
    have ev2 : nI (T s) = v2 := (ev2.trans rfl).symm
    subst ev2
    refine x_iload_n dX5_readOrder_25 rfl ?_
    refine c_SR dX5_readOrder_26 kX5_isLetter q1036 q1035 (t_isLetter _ _) rfl rfl (Nat.le_of_ble_eq_true rfl) ⟨Nat.le_refl _, Nat.le_refl _⟩ ?_
    refine x_if_ne (tgt := 34) dX5_readOrder_29 (by decide) (fun c29 => ?_) (fun c29 => ?_)
    · have c29 := bI_ne c29
      refine x_aload_n dX5_readOrder_34 rfl ?_
      refine x_dup dX5_readOrder_35 rfl ?_
      refine x_get dX5_readOrder_36 fX5_211 hM.ob rfl ?_
      refine x_iconst (v := 1) dX5_readOrder_39 rfl ?_
      refine x_iadd dX5_readOrder_40 ?_
      have hst : s < t := lt_of_nle (by omega) c8
      rw [show nI s + 1 = nI (s + 1) from nI_1 s]
      refine M_put (n) ((nI t)) (nI (s + 1)) ((nI k)) dX5_readOrder_41 fX5_211 hM (Nat.le_of_ble_eq_true rfl) rfl hM.n6 (fun h3 hM3 hf3 => ?_)
      have hG3 : Fr m 8 _ h3 := fun q hq => hf3 q (by omega)
      refine x_aload_n dX5_readOrder_44 rfl ?_
      refine x_sipush (v := 9999) dX5_readOrder_45 rfl ?_
      refine c_VMM dX5_readOrder_48 kX5_number iX5_number q1038 (m_number _ hM3 ht (by omega) _) hM3.ob rfl rfl rfl (Nat.le_of_ble_eq_true rfl) ⟨Nat.le_refl _, Nat.le_refl _⟩ (fun h4 hM4 hG4 => ?_)
      have hp48 := (mNum_le T (t := t) (s := s + 1) 9999 (by omega) ht).2
      refine e_ist_n (lv' := fun w9 => [.ref m, .int (nI (T s)), .int w9, .null, .null]) dX5_readOrder_51 (Nat.le_of_ble_eq_true rfl) rfl (fun _ => rfl) (fun v5 ev5 => ?_)
      have ev5 : (mNum T t (s + 1) 9999).1 = v5 := (ev5.trans rfl).symm
      subst ev5
      refine x_iconst (v := 0) dX5_readOrder_52 rfl ?_
      refine e_ist_n (lv' := fun w9 => [.ref m, .int (nI (T s)), .int ((mNum T t (s + 1) 9999).1), .int w9, .null]) dX5_readOrder_53 (Nat.le_of_ble_eq_true rfl) rfl (fun _ => rfl) (fun v6 ev6 => ?_)
      subst ev6
      refine x_iconst (v := 0) dX5_readOrder_54 rfl ?_
      refine e_ist (lv' := fun w9 => [.ref m, .int (nI (T s)), .int ((mNum T t (s + 1) 9999).1), .int 0, .int w9]) dX5_readOrder_55 (Nat.le_of_ble_eq_true rfl) rfl (fun _ => rfl) (fun v7 ev7 => ?_)
      subst ev7
      refine x_iload_n dX5_readOrder_57 rfl ?_
      refine x_bipush (v := (-6)) dX5_readOrder_58 rfl ?_
      refine x_icmp_eq (tgt := 119) dX5_readOrder_60 (by decide) (fun c60 => ?_) (fun c60 => ?_)
      · refine x_iload_n dX5_readOrder_119 rfl ?_
        refine x_bipush (v := (-6)) dX5_readOrder_120 rfl ?_
        refine x_icmp_eq (tgt := 153) dX5_readOrder_122 (by decide) (fun c122 => ?_) (fun c122 => ?_)
        · first
            | exact absurd (c66.symm.trans c128) (by decide)
            | exact absurd c60 c122
            | exact absurd c122 c60
            | (have e0 : mOkL T t s = true := by rw [mOkL, if_neg c8]; exact c29
               have e1 : mRd T t s = (((mNum T t (s + 1) 9999).1, 0, 0), (mNum T t (s + 1) 9999).2) := by first | (simp only [mRd, mR2, if_pos c60]; done) | (simp only [mRd, mR2, c60, c66, c75, c94, c103, if_true, if_false]; done) | (simp [mRd, mR2, c60]; done) | (simp [mRd, mR2, c60, c66, c128]; done) | (simp [mRd, mR2, c60, c66, c128, c137]; done) | (simp [mRd, mR2, c60, c66, c75]; done) | (simp [mRd, mR2, c60, c66, c75, c94]; done) | (simp [mRd, mR2, c60, c66, c75, c94, c103]; done)
               rw [e0, e1]
               simp only [Bool.true_and, if_true]
               exact D153 d hM4 ht (by omega) hk (hG3.tr hG4) ((nI (T s))) ((mNum T t (s + 1) 9999).1) (0) (0))
        · refine x_iload_n dX5_readOrder_125 rfl ?_
          refine x_bipush (v := 112) dX5_readOrder_126 rfl ?_
          refine x_icmp_ne (tgt := 153) dX5_readOrder_128 (by decide) (fun c128 => ?_) (fun c128 => ?_)
          · first
              | exact absurd (c66.symm.trans c128) (by decide)
              | exact absurd c60 c122
              | exact absurd c122 c60
              | (have e0 : mOkL T t s = true := by rw [mOkL, if_neg c8]; exact c29
                 have e1 : mRd T t s = (((mNum T t (s + 1) 9999).1, 0, 0), (mNum T t (s + 1) 9999).2) := by first | (simp only [mRd, mR2, if_pos c60]; done) | (simp only [mRd, mR2, c60, c66, c75, c94, c103, if_true, if_false]; done) | (simp [mRd, mR2, c60]; done) | (simp [mRd, mR2, c60, c66, c128]; done) | (simp [mRd, mR2, c60, c66, c128, c137]; done) | (simp [mRd, mR2, c60, c66, c75]; done) | (simp [mRd, mR2, c60, c66, c75, c94]; done) | (simp [mRd, mR2, c60, c66, c75, c94, c103]; done)
                 rw [e0, e1]
                 simp only [Bool.true_and, if_true]
                 exact D153 d hM4 ht (by omega) hk (hG3.tr hG4) ((nI (T s))) ((mNum T t (s + 1) 9999).1) (0) (0))
          · refine x_aload_n dX5_readOrder_131 rfl ?_
            refine x_bipush (v := 43) dX5_readOrder_132 rfl ?_
            refine c_VMM dX5_readOrder_134 kX5_takes iX5_takes q1046 (m_takes _ hM4 ht (by omega) _) hM4.ob rfl rfl rfl (Nat.le_of_ble_eq_true rfl) ⟨Nat.le_refl _, Nat.le_refl _⟩ (fun h8 hM8 hG8 => ?_)
            refine x_if_eq (tgt := 150) dX5_readOrder_137 (by decide) (fun c137 => ?_) (fun c137 => ?_)
            · have c137 := bI_eq c137
              rw [if_neg (by rw [c137]; decide)] at hM8
              refine x_bipush (v := (-6)) dX5_readOrder_150 rfl ?_
              refine e_ist_n (lv' := fun w9 => [.ref m, .int (nI (T s)), .int ((mNum T t (s + 1) 9999).1), .int w9, .int 0]) dX5_readOrder_152 (Nat.le_of_ble_eq_true rfl) rfl (fun _ => rfl) (fun v9 ev9 => ?_)
              subst ev9
              first
                | exact absurd (c66.symm.trans c128) (by decide)
                | exact absurd c60 c122
                | exact absurd c122 c60
                | (have e0 : mOkL T t s = true := by rw [mOkL, if_neg c8]; exact c29
                   have e1 : mRd T t s = (((mNum T t (s + 1) 9999).1, (-6), 0), (mNum T t (s + 1) 9999).2) := by first | (simp only [mRd, mR2, if_pos c60]; done) | (simp only [mRd, mR2, c60, c66, c75, c94, c103, if_true, if_false]; done) | (simp [mRd, mR2, c60]; done) | (simp [mRd, mR2, c60, c66, c128]; done) | (simp [mRd, mR2, c60, c66, c128, c137]; done) | (simp [mRd, mR2, c60, c66, c75]; done) | (simp [mRd, mR2, c60, c66, c75, c94]; done) | (simp [mRd, mR2, c60, c66, c75, c94, c103]; done)
                   rw [e0, e1]
                   simp only [Bool.true_and, if_true]
                   exact D153 d hM8 ht (by omega) hk ((hG3.tr hG4).tr hG8) ((nI (T s))) ((mNum T t (s + 1) 9999).1) ((-6)) (0))
            · have c137 := bI_ne c137
              rw [if_pos c137] at hM8
              have ht137 := mTk_t (T := T) (t := t) (s := (mNum T t (s + 1) 9999).2) (by omega) ht c137
              refine x_aload_n dX5_readOrder_140 rfl ?_
              refine x_sipush (v := 9999) dX5_readOrder_141 rfl ?_
              refine c_VMM dX5_readOrder_144 kX5_number iX5_number q1038 (m_number _ hM8 ht (by omega) _) hM8.ob rfl rfl rfl (Nat.le_of_ble_eq_true rfl) ⟨Nat.le_refl _, Nat.le_refl _⟩ (fun h10 hM10 hG10 => ?_)
              have hp144 := (mNum_le T (t := t) (s := (mNum T t (s + 1) 9999).2 + 1) 9999 (by omega) ht).2
              refine x_goto (tgt := 152) dX5_readOrder_147 (by decide) ?_
              refine e_ist_n (lv' := fun w9 => [.ref m, .int (nI (T s)), .int ((mNum T t (s + 1) 9999).1), .int w9, .int 0]) dX5_readOrder_152 (Nat.le_of_ble_eq_true rfl) rfl (fun _ => rfl) (fun v11 ev11 => ?_)
              have ev11 : (mNum T t ((mNum T t (s + 1) 9999).2 + 1) 9999).1 = v11 := (ev11.trans rfl).symm
              subst ev11
              first
                | exact absurd (c66.symm.trans c128) (by decide)
                | exact absurd c60 c122
                | exact absurd c122 c60
                | (have e0 : mOkL T t s = true := by rw [mOkL, if_neg c8]; exact c29
                   have e1 : mRd T t s = (((mNum T t (s + 1) 9999).1, (mNum T t ((mNum T t (s + 1) 9999).2 + 1) 9999).1, 0), (mNum T t ((mNum T t (s + 1) 9999).2 + 1) 9999).2) := by first | (simp only [mRd, mR2, if_pos c60]; done) | (simp only [mRd, mR2, c60, c66, c75, c94, c103, if_true, if_false]; done) | (simp [mRd, mR2, c60]; done) | (simp [mRd, mR2, c60, c66, c128]; done) | (simp [mRd, mR2, c60, c66, c128, c137]; done) | (simp [mRd, mR2, c60, c66, c75]; done) | (simp [mRd, mR2, c60, c66, c75, c94]; done) | (simp [mRd, mR2, c60, c66, c75, c94, c103]; done)
                   rw [e0, e1]
                   simp only [Bool.true_and, if_true]
                   exact D153 d hM10 ht (by omega) hk (((hG3.tr hG4).tr hG8).tr hG10) ((nI (T s))) ((mNum T t (s + 1) 9999).1) ((mNum T t ((mNum T t (s + 1) 9999).2 + 1) 9999).1) (0))
      · refine x_iload_n dX5_readOrder_63 rfl ?_
        refine x_bipush (v := 99) dX5_readOrder_64 rfl ?_
        refine x_icmp_ne (tgt := 119) dX5_readOrder_66 (by decide) (fun c66 => ?_) (fun c66 => ?_)
        · refine x_iload_n dX5_readOrder_119 rfl ?_
          refine x_bipush (v := (-6)) dX5_readOrder_120 rfl ?_
          refine x_icmp_eq (tgt := 153) dX5_readOrder_122 (by decide) (fun c122 => ?_) (fun c122 => ?_)
          · first
              | exact absurd (c66.symm.trans c128) (by decide)
              | exact absurd c60 c122
              | exact absurd c122 c60
              | (have e0 : mOkL T t s = true := by rw [mOkL, if_neg c8]; exact c29
                 have e1 : mRd T t s = (((mNum T t (s + 1) 9999).1, 0, 0), (mNum T t (s + 1) 9999).2) := by first | (simp only [mRd, mR2, if_pos c60]; done) | (simp only [mRd, mR2, c60, c66, c75, c94, c103, if_true, if_false]; done) | (simp [mRd, mR2, c60]; done) | (simp [mRd, mR2, c60, c66, c128]; done) | (simp [mRd, mR2, c60, c66, c128, c137]; done) | (simp [mRd, mR2, c60, c66, c75]; done) | (simp [mRd, mR2, c60, c66, c75, c94]; done) | (simp [mRd, mR2, c60, c66, c75, c94, c103]; done)
                 rw [e0, e1]
                 simp only [Bool.true_and, if_true]
                 exact D153 d hM4 ht (by omega) hk (hG3.tr hG4) ((nI (T s))) ((mNum T t (s + 1) 9999).1) (0) (0))
          · refine x_iload_n dX5_readOrder_125 rfl ?_
            refine x_bipush (v := 112) dX5_readOrder_126 rfl ?_
            refine x_icmp_ne (tgt := 153) dX5_readOrder_128 (by decide) (fun c128 => ?_) (fun c128 => ?_)
            · first
                | exact absurd (c66.symm.trans c128) (by decide)
                | exact absurd c60 c122
                | exact absurd c122 c60
                | (have e0 : mOkL T t s = true := by rw [mOkL, if_neg c8]; exact c29
                   have e1 : mRd T t s = (((mNum T t (s + 1) 9999).1, 0, 0), (mNum T t (s + 1) 9999).2) := by first | (simp only [mRd, mR2, if_pos c60]; done) | (simp only [mRd, mR2, c60, c66, c75, c94, c103, if_true, if_false]; done) | (simp [mRd, mR2, c60]; done) | (simp [mRd, mR2, c60, c66, c128]; done) | (simp [mRd, mR2, c60, c66, c128, c137]; done) | (simp [mRd, mR2, c60, c66, c75]; done) | (simp [mRd, mR2, c60, c66, c75, c94]; done) | (simp [mRd, mR2, c60, c66, c75, c94, c103]; done)
                   rw [e0, e1]
                   simp only [Bool.true_and, if_true]
                   exact D153 d hM4 ht (by omega) hk (hG3.tr hG4) ((nI (T s))) ((mNum T t (s + 1) 9999).1) (0) (0))
            · refine x_aload_n dX5_readOrder_131 rfl ?_
              refine x_bipush (v := 43) dX5_readOrder_132 rfl ?_
              refine c_VMM dX5_readOrder_134 kX5_takes iX5_takes q1046 (m_takes _ hM4 ht (by omega) _) hM4.ob rfl rfl rfl (Nat.le_of_ble_eq_true rfl) ⟨Nat.le_refl _, Nat.le_refl _⟩ (fun h12 hM12 hG12 => ?_)
              refine x_if_eq (tgt := 150) dX5_readOrder_137 (by decide) (fun c137 => ?_) (fun c137 => ?_)
              · have c137 := bI_eq c137
                rw [if_neg (by rw [c137]; decide)] at hM12
                refine x_bipush (v := (-6)) dX5_readOrder_150 rfl ?_
                refine e_ist_n (lv' := fun w9 => [.ref m, .int (nI (T s)), .int ((mNum T t (s + 1) 9999).1), .int w9, .int 0]) dX5_readOrder_152 (Nat.le_of_ble_eq_true rfl) rfl (fun _ => rfl) (fun v13 ev13 => ?_)
                subst ev13
                first
                  | exact absurd (c66.symm.trans c128) (by decide)
                  | exact absurd c60 c122
                  | exact absurd c122 c60
                  | (have e0 : mOkL T t s = true := by rw [mOkL, if_neg c8]; exact c29
                     have e1 : mRd T t s = (((mNum T t (s + 1) 9999).1, (-6), 0), (mNum T t (s + 1) 9999).2) := by first | (simp only [mRd, mR2, if_pos c60]; done) | (simp only [mRd, mR2, c60, c66, c75, c94, c103, if_true, if_false]; done) | (simp [mRd, mR2, c60]; done) | (simp [mRd, mR2, c60, c66, c128]; done) | (simp [mRd, mR2, c60, c66, c128, c137]; done) | (simp [mRd, mR2, c60, c66, c75]; done) | (simp [mRd, mR2, c60, c66, c75, c94]; done) | (simp [mRd, mR2, c60, c66, c75, c94, c103]; done)
                     rw [e0, e1]
                     simp only [Bool.true_and, if_true]
                     exact D153 d hM12 ht (by omega) hk ((hG3.tr hG4).tr hG12) ((nI (T s))) ((mNum T t (s + 1) 9999).1) ((-6)) (0))
              · have c137 := bI_ne c137
                rw [if_pos c137] at hM12
                have ht137 := mTk_t (T := T) (t := t) (s := (mNum T t (s + 1) 9999).2) (by omega) ht c137
                refine x_aload_n dX5_readOrder_140 rfl ?_
                refine x_sipush (v := 9999) dX5_readOrder_141 rfl ?_
                refine c_VMM dX5_readOrder_144 kX5_number iX5_number q1038 (m_number _ hM12 ht (by omega) _) hM12.ob rfl rfl rfl (Nat.le_of_ble_eq_true rfl) ⟨Nat.le_refl _, Nat.le_refl _⟩ (fun h14 hM14 hG14 => ?_)
                have hp144 := (mNum_le T (t := t) (s := (mNum T t (s + 1) 9999).2 + 1) 9999 (by omega) ht).2
                refine x_goto (tgt := 152) dX5_readOrder_147 (by decide) ?_
                refine e_ist_n (lv' := fun w9 => [.ref m, .int (nI (T s)), .int ((mNum T t (s + 1) 9999).1), .int w9, .int 0]) dX5_readOrder_152 (Nat.le_of_ble_eq_true rfl) rfl (fun _ => rfl) (fun v15 ev15 => ?_)
                have ev15 : (mNum T t ((mNum T t (s + 1) 9999).2 + 1) 9999).1 = v15 := (ev15.trans rfl).symm
                subst ev15
                first
                  | exact absurd (c66.symm.trans c128) (by decide)
                  | exact absurd c60 c122
                  | exact absurd c122 c60
                  | (have e0 : mOkL T t s = true := by rw [mOkL, if_neg c8]; exact c29
                     have e1 : mRd T t s = (((mNum T t (s + 1) 9999).1, (mNum T t ((mNum T t (s + 1) 9999).2 + 1) 9999).1, 0), (mNum T t ((mNum T t (s + 1) 9999).2 + 1) 9999).2) := by first | (simp only [mRd, mR2, if_pos c60]; done) | (simp only [mRd, mR2, c60, c66, c75, c94, c103, if_true, if_false]; done) | (simp [mRd, mR2, c60]; done) | (simp [mRd, mR2, c60, c66, c128]; done) | (simp [mRd, mR2, c60, c66, c128, c137]; done) | (simp [mRd, mR2, c60, c66, c75]; done) | (simp [mRd, mR2, c60, c66, c75, c94]; done) | (simp [mRd, mR2, c60, c66, c75, c94, c103]; done)
                     rw [e0, e1]
                     simp only [Bool.true_and, if_true]
                     exact D153 d hM14 ht (by omega) hk (((hG3.tr hG4).tr hG12).tr hG14) ((nI (T s))) ((mNum T t (s + 1) 9999).1) ((mNum T t ((mNum T t (s + 1) 9999).2 + 1) 9999).1) (0))
        · refine x_aload_n dX5_readOrder_69 rfl ?_
          refine x_bipush (v := 64) dX5_readOrder_70 rfl ?_
          refine c_VMM dX5_readOrder_72 kX5_takes iX5_takes q1046 (m_takes _ hM4 ht (by omega) _) hM4.ob rfl rfl rfl (Nat.le_of_ble_eq_true rfl) ⟨Nat.le_refl _, Nat.le_refl _⟩ (fun h16 hM16 hG16 => ?_)
          refine x_if_eq (tgt := 88) dX5_readOrder_75 (by decide) (fun c75 => ?_) (fun c75 => ?_)
          · have c75 := bI_eq c75
            rw [if_neg (by rw [c75]; decide)] at hM16
            refine x_bipush (v := (-6)) dX5_readOrder_88 rfl ?_
            refine e_ist_n (lv' := fun w9 => [.ref m, .int (nI (T s)), .int ((mNum T t (s + 1) 9999).1), .int w9, .int 0]) dX5_readOrder_90 (Nat.le_of_ble_eq_true rfl) rfl (fun _ => rfl) (fun v17 ev17 => ?_)
            subst ev17
            refine x_iload_n dX5_readOrder_91 rfl ?_
            refine x_bipush (v := (-6)) dX5_readOrder_92 rfl ?_
            refine x_icmp_eq (tgt := 115) dX5_readOrder_94 (by decide) (fun _ => ?_) (fun c94 => absurd c94 (by decide))
            refine x_bipush (v := (-6)) dX5_readOrder_115 rfl ?_
            refine e_ist (lv' := fun w9 => [.ref m, .int (nI (T s)), .int ((mNum T t (s + 1) 9999).1), .int (-6), .int w9]) dX5_readOrder_117 (Nat.le_of_ble_eq_true rfl) rfl (fun _ => rfl) (fun v18 ev18 => ?_)
            subst ev18
            refine x_iload_n dX5_readOrder_119 rfl ?_
            refine x_bipush (v := (-6)) dX5_readOrder_120 rfl ?_
            refine x_icmp_eq (tgt := 153) dX5_readOrder_122 (by decide) (fun c122 => ?_) (fun c122 => ?_)
            · first
                | exact absurd (c66.symm.trans c128) (by decide)
                | exact absurd c60 c122
                | exact absurd c122 c60
                | (have e0 : mOkL T t s = true := by rw [mOkL, if_neg c8]; exact c29
                   have e1 : mRd T t s = (((mNum T t (s + 1) 9999).1, (-6), (-6)), (mNum T t (s + 1) 9999).2) := by first | (simp only [mRd, mR2, if_pos c60]; done) | (simp only [mRd, mR2, c60, c66, c75, c94, c103, if_true, if_false]; done) | (simp [mRd, mR2, c60]; done) | (simp [mRd, mR2, c60, c66, c128]; done) | (simp [mRd, mR2, c60, c66, c128, c137]; done) | (simp [mRd, mR2, c60, c66, c75]; done) | (simp [mRd, mR2, c60, c66, c75, c94]; done) | (simp [mRd, mR2, c60, c66, c75, c94, c103]; done)
                   rw [e0, e1]
                   simp only [Bool.true_and, if_true]
                   exact D153 d hM16 ht (by omega) hk ((hG3.tr hG4).tr hG16) ((nI (T s))) ((mNum T t (s + 1) 9999).1) ((-6)) ((-6)))
            · refine x_iload_n dX5_readOrder_125 rfl ?_
              refine x_bipush (v := 112) dX5_readOrder_126 rfl ?_
              refine x_icmp_ne (tgt := 153) dX5_readOrder_128 (by decide) (fun c128 => ?_) (fun c128 => ?_)
              · first
                  | exact absurd (c66.symm.trans c128) (by decide)
                  | exact absurd c60 c122
                  | exact absurd c122 c60
                  | (have e0 : mOkL T t s = true := by rw [mOkL, if_neg c8]; exact c29
                     have e1 : mRd T t s = (((mNum T t (s + 1) 9999).1, (-6), (-6)), (mNum T t (s + 1) 9999).2) := by first | (simp only [mRd, mR2, if_pos c60]; done) | (simp only [mRd, mR2, c60, c66, c75, c94, c103, if_true, if_false]; done) | (simp [mRd, mR2, c60]; done) | (simp [mRd, mR2, c60, c66, c128]; done) | (simp [mRd, mR2, c60, c66, c128, c137]; done) | (simp [mRd, mR2, c60, c66, c75]; done) | (simp [mRd, mR2, c60, c66, c75, c94]; done) | (simp [mRd, mR2, c60, c66, c75, c94, c103]; done)
                     rw [e0, e1]
                     simp only [Bool.true_and, if_true]
                     exact D153 d hM16 ht (by omega) hk ((hG3.tr hG4).tr hG16) ((nI (T s))) ((mNum T t (s + 1) 9999).1) ((-6)) ((-6)))
              · refine x_aload_n dX5_readOrder_131 rfl ?_
                refine x_bipush (v := 43) dX5_readOrder_132 rfl ?_
                refine c_VMM dX5_readOrder_134 kX5_takes iX5_takes q1046 (m_takes _ hM16 ht (by omega) _) hM16.ob rfl rfl rfl (Nat.le_of_ble_eq_true rfl) ⟨Nat.le_refl _, Nat.le_refl _⟩ (fun h19 hM19 hG19 => ?_)
                refine x_if_eq (tgt := 150) dX5_readOrder_137 (by decide) (fun c137 => ?_) (fun c137 => ?_)
                · have c137 := bI_eq c137
                  rw [if_neg (by rw [c137]; decide)] at hM19
                  refine x_bipush (v := (-6)) dX5_readOrder_150 rfl ?_
                  refine e_ist_n (lv' := fun w9 => [.ref m, .int (nI (T s)), .int ((mNum T t (s + 1) 9999).1), .int w9, .int (-6)]) dX5_readOrder_152 (Nat.le_of_ble_eq_true rfl) rfl (fun _ => rfl) (fun v20 ev20 => ?_)
                  subst ev20
                  first
                    | exact absurd (c66.symm.trans c128) (by decide)
                    | exact absurd c60 c122
                    | exact absurd c122 c60
                    | (have e0 : mOkL T t s = true := by rw [mOkL, if_neg c8]; exact c29
                       have e1 : mRd T t s = (((mNum T t (s + 1) 9999).1, (-6), (-6)), (mNum T t (s + 1) 9999).2) := by first | (simp only [mRd, mR2, if_pos c60]; done) | (simp only [mRd, mR2, c60, c66, c75, c94, c103, if_true, if_false]; done) | (simp [mRd, mR2, c60]; done) | (simp [mRd, mR2, c60, c66, c128]; done) | (simp [mRd, mR2, c60, c66, c128, c137]; done) | (simp [mRd, mR2, c60, c66, c75]; done) | (simp [mRd, mR2, c60, c66, c75, c94]; done) | (simp [mRd, mR2, c60, c66, c75, c94, c103]; done)
                       rw [e0, e1]
                       simp only [Bool.true_and, if_true]
                       exact D153 d hM19 ht (by omega) hk (((hG3.tr hG4).tr hG16).tr hG19) ((nI (T s))) ((mNum T t (s + 1) 9999).1) ((-6)) ((-6)))
                · have c137 := bI_ne c137
                  rw [if_pos c137] at hM19
                  have ht137 := mTk_t (T := T) (t := t) (s := (mNum T t (s + 1) 9999).2) (by omega) ht c137
                  refine x_aload_n dX5_readOrder_140 rfl ?_
                  refine x_sipush (v := 9999) dX5_readOrder_141 rfl ?_
                  refine c_VMM dX5_readOrder_144 kX5_number iX5_number q1038 (m_number _ hM19 ht (by omega) _) hM19.ob rfl rfl rfl (Nat.le_of_ble_eq_true rfl) ⟨Nat.le_refl _, Nat.le_refl _⟩ (fun h21 hM21 hG21 => ?_)
                  have hp144 := (mNum_le T (t := t) (s := (mNum T t (s + 1) 9999).2 + 1) 9999 (by omega) ht).2
                  refine x_goto (tgt := 152) dX5_readOrder_147 (by decide) ?_
                  refine e_ist_n (lv' := fun w9 => [.ref m, .int (nI (T s)), .int ((mNum T t (s + 1) 9999).1), .int w9, .int (-6)]) dX5_readOrder_152 (Nat.le_of_ble_eq_true rfl) rfl (fun _ => rfl) (fun v22 ev22 => ?_)
                  have ev22 : (mNum T t ((mNum T t (s + 1) 9999).2 + 1) 9999).1 = v22 := (ev22.trans rfl).symm
                  subst ev22
                  first
                    | exact absurd (c66.symm.trans c128) (by decide)
                    | exact absurd c60 c122
                    | exact absurd c122 c60
                    | (have e0 : mOkL T t s = true := by rw [mOkL, if_neg c8]; exact c29
                       have e1 : mRd T t s = (((mNum T t (s + 1) 9999).1, (mNum T t ((mNum T t (s + 1) 9999).2 + 1) 9999).1, (-6)), (mNum T t ((mNum T t (s + 1) 9999).2 + 1) 9999).2) := by first | (simp only [mRd, mR2, if_pos c60]; done) | (simp only [mRd, mR2, c60, c66, c75, c94, c103, if_true, if_false]; done) | (simp [mRd, mR2, c60]; done) | (simp [mRd, mR2, c60, c66, c128]; done) | (simp [mRd, mR2, c60, c66, c128, c137]; done) | (simp [mRd, mR2, c60, c66, c75]; done) | (simp [mRd, mR2, c60, c66, c75, c94]; done) | (simp [mRd, mR2, c60, c66, c75, c94, c103]; done)
                       rw [e0, e1]
                       simp only [Bool.true_and, if_true]
                       exact D153 d hM21 ht (by omega) hk ((((hG3.tr hG4).tr hG16).tr hG19).tr hG21) ((nI (T s))) ((mNum T t (s + 1) 9999).1) ((mNum T t ((mNum T t (s + 1) 9999).2 + 1) 9999).1) ((-6)))
          · have c75 := bI_ne c75
            rw [if_pos c75] at hM16
            have ht75 := mTk_t (T := T) (t := t) (s := (mNum T t (s + 1) 9999).2) (by omega) ht c75
            refine x_aload_n dX5_readOrder_78 rfl ?_
            refine x_sipush (v := 9999) dX5_readOrder_79 rfl ?_
            refine c_VMM dX5_readOrder_82 kX5_number iX5_number q1038 (m_number _ hM16 ht (by omega) _) hM16.ob rfl rfl rfl (Nat.le_of_ble_eq_true rfl) ⟨Nat.le_refl _, Nat.le_refl _⟩ (fun h23 hM23 hG23 => ?_)
            have hp82 := (mNum_le T (t := t) (s := (mNum T t (s + 1) 9999).2 + 1) 9999 (by omega) ht).2
            refine x_goto (tgt := 90) dX5_readOrder_85 (by decide) ?_
            refine e_ist_n (lv' := fun w9 => [.ref m, .int (nI (T s)), .int ((mNum T t (s + 1) 9999).1), .int w9, .int 0]) dX5_readOrder_90 (Nat.le_of_ble_eq_true rfl) rfl (fun _ => rfl) (fun v24 ev24 => ?_)
            have ev24 : (mNum T t ((mNum T t (s + 1) 9999).2 + 1) 9999).1 = v24 := (ev24.trans rfl).symm
            subst ev24
            refine x_iload_n dX5_readOrder_91 rfl ?_
            refine x_bipush (v := (-6)) dX5_readOrder_92 rfl ?_
            refine x_icmp_eq (tgt := 115) dX5_readOrder_94 (by decide) (fun c94 => ?_) (fun c94 => ?_)
            · refine x_bipush (v := (-6)) dX5_readOrder_115 rfl ?_
              refine e_ist (lv' := fun w9 => [.ref m, .int (nI (T s)), .int ((mNum T t (s + 1) 9999).1), .int ((mNum T t ((mNum T t (s + 1) 9999).2 + 1) 9999).1), .int w9]) dX5_readOrder_117 (Nat.le_of_ble_eq_true rfl) rfl (fun _ => rfl) (fun v25 ev25 => ?_)
              subst ev25
              refine x_iload_n dX5_readOrder_119 rfl ?_
              refine x_bipush (v := (-6)) dX5_readOrder_120 rfl ?_
              refine x_icmp_eq (tgt := 153) dX5_readOrder_122 (by decide) (fun c122 => ?_) (fun c122 => ?_)
              · first
                  | exact absurd (c66.symm.trans c128) (by decide)
                  | exact absurd c60 c122
                  | exact absurd c122 c60
                  | (have e0 : mOkL T t s = true := by rw [mOkL, if_neg c8]; exact c29
                     have e1 : mRd T t s = (((mNum T t (s + 1) 9999).1, (mNum T t ((mNum T t (s + 1) 9999).2 + 1) 9999).1, (-6)), (mNum T t ((mNum T t (s + 1) 9999).2 + 1) 9999).2) := by first | (simp only [mRd, mR2, if_pos c60]; done) | (simp only [mRd, mR2, c60, c66, c75, c94, c103, if_true, if_false]; done) | (simp [mRd, mR2, c60]; done) | (simp [mRd, mR2, c60, c66, c128]; done) | (simp [mRd, mR2, c60, c66, c128, c137]; done) | (simp [mRd, mR2, c60, c66, c75]; done) | (simp [mRd, mR2, c60, c66, c75, c94]; done) | (simp [mRd, mR2, c60, c66, c75, c94, c103]; done)
                     rw [e0, e1]
                     simp only [Bool.true_and, if_true]
                     exact D153 d hM23 ht (by omega) hk (((hG3.tr hG4).tr hG16).tr hG23) ((nI (T s))) ((mNum T t (s + 1) 9999).1) ((mNum T t ((mNum T t (s + 1) 9999).2 + 1) 9999).1) ((-6)))
              · refine x_iload_n dX5_readOrder_125 rfl ?_
                refine x_bipush (v := 112) dX5_readOrder_126 rfl ?_
                refine x_icmp_ne (tgt := 153) dX5_readOrder_128 (by decide) (fun c128 => ?_) (fun c128 => ?_)
                · first
                    | exact absurd (c66.symm.trans c128) (by decide)
                    | exact absurd c60 c122
                    | exact absurd c122 c60
                    | (have e0 : mOkL T t s = true := by rw [mOkL, if_neg c8]; exact c29
                       have e1 : mRd T t s = (((mNum T t (s + 1) 9999).1, (mNum T t ((mNum T t (s + 1) 9999).2 + 1) 9999).1, (-6)), (mNum T t ((mNum T t (s + 1) 9999).2 + 1) 9999).2) := by first | (simp only [mRd, mR2, if_pos c60]; done) | (simp only [mRd, mR2, c60, c66, c75, c94, c103, if_true, if_false]; done) | (simp [mRd, mR2, c60]; done) | (simp [mRd, mR2, c60, c66, c128]; done) | (simp [mRd, mR2, c60, c66, c128, c137]; done) | (simp [mRd, mR2, c60, c66, c75]; done) | (simp [mRd, mR2, c60, c66, c75, c94]; done) | (simp [mRd, mR2, c60, c66, c75, c94, c103]; done)
                       rw [e0, e1]
                       simp only [Bool.true_and, if_true]
                       exact D153 d hM23 ht (by omega) hk (((hG3.tr hG4).tr hG16).tr hG23) ((nI (T s))) ((mNum T t (s + 1) 9999).1) ((mNum T t ((mNum T t (s + 1) 9999).2 + 1) 9999).1) ((-6)))
                · refine x_aload_n dX5_readOrder_131 rfl ?_
                  refine x_bipush (v := 43) dX5_readOrder_132 rfl ?_
                  refine c_VMM dX5_readOrder_134 kX5_takes iX5_takes q1046 (m_takes _ hM23 ht (by omega) _) hM23.ob rfl rfl rfl (Nat.le_of_ble_eq_true rfl) ⟨Nat.le_refl _, Nat.le_refl _⟩ (fun h26 hM26 hG26 => ?_)
                  refine x_if_eq (tgt := 150) dX5_readOrder_137 (by decide) (fun c137 => ?_) (fun c137 => ?_)
                  · have c137 := bI_eq c137
                    rw [if_neg (by rw [c137]; decide)] at hM26
                    refine x_bipush (v := (-6)) dX5_readOrder_150 rfl ?_
                    refine e_ist_n (lv' := fun w9 => [.ref m, .int (nI (T s)), .int ((mNum T t (s + 1) 9999).1), .int w9, .int (-6)]) dX5_readOrder_152 (Nat.le_of_ble_eq_true rfl) rfl (fun _ => rfl) (fun v27 ev27 => ?_)
                    subst ev27
                    first
                      | exact absurd (c66.symm.trans c128) (by decide)
                      | exact absurd c60 c122
                      | exact absurd c122 c60
                      | (have e0 : mOkL T t s = true := by rw [mOkL, if_neg c8]; exact c29
                         have e1 : mRd T t s = (((mNum T t (s + 1) 9999).1, (-6), (-6)), (mNum T t ((mNum T t (s + 1) 9999).2 + 1) 9999).2) := by first | (simp only [mRd, mR2, if_pos c60]; done) | (simp only [mRd, mR2, c60, c66, c75, c94, c103, if_true, if_false]; done) | (simp [mRd, mR2, c60]; done) | (simp [mRd, mR2, c60, c66, c128]; done) | (simp [mRd, mR2, c60, c66, c128, c137]; done) | (simp [mRd, mR2, c60, c66, c75]; done) | (simp [mRd, mR2, c60, c66, c75, c94]; done) | (simp [mRd, mR2, c60, c66, c75, c94, c103]; done)
                         rw [e0, e1]
                         simp only [Bool.true_and, if_true]
                         exact D153 d hM26 ht (by omega) hk ((((hG3.tr hG4).tr hG16).tr hG23).tr hG26) ((nI (T s))) ((mNum T t (s + 1) 9999).1) ((-6)) ((-6)))
                  · have c137 := bI_ne c137
                    rw [if_pos c137] at hM26
                    have ht137 := mTk_t (T := T) (t := t) (s := (mNum T t ((mNum T t (s + 1) 9999).2 + 1) 9999).2) (by omega) ht c137
                    refine x_aload_n dX5_readOrder_140 rfl ?_
                    refine x_sipush (v := 9999) dX5_readOrder_141 rfl ?_
                    refine c_VMM dX5_readOrder_144 kX5_number iX5_number q1038 (m_number _ hM26 ht (by omega) _) hM26.ob rfl rfl rfl (Nat.le_of_ble_eq_true rfl) ⟨Nat.le_refl _, Nat.le_refl _⟩ (fun h28 hM28 hG28 => ?_)
                    have hp144 := (mNum_le T (t := t) (s := (mNum T t ((mNum T t (s + 1) 9999).2 + 1) 9999).2 + 1) 9999 (by omega) ht).2
                    refine x_goto (tgt := 152) dX5_readOrder_147 (by decide) ?_
                    refine e_ist_n (lv' := fun w9 => [.ref m, .int (nI (T s)), .int ((mNum T t (s + 1) 9999).1), .int w9, .int (-6)]) dX5_readOrder_152 (Nat.le_of_ble_eq_true rfl) rfl (fun _ => rfl) (fun v29 ev29 => ?_)
                    have ev29 : (mNum T t ((mNum T t ((mNum T t (s + 1) 9999).2 + 1) 9999).2 + 1) 9999).1 = v29 := (ev29.trans rfl).symm
                    subst ev29
                    first
                      | exact absurd (c66.symm.trans c128) (by decide)
                      | exact absurd c60 c122
                      | exact absurd c122 c60
                      | (have e0 : mOkL T t s = true := by rw [mOkL, if_neg c8]; exact c29
                         have e1 : mRd T t s = (((mNum T t (s + 1) 9999).1, (mNum T t ((mNum T t ((mNum T t (s + 1) 9999).2 + 1) 9999).2 + 1) 9999).1, (-6)), (mNum T t ((mNum T t ((mNum T t (s + 1) 9999).2 + 1) 9999).2 + 1) 9999).2) := by first | (simp only [mRd, mR2, if_pos c60]; done) | (simp only [mRd, mR2, c60, c66, c75, c94, c103, if_true, if_false]; done) | (simp [mRd, mR2, c60]; done) | (simp [mRd, mR2, c60, c66, c128]; done) | (simp [mRd, mR2, c60, c66, c128, c137]; done) | (simp [mRd, mR2, c60, c66, c75]; done) | (simp [mRd, mR2, c60, c66, c75, c94]; done) | (simp [mRd, mR2, c60, c66, c75, c94, c103]; done)
                         rw [e0, e1]
                         simp only [Bool.true_and, if_true]
                         exact D153 d hM28 ht (by omega) hk (((((hG3.tr hG4).tr hG16).tr hG23).tr hG26).tr hG28) ((nI (T s))) ((mNum T t (s + 1) 9999).1) ((mNum T t ((mNum T t ((mNum T t (s + 1) 9999).2 + 1) 9999).2 + 1) 9999).1) ((-6)))
            · refine x_aload_n dX5_readOrder_97 rfl ?_
              refine x_bipush (v := 47) dX5_readOrder_98 rfl ?_
              refine c_VMM dX5_readOrder_100 kX5_takes iX5_takes q1046 (m_takes _ hM23 ht (by omega) _) hM23.ob rfl rfl rfl (Nat.le_of_ble_eq_true rfl) ⟨Nat.le_refl _, Nat.le_refl _⟩ (fun h30 hM30 hG30 => ?_)
              refine x_if_eq (tgt := 115) dX5_readOrder_103 (by decide) (fun c103 => ?_) (fun c103 => ?_)
              · have c103 := bI_eq c103
                rw [if_neg (by rw [c103]; decide)] at hM30
                refine x_bipush (v := (-6)) dX5_readOrder_115 rfl ?_
                refine e_ist (lv' := fun w9 => [.ref m, .int (nI (T s)), .int ((mNum T t (s + 1) 9999).1), .int ((mNum T t ((mNum T t (s + 1) 9999).2 + 1) 9999).1), .int w9]) dX5_readOrder_117 (Nat.le_of_ble_eq_true rfl) rfl (fun _ => rfl) (fun v31 ev31 => ?_)
                subst ev31
                refine x_iload_n dX5_readOrder_119 rfl ?_
                refine x_bipush (v := (-6)) dX5_readOrder_120 rfl ?_
                refine x_icmp_eq (tgt := 153) dX5_readOrder_122 (by decide) (fun c122 => ?_) (fun c122 => ?_)
                · first
                    | exact absurd (c66.symm.trans c128) (by decide)
                    | exact absurd c60 c122
                    | exact absurd c122 c60
                    | (have e0 : mOkL T t s = true := by rw [mOkL, if_neg c8]; exact c29
                       have e1 : mRd T t s = (((mNum T t (s + 1) 9999).1, (mNum T t ((mNum T t (s + 1) 9999).2 + 1) 9999).1, (-6)), (mNum T t ((mNum T t (s + 1) 9999).2 + 1) 9999).2) := by first | (simp only [mRd, mR2, if_pos c60]; done) | (simp only [mRd, mR2, c60, c66, c75, c94, c103, if_true, if_false]; done) | (simp [mRd, mR2, c60]; done) | (simp [mRd, mR2, c60, c66, c128]; done) | (simp [mRd, mR2, c60, c66, c128, c137]; done) | (simp [mRd, mR2, c60, c66, c75]; done) | (simp [mRd, mR2, c60, c66, c75, c94]; done) | (simp [mRd, mR2, c60, c66, c75, c94, c103]; done)
                       rw [e0, e1]
                       simp only [Bool.true_and, if_true]
                       exact D153 d hM30 ht (by omega) hk ((((hG3.tr hG4).tr hG16).tr hG23).tr hG30) ((nI (T s))) ((mNum T t (s + 1) 9999).1) ((mNum T t ((mNum T t (s + 1) 9999).2 + 1) 9999).1) ((-6)))
                · refine x_iload_n dX5_readOrder_125 rfl ?_
                  refine x_bipush (v := 112) dX5_readOrder_126 rfl ?_
                  refine x_icmp_ne (tgt := 153) dX5_readOrder_128 (by decide) (fun c128 => ?_) (fun c128 => ?_)
                  · first
                      | exact absurd (c66.symm.trans c128) (by decide)
                      | exact absurd c60 c122
                      | exact absurd c122 c60
                      | (have e0 : mOkL T t s = true := by rw [mOkL, if_neg c8]; exact c29
                         have e1 : mRd T t s = (((mNum T t (s + 1) 9999).1, (mNum T t ((mNum T t (s + 1) 9999).2 + 1) 9999).1, (-6)), (mNum T t ((mNum T t (s + 1) 9999).2 + 1) 9999).2) := by first | (simp only [mRd, mR2, if_pos c60]; done) | (simp only [mRd, mR2, c60, c66, c75, c94, c103, if_true, if_false]; done) | (simp [mRd, mR2, c60]; done) | (simp [mRd, mR2, c60, c66, c128]; done) | (simp [mRd, mR2, c60, c66, c128, c137]; done) | (simp [mRd, mR2, c60, c66, c75]; done) | (simp [mRd, mR2, c60, c66, c75, c94]; done) | (simp [mRd, mR2, c60, c66, c75, c94, c103]; done)
                         rw [e0, e1]
                         simp only [Bool.true_and, if_true]
                         exact D153 d hM30 ht (by omega) hk ((((hG3.tr hG4).tr hG16).tr hG23).tr hG30) ((nI (T s))) ((mNum T t (s + 1) 9999).1) ((mNum T t ((mNum T t (s + 1) 9999).2 + 1) 9999).1) ((-6)))
                  · refine x_aload_n dX5_readOrder_131 rfl ?_
                    refine x_bipush (v := 43) dX5_readOrder_132 rfl ?_
                    refine c_VMM dX5_readOrder_134 kX5_takes iX5_takes q1046 (m_takes _ hM30 ht (by omega) _) hM30.ob rfl rfl rfl (Nat.le_of_ble_eq_true rfl) ⟨Nat.le_refl _, Nat.le_refl _⟩ (fun h32 hM32 hG32 => ?_)
                    refine x_if_eq (tgt := 150) dX5_readOrder_137 (by decide) (fun c137 => ?_) (fun c137 => ?_)
                    · have c137 := bI_eq c137
                      rw [if_neg (by rw [c137]; decide)] at hM32
                      refine x_bipush (v := (-6)) dX5_readOrder_150 rfl ?_
                      refine e_ist_n (lv' := fun w9 => [.ref m, .int (nI (T s)), .int ((mNum T t (s + 1) 9999).1), .int w9, .int (-6)]) dX5_readOrder_152 (Nat.le_of_ble_eq_true rfl) rfl (fun _ => rfl) (fun v33 ev33 => ?_)
                      subst ev33
                      first
                        | exact absurd (c66.symm.trans c128) (by decide)
                        | exact absurd c60 c122
                        | exact absurd c122 c60
                        | (have e0 : mOkL T t s = true := by rw [mOkL, if_neg c8]; exact c29
                           have e1 : mRd T t s = (((mNum T t (s + 1) 9999).1, (-6), (-6)), (mNum T t ((mNum T t (s + 1) 9999).2 + 1) 9999).2) := by first | (simp only [mRd, mR2, if_pos c60]; done) | (simp only [mRd, mR2, c60, c66, c75, c94, c103, if_true, if_false]; done) | (simp [mRd, mR2, c60]; done) | (simp [mRd, mR2, c60, c66, c128]; done) | (simp [mRd, mR2, c60, c66, c128, c137]; done) | (simp [mRd, mR2, c60, c66, c75]; done) | (simp [mRd, mR2, c60, c66, c75, c94]; done) | (simp [mRd, mR2, c60, c66, c75, c94, c103]; done)
                           rw [e0, e1]
                           simp only [Bool.true_and, if_true]
                           exact D153 d hM32 ht (by omega) hk (((((hG3.tr hG4).tr hG16).tr hG23).tr hG30).tr hG32) ((nI (T s))) ((mNum T t (s + 1) 9999).1) ((-6)) ((-6)))
                    · have c137 := bI_ne c137
                      rw [if_pos c137] at hM32
                      have ht137 := mTk_t (T := T) (t := t) (s := (mNum T t ((mNum T t (s + 1) 9999).2 + 1) 9999).2) (by omega) ht c137
                      refine x_aload_n dX5_readOrder_140 rfl ?_
                      refine x_sipush (v := 9999) dX5_readOrder_141 rfl ?_
                      refine c_VMM dX5_readOrder_144 kX5_number iX5_number q1038 (m_number _ hM32 ht (by omega) _) hM32.ob rfl rfl rfl (Nat.le_of_ble_eq_true rfl) ⟨Nat.le_refl _, Nat.le_refl _⟩ (fun h34 hM34 hG34 => ?_)
                      have hp144 := (mNum_le T (t := t) (s := (mNum T t ((mNum T t (s + 1) 9999).2 + 1) 9999).2 + 1) 9999 (by omega) ht).2
                      refine x_goto (tgt := 152) dX5_readOrder_147 (by decide) ?_
                      refine e_ist_n (lv' := fun w9 => [.ref m, .int (nI (T s)), .int ((mNum T t (s + 1) 9999).1), .int w9, .int (-6)]) dX5_readOrder_152 (Nat.le_of_ble_eq_true rfl) rfl (fun _ => rfl) (fun v35 ev35 => ?_)
                      have ev35 : (mNum T t ((mNum T t ((mNum T t (s + 1) 9999).2 + 1) 9999).2 + 1) 9999).1 = v35 := (ev35.trans rfl).symm
                      subst ev35
                      first
                        | exact absurd (c66.symm.trans c128) (by decide)
                        | exact absurd c60 c122
                        | exact absurd c122 c60
                        | (have e0 : mOkL T t s = true := by rw [mOkL, if_neg c8]; exact c29
                           have e1 : mRd T t s = (((mNum T t (s + 1) 9999).1, (mNum T t ((mNum T t ((mNum T t (s + 1) 9999).2 + 1) 9999).2 + 1) 9999).1, (-6)), (mNum T t ((mNum T t ((mNum T t (s + 1) 9999).2 + 1) 9999).2 + 1) 9999).2) := by first | (simp only [mRd, mR2, if_pos c60]; done) | (simp only [mRd, mR2, c60, c66, c75, c94, c103, if_true, if_false]; done) | (simp [mRd, mR2, c60]; done) | (simp [mRd, mR2, c60, c66, c128]; done) | (simp [mRd, mR2, c60, c66, c128, c137]; done) | (simp [mRd, mR2, c60, c66, c75]; done) | (simp [mRd, mR2, c60, c66, c75, c94]; done) | (simp [mRd, mR2, c60, c66, c75, c94, c103]; done)
                           rw [e0, e1]
                           simp only [Bool.true_and, if_true]
                           exact D153 d hM34 ht (by omega) hk ((((((hG3.tr hG4).tr hG16).tr hG23).tr hG30).tr hG32).tr hG34) ((nI (T s))) ((mNum T t (s + 1) 9999).1) ((mNum T t ((mNum T t ((mNum T t (s + 1) 9999).2 + 1) 9999).2 + 1) 9999).1) ((-6)))
              · have c103 := bI_ne c103
                rw [if_pos c103] at hM30
                have ht103 := mTk_t (T := T) (t := t) (s := (mNum T t ((mNum T t (s + 1) 9999).2 + 1) 9999).2) (by omega) ht c103
                refine x_aload_n dX5_readOrder_106 rfl ?_
                refine x_bipush (v := 9) dX5_readOrder_107 rfl ?_
                refine c_VMM dX5_readOrder_109 kX5_number iX5_number q1038 (m_number _ hM30 ht (by omega) _) hM30.ob rfl rfl rfl (Nat.le_of_ble_eq_true rfl) ⟨Nat.le_refl _, Nat.le_refl _⟩ (fun h36 hM36 hG36 => ?_)
                have hp109 := (mNum_le T (t := t) (s := (mNum T t ((mNum T t (s + 1) 9999).2 + 1) 9999).2 + 1) 9 (by omega) ht).2
                refine x_goto (tgt := 117) dX5_readOrder_112 (by decide) ?_
                refine e_ist (lv' := fun w9 => [.ref m, .int (nI (T s)), .int ((mNum T t (s + 1) 9999).1), .int ((mNum T t ((mNum T t (s + 1) 9999).2 + 1) 9999).1), .int w9]) dX5_readOrder_117 (Nat.le_of_ble_eq_true rfl) rfl (fun _ => rfl) (fun v37 ev37 => ?_)
                have ev37 : (mNum T t ((mNum T t ((mNum T t (s + 1) 9999).2 + 1) 9999).2 + 1) 9).1 = v37 := (ev37.trans rfl).symm
                subst ev37
                refine x_iload_n dX5_readOrder_119 rfl ?_
                refine x_bipush (v := (-6)) dX5_readOrder_120 rfl ?_
                refine x_icmp_eq (tgt := 153) dX5_readOrder_122 (by decide) (fun c122 => ?_) (fun c122 => ?_)
                · first
                    | exact absurd (c66.symm.trans c128) (by decide)
                    | exact absurd c60 c122
                    | exact absurd c122 c60
                    | (have e0 : mOkL T t s = true := by rw [mOkL, if_neg c8]; exact c29
                       have e1 : mRd T t s = (((mNum T t (s + 1) 9999).1, (mNum T t ((mNum T t (s + 1) 9999).2 + 1) 9999).1, (mNum T t ((mNum T t ((mNum T t (s + 1) 9999).2 + 1) 9999).2 + 1) 9).1), (mNum T t ((mNum T t ((mNum T t (s + 1) 9999).2 + 1) 9999).2 + 1) 9).2) := by first | (simp only [mRd, mR2, if_pos c60]; done) | (simp only [mRd, mR2, c60, c66, c75, c94, c103, if_true, if_false]; done) | (simp [mRd, mR2, c60]; done) | (simp [mRd, mR2, c60, c66, c128]; done) | (simp [mRd, mR2, c60, c66, c128, c137]; done) | (simp [mRd, mR2, c60, c66, c75]; done) | (simp [mRd, mR2, c60, c66, c75, c94]; done) | (simp [mRd, mR2, c60, c66, c75, c94, c103]; done)
                       rw [e0, e1]
                       simp only [Bool.true_and, if_true]
                       exact D153 d hM36 ht (by omega) hk (((((hG3.tr hG4).tr hG16).tr hG23).tr hG30).tr hG36) ((nI (T s))) ((mNum T t (s + 1) 9999).1) ((mNum T t ((mNum T t (s + 1) 9999).2 + 1) 9999).1) ((mNum T t ((mNum T t ((mNum T t (s + 1) 9999).2 + 1) 9999).2 + 1) 9).1))
                · refine x_iload_n dX5_readOrder_125 rfl ?_
                  refine x_bipush (v := 112) dX5_readOrder_126 rfl ?_
                  refine x_icmp_ne (tgt := 153) dX5_readOrder_128 (by decide) (fun c128 => ?_) (fun c128 => ?_)
                  · first
                      | exact absurd (c66.symm.trans c128) (by decide)
                      | exact absurd c60 c122
                      | exact absurd c122 c60
                      | (have e0 : mOkL T t s = true := by rw [mOkL, if_neg c8]; exact c29
                         have e1 : mRd T t s = (((mNum T t (s + 1) 9999).1, (mNum T t ((mNum T t (s + 1) 9999).2 + 1) 9999).1, (mNum T t ((mNum T t ((mNum T t (s + 1) 9999).2 + 1) 9999).2 + 1) 9).1), (mNum T t ((mNum T t ((mNum T t (s + 1) 9999).2 + 1) 9999).2 + 1) 9).2) := by first | (simp only [mRd, mR2, if_pos c60]; done) | (simp only [mRd, mR2, c60, c66, c75, c94, c103, if_true, if_false]; done) | (simp [mRd, mR2, c60]; done) | (simp [mRd, mR2, c60, c66, c128]; done) | (simp [mRd, mR2, c60, c66, c128, c137]; done) | (simp [mRd, mR2, c60, c66, c75]; done) | (simp [mRd, mR2, c60, c66, c75, c94]; done) | (simp [mRd, mR2, c60, c66, c75, c94, c103]; done)
                         rw [e0, e1]
                         simp only [Bool.true_and, if_true]
                         exact D153 d hM36 ht (by omega) hk (((((hG3.tr hG4).tr hG16).tr hG23).tr hG30).tr hG36) ((nI (T s))) ((mNum T t (s + 1) 9999).1) ((mNum T t ((mNum T t (s + 1) 9999).2 + 1) 9999).1) ((mNum T t ((mNum T t ((mNum T t (s + 1) 9999).2 + 1) 9999).2 + 1) 9).1))
                  · refine x_aload_n dX5_readOrder_131 rfl ?_
                    refine x_bipush (v := 43) dX5_readOrder_132 rfl ?_
                    refine c_VMM dX5_readOrder_134 kX5_takes iX5_takes q1046 (m_takes _ hM36 ht (by omega) _) hM36.ob rfl rfl rfl (Nat.le_of_ble_eq_true rfl) ⟨Nat.le_refl _, Nat.le_refl _⟩ (fun h38 hM38 hG38 => ?_)
                    refine x_if_eq (tgt := 150) dX5_readOrder_137 (by decide) (fun c137 => ?_) (fun c137 => ?_)
                    · have c137 := bI_eq c137
                      rw [if_neg (by rw [c137]; decide)] at hM38
                      refine x_bipush (v := (-6)) dX5_readOrder_150 rfl ?_
                      refine e_ist_n (lv' := fun w9 => [.ref m, .int (nI (T s)), .int ((mNum T t (s + 1) 9999).1), .int w9, .int ((mNum T t ((mNum T t ((mNum T t (s + 1) 9999).2 + 1) 9999).2 + 1) 9).1)]) dX5_readOrder_152 (Nat.le_of_ble_eq_true rfl) rfl (fun _ => rfl) (fun v39 ev39 => ?_)
                      subst ev39
                      first
                        | exact absurd (c66.symm.trans c128) (by decide)
                        | exact absurd c60 c122
                        | exact absurd c122 c60
                        | (have e0 : mOkL T t s = true := by rw [mOkL, if_neg c8]; exact c29
                           have e1 : mRd T t s = (((mNum T t (s + 1) 9999).1, (-6), (mNum T t ((mNum T t ((mNum T t (s + 1) 9999).2 + 1) 9999).2 + 1) 9).1), (mNum T t ((mNum T t ((mNum T t (s + 1) 9999).2 + 1) 9999).2 + 1) 9).2) := by first | (simp only [mRd, mR2, if_pos c60]; done) | (simp only [mRd, mR2, c60, c66, c75, c94, c103, if_true, if_false]; done) | (simp [mRd, mR2, c60]; done) | (simp [mRd, mR2, c60, c66, c128]; done) | (simp [mRd, mR2, c60, c66, c128, c137]; done) | (simp [mRd, mR2, c60, c66, c75]; done) | (simp [mRd, mR2, c60, c66, c75, c94]; done) | (simp [mRd, mR2, c60, c66, c75, c94, c103]; done)
                           rw [e0, e1]
                           simp only [Bool.true_and, if_true]
                           exact D153 d hM38 ht (by omega) hk ((((((hG3.tr hG4).tr hG16).tr hG23).tr hG30).tr hG36).tr hG38) ((nI (T s))) ((mNum T t (s + 1) 9999).1) ((-6)) ((mNum T t ((mNum T t ((mNum T t (s + 1) 9999).2 + 1) 9999).2 + 1) 9).1))
                    · have c137 := bI_ne c137
                      rw [if_pos c137] at hM38
                      have ht137 := mTk_t (T := T) (t := t) (s := (mNum T t ((mNum T t ((mNum T t (s + 1) 9999).2 + 1) 9999).2 + 1) 9).2) (by omega) ht c137
                      refine x_aload_n dX5_readOrder_140 rfl ?_
                      refine x_sipush (v := 9999) dX5_readOrder_141 rfl ?_
                      refine c_VMM dX5_readOrder_144 kX5_number iX5_number q1038 (m_number _ hM38 ht (by omega) _) hM38.ob rfl rfl rfl (Nat.le_of_ble_eq_true rfl) ⟨Nat.le_refl _, Nat.le_refl _⟩ (fun h40 hM40 hG40 => ?_)
                      have hp144 := (mNum_le T (t := t) (s := (mNum T t ((mNum T t ((mNum T t (s + 1) 9999).2 + 1) 9999).2 + 1) 9).2 + 1) 9999 (by omega) ht).2
                      refine x_goto (tgt := 152) dX5_readOrder_147 (by decide) ?_
                      refine e_ist_n (lv' := fun w9 => [.ref m, .int (nI (T s)), .int ((mNum T t (s + 1) 9999).1), .int w9, .int ((mNum T t ((mNum T t ((mNum T t (s + 1) 9999).2 + 1) 9999).2 + 1) 9).1)]) dX5_readOrder_152 (Nat.le_of_ble_eq_true rfl) rfl (fun _ => rfl) (fun v41 ev41 => ?_)
                      have ev41 : (mNum T t ((mNum T t ((mNum T t ((mNum T t (s + 1) 9999).2 + 1) 9999).2 + 1) 9).2 + 1) 9999).1 = v41 := (ev41.trans rfl).symm
                      subst ev41
                      first
                        | exact absurd (c66.symm.trans c128) (by decide)
                        | exact absurd c60 c122
                        | exact absurd c122 c60
                        | (have e0 : mOkL T t s = true := by rw [mOkL, if_neg c8]; exact c29
                           have e1 : mRd T t s = (((mNum T t (s + 1) 9999).1, (mNum T t ((mNum T t ((mNum T t ((mNum T t (s + 1) 9999).2 + 1) 9999).2 + 1) 9).2 + 1) 9999).1, (mNum T t ((mNum T t ((mNum T t (s + 1) 9999).2 + 1) 9999).2 + 1) 9).1), (mNum T t ((mNum T t ((mNum T t ((mNum T t (s + 1) 9999).2 + 1) 9999).2 + 1) 9).2 + 1) 9999).2) := by first | (simp only [mRd, mR2, if_pos c60]; done) | (simp only [mRd, mR2, c60, c66, c75, c94, c103, if_true, if_false]; done) | (simp [mRd, mR2, c60]; done) | (simp [mRd, mR2, c60, c66, c128]; done) | (simp [mRd, mR2, c60, c66, c128, c137]; done) | (simp [mRd, mR2, c60, c66, c75]; done) | (simp [mRd, mR2, c60, c66, c75, c94]; done) | (simp [mRd, mR2, c60, c66, c75, c94, c103]; done)
                           rw [e0, e1]
                           simp only [Bool.true_and, if_true]
                           exact D153 d hM40 ht (by omega) hk (((((((hG3.tr hG4).tr hG16).tr hG23).tr hG30).tr hG36).tr hG38).tr hG40) ((nI (T s))) ((mNum T t (s + 1) 9999).1) ((mNum T t ((mNum T t ((mNum T t ((mNum T t (s + 1) 9999).2 + 1) 9999).2 + 1) 9).2 + 1) 9999).1) ((mNum T t ((mNum T t ((mNum T t (s + 1) 9999).2 + 1) 9999).2 + 1) 9).1))
    · have c29 := bI_eq c29
      refine x_iconst (v := 0) dX5_readOrder_32 rfl ?_
      refine x_iret dX5_readOrder_33 (Or.inr ⟨rfl, by first | rfl | exact bI_z _⟩) rfl (Nat.le_refl _) ?_
      have e0 : mOkL T t s = false := by
        rw [mOkL]
        first | rw [if_pos c8] | (rw [if_neg c8]; exact c29)
      rw [e0]
      exact ⟨rfl, _, rfl, hM, Fr.rf⟩
