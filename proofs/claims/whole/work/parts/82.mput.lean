def mCh : Nat → Int64 → Nat → Option Nat
  | 0, _, n => some n
  | k + 1, l, n => if lg_cmp l 0 = 0 then some n else if mIn ((l &&& 255).toInt32) 33 126 = true then mCh k (lus l 8) (n + 1) else none
def mPutR (T : Nat → Nat) (t : Nat) (L : Int64) (o : Option Nat) : Int32 × (Nat → Nat) × Nat := match o with
  | none => (-2, T, t)
  | some i => if i = 0 then (-2, T, t) else if 80 < t + i then (-4, T, t) else (nI (apF L i T t).2, (apF L i T t).1, (apF L i T t).2)
def mPut (T : Nat → Nat) (t : Nat) (L : Int64) : Int32 × (Nat → Nat) × Nat := mPutR T t L (mCh 8 L 0)
theorem cd_eq (L : Int64) (k : Nat) : (lus L (8 * nI k) &&& 255).toInt32 = nI (cdN L k) := by
  have e : (lus L (8 * nI k) &&& 255).toInt32 = sCode L (nI k) := by
    unfold sCode
    rw [Int64.toInt32_and]
    rfl
  rw [e]
  unfold cdN sCode
  have h := pk_and ((lus L (8 * nI k)).toInt32) (m := 255) 8 rfl
  rw [h]
  have hlt : (lus L (8 * nI k)).toInt32.toBitVec.toNat % 2 ^ 8 < 2 ^ 8 := Nat.mod_lt _ (by decide)
  generalize (lus L (8 * nI k)).toInt32.toBitVec.toNat % 2 ^ 8 = a at hlt
  have : (nI a).toBitVec.toNat = a := by
    show (BitVec.ofNat 32 a).toNat = a
    rw [BitVec.toNat_ofNat, Nat.mod_eq_of_lt (by omega)]
  rw [this, Nat.mod_eq_of_lt (by omega)]
theorem dec1 (k : Nat) : nI k + Int32.ofInt (-1) = nI k - 1 := by
  rw [Int32.sub_eq_add_neg]
  rfl
theorem nI_prd (k : Nat) : nI (k + 1) - 1 = nI k := by
  rw [← nI_1 k]
  exact Int32.add_sub_cancel _ _
set_option maxRecDepth 100000 in
set_option maxHeartbeats 4000000 in
theorem L_put2 {st : Nat → Nat} (d : Nat) {z : Nat} {h : Nat → Option va_E} {m : Nat} {ζ : Sg} {n nv : Nat} {G S : Nat → Sg} {sv : Nat → Int32} {sp : Int32} {tl : Nat → Int32} {tm : Int32} (L l : Int64) (c : Int32) {q : (Nat → Nat) × Nat} : ∀ (k : Nat) (T1 : Nat → Nat) (t1 : Nat) (hq1 : Nat → Option va_E) (w : Int32), t1 + k ≤ 80 → w = nI k - 1 → MAt hq1 m ζ n nv G S sv (fun i => nI (T1 i)) (nI t1) sp tl tm → Fr m 8 h hq1 → apF L k T1 t1 = q → Ev st (d + 2) yX5_put cX5_put 7 (some .int) (z, h) 0 0 (MMO (some (.int (nI q.2))) z m h ζ n nv G S sv (fun i => nI ((q.1) i)) (nI (q.2)) sp tl tm) 77 [.ref m, .long L, .null, .long l, .null, .int c, .int w] [] (z, hq1) 0 0 := by
  intro k
  induction k with
  | zero =>
    intro T1 t1 hq1 w hle hw HQ1 hFQ hq
    subst hw
    refine x_iload dX5_put_77 rfl ?_
    refine x_if_lt (tgt := 119) dX5_put_79 (by decide) (fun c79 => ?_) (fun c79 => absurd (show nI 0 - 1 < 0 by decide) c79)
    refine x_aload_n dX5_put_119 rfl ?_
    refine x_get dX5_put_120 fX5_197 HQ1.ob rfl ?_
    refine x_iret dX5_put_123 (Or.inl rfl) rfl (Nat.le_refl _) ?_
    subst hq
    exact ⟨rfl, _, rfl, HQ1, hFQ⟩
  | succ k ih =>
    intro T1 t1 hq1 w hle hw HQ1 hFQ hq
    obtain rfl : w = nI k := hw.trans (nI_prd k)
    refine x_iload dX5_put_77 rfl ?_
    refine x_if_lt (tgt := 119) dX5_put_79 (by decide) (fun c79 => absurd c79 (nI_pos (n := k) (by omega))) (fun c79 => ?_)
    refine x_aload_n dX5_put_82 rfl ?_
    refine x_get dX5_put_83 fX5_26 HQ1.ob rfl ?_
    refine x_aload_n dX5_put_86 rfl ?_
    refine x_get dX5_put_87 fX5_197 HQ1.ob rfl ?_
    refine x_lload_n dX5_put_90 rfl ?_
    refine x_bipush (v := 8) dX5_put_91 rfl ?_
    refine x_iload dX5_put_93 rfl ?_
    refine x_imul dX5_put_95 ?_
    refine x_lushr dX5_put_96 rfl ?_
    refine x_ldc2 dX5_put_97 q1018 ?_
    refine x_land dX5_put_100 ?_
    refine x_l2i dX5_put_101 ?_
    rw [show ((L.toUInt64 >>> ((8 * nI k).toInt64.toUInt64 &&& Int64.toUInt64 63)).toInt64 &&& 255).toInt32 = nI (cdN L k) from cd_eq L k]
    refine e_ast dX5_put_102 HQ1.pad (ax_ixN (j := t1) (by omega) (by decide)) (fun h1 hR1 he1 => ?_)
    have hM1 := HQ1.setPad (tx' := fun i => nI (updN T1 t1 (cdN L k) i)) (hR1.to fun q _ => by unfold upd updN; split <;> rfl) he1
    have hG1 : Fr m 8 _ h1 := fun q hq => he1 q (by omega)
    refine x_aload_n dX5_put_103 rfl ?_
    refine x_dup dX5_put_104 rfl ?_
    refine x_get dX5_put_105 fX5_197 hM1.ob rfl ?_
    refine x_iconst (v := 1) dX5_put_108 rfl ?_
    refine x_iadd dX5_put_109 ?_
    rw [show nI t1 + 1 = nI (t1 + 1) from nI_1 t1]
    refine M_put (n) (nI (t1 + 1)) (sp) (tm) dX5_put_110 fX5_197 hM1 (Nat.le_of_ble_eq_true rfl) rfl hM1.n6 (fun h2 hM2 hf2 => ?_)
    have hG2 : Fr m 8 _ h2 := fun q hq => hf2 q (by omega)
    refine e_inc (lv' := fun w9 => [.ref m, .long L, .null, .long l, .null, .int c, .int w9]) dX5_put_113 rfl rfl (fun _ => rfl) (fun v3 ev3 => ?_)
    refine x_goto (tgt := 77) dX5_put_116 (by decide) ?_
    exact ih (updN T1 t1 (cdN L k)) (t1 + 1) h2 v3 (by omega) (ev3.trans (dec1 k)) hM2 ((hFQ.tr hG1).tr hG2) hq

set_option maxRecDepth 100000 in
set_option maxHeartbeats 4000000 in
theorem D48 {st : Nat → Nat} (d : Nat) {z : Nat} {h : Nat → Option va_E} {m : Nat} {ζ : Sg} {n nv : Nat} {G S : Nat → Sg} {sv : Nat → Int32} {T : Nat → Nat} {t : Nat} {sp : Int32} {tl : Nat → Int32} {tm : Int32} (hM : MAt h m ζ n nv G S sv (fun i => nI (T i)) (nI t) sp tl tm) (ht : t ≤ 80) (L l : Int64) {i : Nat} (hi : i ≤ 8) (w6 : Value) (hR : mCh 8 L 0 = some i) : Ev st (d + 2) yX5_put cX5_put 7 (some .int) (z, h) 0 0 (MMO (some (.int (mPutR T t L (mCh 8 L 0)).1)) z m h ζ n nv G S sv (fun i => nI (((mPutR T t L (mCh 8 L 0)).2.1) i)) (nI ((mPutR T t L (mCh 8 L 0)).2.2)) sp tl tm) 48 [.ref m, .long L, .null, .long l, .null, .int (nI i), w6] [] (z, h) 0 0 := by
  rw [hR]
  show Ev _ _ _ _ _ _ _ _ _ (MMO (some (.int (if i = 0 then (-2, T, t) else if 80 < t + i then (-4, T, t) else (nI (apF L i T t).2, (apF L i T t).1, (apF L i T t).2)).1)) z m h ζ n nv G S sv (fun j => nI ((if i = 0 then (-2, T, t) else if 80 < t + i then (-4, T, t) else (nI (apF L i T t).2, (apF L i T t).1, (apF L i T t).2) : Int32 × (Nat → Nat) × Nat).2.1 j)) (nI (if i = 0 then (-2, T, t) else if 80 < t + i then (-4, T, t) else (nI (apF L i T t).2, (apF L i T t).1, (apF L i T t).2) : Int32 × (Nat → Nat) × Nat).2.2) sp tl tm) _ _ _ _ _ _
  refine x_iload dX5_put_48 rfl ?_
  refine x_if_ne (tgt := 56) dX5_put_50 (by decide) (fun c50 => ?_) (fun c50 => ?_)
  · have hi0 : ¬ i = 0 := by intro q; subst q; exact c50 rfl
    refine x_aload_n dX5_put_56 rfl ?_
    refine x_get dX5_put_57 fX5_197 hM.ob rfl ?_
    refine x_iload dX5_put_60 rfl ?_
    refine x_iadd dX5_put_62 ?_
    refine x_bipush (v := 80) dX5_put_63 rfl ?_
    refine x_icmp_le (tgt := 71) dX5_put_65 (by decide) (fun c65 => ?_) (fun c65 => ?_)
    · refine x_iload dX5_put_71 rfl ?_
      refine x_iconst (v := 1) dX5_put_73 rfl ?_
      refine x_isub dX5_put_74 ?_
      refine e_ist (lv' := fun w9 => [.ref m, .long L, .null, .long l, .null, .int (nI i), .int w9]) dX5_put_75 (Nat.le_of_ble_eq_true rfl) rfl (fun _ => rfl) (fun v1 ev1 => ?_)
      have hlt : ¬ 80 < t + i := by intro q; rw [nI_add] at c65; exact absurd ((nI_leI (a := t + i) (b := 80) (by omega) (by decide)).mp c65) (by omega)
      rw [if_neg hi0, if_neg hlt]
      exact L_put2 d L l (nI i) (q := apF L i T t) i T t h v1 (by omega) ev1 hM Fr.rf rfl
    · refine x_bipush (v := (-4)) dX5_put_68 rfl ?_
      refine x_iret dX5_put_70 (Or.inl rfl) rfl (Nat.le_refl _) ?_
      first
        | (have hi0 : i = 0 := by
             rcases i with _ | i1
             · rfl
             · exact absurd c50 (by intro q; exact nI_ns0 i1 (by omega) q)
           rw [if_pos hi0]; exact ⟨rfl, _, rfl, hM, Fr.rf⟩)
        | (have hlt : 80 < t + i := by rw [nI_add] at c65; exact Nat.lt_of_not_le fun q => c65 (nI_le (b := 80) q (by decide))
           rw [if_neg hi0, if_pos hlt]; exact ⟨rfl, _, rfl, hM, Fr.rf⟩)
  · refine x_bipush (v := (-2)) dX5_put_53 rfl ?_
    refine x_iret dX5_put_55 (Or.inl rfl) rfl (Nat.le_refl _) ?_
    first
      | (have hi0 : i = 0 := by
           rcases i with _ | i1
           · rfl
           · exact absurd c50 (by intro q; exact nI_ns0 i1 (by omega) q)
         rw [if_pos hi0]; exact ⟨rfl, _, rfl, hM, Fr.rf⟩)
      | (have hlt : 80 < t + i := by rw [nI_add] at c65; exact Nat.lt_of_not_le fun q => c65 (nI_le (b := 80) q (by decide))
         rw [if_neg hi0, if_pos hlt]; exact ⟨rfl, _, rfl, hM, Fr.rf⟩)

set_option maxRecDepth 100000 in
set_option maxHeartbeats 4000000 in
theorem L_put1 {st : Nat → Nat} (d : Nat) {z : Nat} {h : Nat → Option va_E} {m : Nat} {ζ : Sg} {n nv : Nat} {G S : Nat → Sg} {sv : Nat → Int32} {T : Nat → Nat} {t : Nat} {sp : Int32} {tl : Nat → Int32} {tm : Int32} (hM : MAt h m ζ n nv G S sv (fun i => nI (T i)) (nI t) sp tl tm) (ht : t ≤ 80) (L : Int64) : ∀ (k : Nat) (i : Nat) (l : Int64) (w6 : Value), i + k = 8 → mCh k l i = mCh 8 L 0 → Ev st (d + 2) yX5_put cX5_put 7 (some .int) (z, h) 0 0 (MMO (some (.int (mPutR T t L (mCh 8 L 0)).1)) z m h ζ n nv G S sv (fun i => nI (((mPutR T t L (mCh 8 L 0)).2.1) i)) (nI ((mPutR T t L (mCh 8 L 0)).2.2)) sp tl tm) 5 [.ref m, .long L, .null, .long l, .null, .int (nI i), w6] [] (z, h) 0 0 := by
  intro k
  induction k with
  | zero =>
    intro i l w6 hik hR
    refine x_lload_n dX5_put_5 rfl ?_
    refine x_lconst (v := 0) dX5_put_6 rfl ?_
    refine x_lcmp dX5_put_7 ?_
    refine x_if_eq (tgt := 48) dX5_put_8 (by decide) (fun c8 => ?_) (fun c8 => ?_)
    · exact D48 d hM ht L l (by omega) w6 hR.symm
    · refine x_iload dX5_put_11 rfl ?_
      refine x_bipush (v := 8) dX5_put_13 rfl ?_
      refine x_icmp_ge (tgt := 48) dX5_put_15 (by decide) (fun c15 => ?_) (fun c15 => absurd (nI_le (a := 8) (b := i) (by omega) (by omega)) c15)
      exact D48 d hM ht L l (by omega) w6 hR.symm
  | succ k ih =>
    intro i l w6 hik hR
    refine x_lload_n dX5_put_5 rfl ?_
    refine x_lconst (v := 0) dX5_put_6 rfl ?_
    refine x_lcmp dX5_put_7 ?_
    refine x_if_eq (tgt := 48) dX5_put_8 (by decide) (fun c8 => ?_) (fun c8 => ?_)
    · exact D48 d hM ht L l (by omega) w6 (by rw [← hR, mCh, if_pos c8])
    · refine x_iload dX5_put_11 rfl ?_
      refine x_bipush (v := 8) dX5_put_13 rfl ?_
      refine x_icmp_ge (tgt := 48) dX5_put_15 (by decide) (fun c15 => absurd c15 (nI_ge (a := i) (b := 8) (by omega) (by omega))) (fun c15 => ?_)
      refine x_lload_n dX5_put_18 rfl ?_
      refine x_ldc2 dX5_put_19 q1018 ?_
      refine x_land dX5_put_22 ?_
      refine x_l2i dX5_put_23 ?_
      refine x_bipush (v := 33) dX5_put_24 rfl ?_
      refine x_bipush (v := 126) dX5_put_26 rfl ?_
      refine c_SR dX5_put_28 kX5_in q732 q731 (t_in _ _ _ _) rfl rfl (Nat.le_of_ble_eq_true rfl) ⟨Nat.le_refl _, Nat.le_refl _⟩ ?_
      refine x_if_ne (tgt := 37) dX5_put_31 (by decide) (fun c31 => ?_) (fun c31 => ?_)
      · have c31 := bI_ne c31
        refine x_lload_n dX5_put_37 rfl ?_
        refine x_bipush (v := 8) dX5_put_38 rfl ?_
        refine x_lushr dX5_put_40 rfl ?_
        refine x_lstore_n dX5_put_41 (Nat.le_of_ble_eq_true rfl) rfl ?_
        refine e_inc (lv' := fun w9 => [.ref m, .long L, .null, .long (lus l 8), .null, .int w9, w6]) dX5_put_42 rfl rfl (fun _ => rfl) (fun v1 ev1 => ?_)
        refine x_goto (tgt := 5) dX5_put_45 (by decide) ?_
        obtain rfl := inc1 ev1
        exact ih (i + 1) (lus l 8) _ (by omega) (by rw [← hR, mCh, if_neg c8, if_pos c31])
      · have c31 := bI_eq c31
        refine x_bipush (v := (-2)) dX5_put_34 rfl ?_
        refine x_iret dX5_put_36 (Or.inl rfl) rfl (Nat.le_refl _) ?_
        have c31 : ¬ mIn ((l &&& 255).toInt32) 33 126 = true := by intro q; rw [q] at c31; exact absurd c31 (by decide)
        rw [show mCh 8 L 0 = none from by rw [← hR, mCh, if_neg c8, if_neg c31]]
        exact ⟨rfl, _, rfl, hM, Fr.rf⟩

set_option maxRecDepth 100000 in
set_option maxHeartbeats 4000000 in
theorem m_put {st : Nat → Nat} (d : Nat) {z : Nat} {h : Nat → Option va_E} {m : Nat} {ζ : Sg} {n nv : Nat} {G S : Nat → Sg} {sv : Nat → Int32} {T : Nat → Nat} {t : Nat} {sp : Int32} {tl : Nat → Int32} {tm : Int32} (hM : MAt h m ζ n nv G S sv (fun i => nI (T i)) (nI t) sp tl tm) (ht : t ≤ 80) (L : Int64) : CT st (d + 2) yX5_put cX5_put 7 (some .int) [.ref m, .long L] (z, h) 0 0 (MMO (some (.int (mPut T t L).1)) z m h ζ n nv G S sv (fun i => nI (((mPut T t L).2.1) i)) (nI ((mPut T t L).2.2)) sp tl tm) := by
  refine CT.of (lv := [.ref m, .long L, .null, .null, .null, .null, .null]) (by decide) (Nat.le_of_ble_eq_true rfl) rfl rfl ?_
  refine x_lload_n dX5_put_0 rfl ?_
  refine x_lstore_n dX5_put_1 (Nat.le_of_ble_eq_true rfl) rfl ?_
  refine x_iconst (v := 0) dX5_put_2 rfl ?_
  refine e_ist (lv' := fun w9 => [.ref m, .long L, .null, .long L, .null, .int w9, .null]) dX5_put_3 (Nat.le_of_ble_eq_true rfl) rfl (fun _ => rfl) (fun v1 ev1 => ?_)
  subst ev1
  exact L_put1 d hM ht L 8 0 L _ (by omega) rfl
