theorem PastAt.sub {h : Nat → Option va_E} {a nv nw : Nat} {G : Nat → Sg} (H : PastAt h a nv G) (hn : nw ≤ nv) : PastAt h a nw G := by
  obtain ⟨g, h1, h2⟩ := H
  exact ⟨g, h1, fun k hk => h2 k (by omega)⟩
theorem nI_ns0 (n : Nat) (h : n < 100) : ¬ nI (n + 1) = 0 := by
  intro q
  have := congrArg Int32.toNatClampNeg q
  rw [nI_clamp (by omega)] at this
  have h0 : Int32.toNatClampNeg 0 = 0 := rfl
  omega
theorem SlotAt.put {h' : Nat → Option va_E} {a j : Nat} {S : Nat → Sg} {sv : Nat → Int32} {g : Nat → Int32} {ζ : Sg} (hj : j < 2) (hg : ∀ k, k < 2 → sv k ≠ 0 → ∀ i, i < 300 → g (300 * k + i) = encZ (S k) i) (H : RwAt h' 0 a 600 (cpy (encZ ζ) 0 g (300 * j) 300)) : SlotAt h' a (hup S j ζ) (upd sv j 1) := by
  refine ⟨_, H, fun k hk hs i hi => ?_⟩
  by_cases q : k = j
  · subst q
    rw [cpy_in _ _ _ _ hi, Nat.zero_add, hup_self]
  · rw [cpy_out _ _ _ _ (by omega), hg k hk (by unfold upd at hs; rw [if_neg q] at hs; exact hs) i hi, hup, if_neg q]
theorem sOk_mIn (a : Int32) : mIn a 0 1 = sOk a := by
  unfold mIn sOk
  congr 1
  rw [Bool.eq_iff_iff, Bool.not_eq_true', decide_eq_false_iff_not, decide_eq_true_iff, Int32.lt_iff_toInt_lt, Int32.lt_iff_toInt_lt]
  have h1 : (1 : Int32).toInt = 1 := rfl
  have h2 : (2 : Int32).toInt = 2 := rfl
  omega
theorem sOk_of {a : Int32} (h : sOk a = true) : ∃ j, j < 2 ∧ a = nI j := by
  rw [← sOk_mIn] at h
  obtain ⟨j, _, hj, rfl⟩ := mIn_of (a := 0) (b := 1) (by decide) h (by decide)
  exact ⟨j, by omega, rfl⟩
set_option maxRecDepth 100000 in
set_option maxHeartbeats 4000000 in
theorem m_undo {st : Nat → Nat} (d : Nat) {z : Nat} {h : Nat → Option va_E} {m : Nat} {ζ : Sg} {n : Nat} {G S : Nat → Sg} {sv tx : Nat → Int32} {ty sp : Int32} {tl : Nat → Int32} {tm : Int32} (hM : MAt h m ζ n n G S sv tx ty sp tl tm)  : CT st (d + 2) yX5_undo cX5_undo 1 (some .int) [.ref m] (z, h) 0 0 (MMO (some (.int (if n = 0 then -5 else nI (n - 1)))) z m h (if n = 0 then ζ else G (n - 1)) (n - 1) (n - 1) (G) (S) (sv) (tx) (ty) (sp) (tl) (tm)) := by
  refine CT.of (lv := [.ref m]) (by decide) (Nat.le_of_ble_eq_true rfl) rfl rfl ?_
  refine x_aload_n dX5_undo_0 rfl ?_
  refine x_get dX5_undo_1 fX5_36 hM.ob rfl ?_
  refine x_if_ne (tgt := 10) dX5_undo_4 (by decide) (fun c4 => ?_) (fun c4 => ?_)
  · obtain ⟨n1, rfl⟩ : ∃ n1, n = n1 + 1 := by
      rcases n with _ | n1
      · exact absurd rfl c4
      · exact ⟨n1, rfl⟩
    have hn6 := hM.n6
    refine x_aload_n dX5_undo_10 rfl ?_
    refine x_dup dX5_undo_11 rfl ?_
    refine x_get dX5_undo_12 fX5_36 hM.ob rfl ?_
    refine x_iconst (v := 1) dX5_undo_15 rfl ?_
    refine x_isub dX5_undo_16 ?_
    rw [show nI (n1 + 1) - 1 = nI n1 from by rw [← nI_1 n1]; exact Int32.add_sub_cancel _ _]
    refine M_put (n1) (ty) (sp) (tm) dX5_undo_17 fX5_36 hM (Nat.le_of_ble_eq_true rfl) rfl (by omega) (fun h1 hM1 hf1 => ?_)
    have hG1 : Fr m 8 _ h1 := fun q hq => hf1 q (by omega)
    obtain ⟨g, hRg2, hg⟩ := hM1.past
    refine x_aload_n dX5_undo_20 rfl ?_
    refine x_get dX5_undo_21 fX5_16 hM1.ob rfl ?_
    refine x_sipush (v := 300) dX5_undo_24 rfl ?_
    refine x_aload_n dX5_undo_27 rfl ?_
    refine x_get dX5_undo_28 fX5_36 hM1.ob rfl ?_
    refine x_imul dX5_undo_31 ?_
    refine x_aload_n dX5_undo_32 rfl ?_
    refine x_get dX5_undo_33 fX5_7 hM1.ob rfl ?_
    refine x_iconst (v := 0) dX5_undo_36 rfl ?_
    refine c_SCO dX5_undo_37 kX5_copyState q725 q724 (t_copyState _ (fa := 300 * n1) (ta := 0) hRg2 hM1.zr (by rw [show (300 : Int32) = nI 300 from rfl, pk_mul]) rfl (by omega) (by omega) (by decide) (by decide) (by omega)) rfl rfl (Nat.le_of_ble_eq_true rfl) ⟨Nat.le_refl _, Nat.le_refl _⟩ (fun h2 hR2 he2 => ?_)
    have hM2 := hM1.setZr (ζ' := G n1) (hR2.to fun i hi => by rw [show i = 0 + i by omega, cpy_in _ _ _ _ hi, hg n1 (by omega) i hi, Nat.zero_add]) he2
    have hM2 : MAt _ m (G n1) n1 n1 G S sv tx ty sp tl tm := ⟨hM2.1, hM2.2.1, hM2.2.2.1, hM2.past.sub (by omega), hM2.2.2.2.2⟩
    have hG2 : Fr m 8 _ h2 := fun q hq => he2 q (by omega)
    refine x_aload_n dX5_undo_40 rfl ?_
    refine x_get dX5_undo_41 fX5_36 hM2.ob rfl ?_
    refine x_iret dX5_undo_44 (Or.inl rfl) rfl (Nat.le_refl _) ?_
    exact ⟨rfl, _, rfl, hM2, (hG1.tr hG2)⟩
  · refine x_bipush (v := (-5)) dX5_undo_7 rfl ?_
    refine x_iret dX5_undo_9 (Or.inl rfl) rfl (Nat.le_refl _) ?_
    obtain rfl : n = 0 := by
      rcases n with _ | n1
      · rfl
      · exact absurd c4 (nI_ns0 n1 (by have := hM.n6; omega))
    exact ⟨rfl, _, rfl, hM, Fr.rf⟩

set_option maxRecDepth 100000 in
set_option maxHeartbeats 4000000 in
theorem m_save {st : Nat → Nat} (d : Nat) {z : Nat} {h : Nat → Option va_E} {m : Nat} {ζ : Sg} {n nv : Nat} {G S : Nat → Sg} {sv tx : Nat → Int32} {ty sp : Int32} {tl : Nat → Int32} {tm : Int32} (hM : MAt h m ζ n nv G S sv tx ty sp tl tm) (a : Int32) : CT st (d + 2) yX5_save cX5_save 2 (some .int) [.ref m, .int a] (z, h) 0 0 (MMO (some (.int (if sOk a = true then ζ 13 0 else -2))) z m h (ζ) (n) (nv) (G) (if sOk a = true then hup S a.toNatClampNeg ζ else S) (if sOk a = true then upd sv a.toNatClampNeg 1 else sv) (tx) (ty) (sp) (tl) (tm)) := by
  refine CT.of (lv := [.ref m, .int a]) (by decide) (Nat.le_of_ble_eq_true rfl) rfl rfl ?_
  refine x_iload_n dX5_save_0 rfl ?_
  refine x_iconst (v := 0) dX5_save_1 rfl ?_
  refine x_iconst (v := 1) dX5_save_2 rfl ?_
  refine c_SR dX5_save_3 kX5_in q732 q731 (t_in _ _ _ _) rfl rfl (Nat.le_of_ble_eq_true rfl) ⟨Nat.le_refl _, Nat.le_refl _⟩ ?_
  refine x_if_ne (tgt := 12) dX5_save_6 (by decide) (fun c6 => ?_) (fun c6 => ?_)
  · have c6 := bI_ne c6
    rw [sOk_mIn] at c6
    obtain ⟨j, hj, rfl⟩ := sOk_of c6
    have hcl := nI_cl (j := j) (by omega)
    obtain ⟨g, hRg, hg⟩ := hM.slot
    refine x_aload_n dX5_save_12 rfl ?_
    refine x_get dX5_save_13 fX5_7 hM.ob rfl ?_
    refine x_iconst (v := 0) dX5_save_16 rfl ?_
    refine x_aload_n dX5_save_17 rfl ?_
    refine x_get dX5_save_18 fX5_19 hM.ob rfl ?_
    refine x_sipush (v := 300) dX5_save_21 rfl ?_
    refine x_iload_n dX5_save_24 rfl ?_
    refine x_imul dX5_save_25 ?_
    refine c_SCO dX5_save_26 kX5_copyState q725 q724 (t_copyState _ (fa := 0) (ta := 300 * j) hM.zr hRg rfl (by rw [show (300 : Int32) = nI 300 from rfl, pk_mul]) (by omega) (by omega) (by decide) (by decide) (by omega)) rfl rfl (Nat.le_of_ble_eq_true rfl) ⟨Nat.le_refl _, Nat.le_refl _⟩ (fun h1 hR1 he1 => ?_)
    have ob1 : h1 m = _ := (he1 m (by omega)).trans hM.ob
    obtain ⟨fs, hs1, hs2⟩ := hM.svd.kept (he1 _ (by omega))
    refine x_aload_n dX5_save_29 rfl ?_
    refine x_get dX5_save_30 fX5_22 ob1 rfl ?_
    refine x_iload_n dX5_save_33 rfl ?_
    refine x_iconst (v := 1) dX5_save_34 rfl ?_
    refine x_zast dX5_save_35 hs1 (ax_ixN (j := j) (by omega) (by decide)) rfl ?_
    have e2 : ∀ q, q ≠ m + 4 → q ≠ m + 5 → hset h1 (m + 5) (.inl (1, 2, .inl (upd fs j 1))) q = h q := fun q q1 q2 => (hset_n _ q2).trans (he1 q q1)
    have hM2 := hM.setSl (SlotAt.put (ζ := ζ) hj hg (hR1.kept (hset_n (a := m + 5) (.inl (1, 2, .inl (upd fs j 1))) (by omega)))) ⟨_, hset_s _ _ _, fun i hi => by unfold upd; rw [hs2 i hi]⟩ e2
    have hG2 : Fr m 8 h _ := fun q hq => e2 q (by omega) (by omega)
    refine x_aload_n dX5_save_36 rfl ?_
    refine x_get dX5_save_37 fX5_7 hM2.ob rfl ?_
    refine x_bipush (v := 7) dX5_save_40 rfl ?_
    refine z_ald (13) (0) dX5_save_42 hM2.z (show zAt 13 0 7 from ⟨by decide, rfl⟩) (show ¬ (7 : Int32) < 0 ∧ Int32.toNatClampNeg 7 = 7 by decide) ?_
    refine x_iret dX5_save_43 (Or.inl rfl) rfl (Nat.le_refl _) ?_
    rw [if_pos c6, if_pos c6, if_pos c6, hcl]
    exact ⟨rfl, _, rfl, hM2, hG2⟩
  · have c6 := bI_eq c6
    refine x_bipush (v := (-2)) dX5_save_9 rfl ?_
    refine x_iret dX5_save_11 (Or.inl rfl) rfl (Nat.le_refl _) ?_
    rw [sOk_mIn] at c6
    rw [if_neg (by rw [c6]; decide), if_neg (by rw [c6]; decide), if_neg (by rw [c6]; decide)]
    exact ⟨rfl, _, rfl, hM, Fr.rf⟩

set_option maxRecDepth 100000 in
set_option maxHeartbeats 4000000 in
theorem m_restore {st : Nat → Nat} (d : Nat) {z : Nat} {h : Nat → Option va_E} {m : Nat} {ζ : Sg} {n : Nat} {G S : Nat → Sg} {sv tx : Nat → Int32} {ty sp : Int32} {tl : Nat → Int32} {tm : Int32} (hM : MAt h m ζ n n G S sv tx ty sp tl tm) (a : Int32) : CT st (d + 3) yX5_restore cX5_restore 2 (some .int) [.ref m, .int a] (z, h) 0 0 (MMO (some (.int (rsR S sv a))) z m h (if rsO sv a = true then S a.toNatClampNeg else ζ) (if rsO sv a = true then rcN n else n) (if rsO sv a = true then rcN n else n) (if rsO sv a = true then rcG G n ζ else G) (S) (sv) (tx) (ty) (sp) (tl) (tm)) := by
  refine CT.of (lv := [.ref m, .int a]) (by decide) (Nat.le_of_ble_eq_true rfl) rfl rfl ?_
  refine x_iload_n dX5_restore_0 rfl ?_
  refine x_iconst (v := 0) dX5_restore_1 rfl ?_
  refine x_iconst (v := 1) dX5_restore_2 rfl ?_
  refine c_SR dX5_restore_3 kX5_in q732 q731 (t_in _ _ _ _) rfl rfl (Nat.le_of_ble_eq_true rfl) ⟨Nat.le_refl _, Nat.le_refl _⟩ ?_
  refine x_if_ne (tgt := 12) dX5_restore_6 (by decide) (fun c6 => ?_) (fun c6 => ?_)
  · have c6 := bI_ne c6
    rw [sOk_mIn] at c6
    obtain ⟨j, hj, rfl⟩ := sOk_of c6
    have hcl := nI_cl (j := j) (by omega)
    refine x_aload_n dX5_restore_12 rfl ?_
    refine x_get dX5_restore_13 fX5_22 hM.ob rfl ?_
    refine x_iload_n dX5_restore_16 rfl ?_
    refine e_zald dX5_restore_17 hM.svd (ax_ixN (j := j) (by omega) (by decide)) ?_
    refine x_if_ne (tgt := 24) dX5_restore_18 (by decide) (fun c18 => ?_) (fun c18 => ?_)
    · refine x_aload_n dX5_restore_24 rfl ?_
      refine c_VMMn dX5_restore_25 kX5_record iX5_record q738 (t_record _ hM) hM.ob rfl rfl rfl (Nat.le_of_ble_eq_true rfl) ⟨Nat.le_refl _, Nat.le_refl _⟩ (fun h1 hM1 hG1 => ?_)
      obtain ⟨g, hRg, hg⟩ := hM1.slot
      refine x_aload_n dX5_restore_28 rfl ?_
      refine x_get dX5_restore_29 fX5_19 hM1.ob rfl ?_
      refine x_sipush (v := 300) dX5_restore_32 rfl ?_
      refine x_iload_n dX5_restore_35 rfl ?_
      refine x_imul dX5_restore_36 ?_
      refine x_aload_n dX5_restore_37 rfl ?_
      refine x_get dX5_restore_38 fX5_7 hM1.ob rfl ?_
      refine x_iconst (v := 0) dX5_restore_41 rfl ?_
      refine c_SCO dX5_restore_42 kX5_copyState q725 q724 (t_copyState _ (fa := 300 * j) (ta := 0) hRg hM1.zr (by rw [show (300 : Int32) = nI 300 from rfl, pk_mul]) rfl (by omega) (by omega) (by decide) (by decide) (by omega)) rfl rfl (Nat.le_of_ble_eq_true rfl) ⟨Nat.le_refl _, Nat.le_refl _⟩ (fun h2 hR2 he2 => ?_)
      have hM2 := hM1.setZr (ζ' := S j) (hR2.to fun i hi => by rw [show i = 0 + i by omega, cpy_in _ _ _ _ hi, hg j hj c18 i hi, Nat.zero_add]) he2
      have hG2 : Fr m 8 _ h2 := fun q hq => he2 q (by omega)
      refine x_aload_n dX5_restore_45 rfl ?_
      refine x_get dX5_restore_46 fX5_7 hM2.ob rfl ?_
      refine x_bipush (v := 7) dX5_restore_49 rfl ?_
      refine z_ald (13) (0) dX5_restore_51 hM2.z (show zAt 13 0 7 from ⟨by decide, rfl⟩) (show ¬ (7 : Int32) < 0 ∧ Int32.toNatClampNeg 7 = 7 by decide) ?_
      refine x_iret dX5_restore_52 (Or.inl rfl) rfl (Nat.le_refl _) ?_
      have er : rsO sv (nI j) = true := by simp [rsO, c6, hcl, c18]
      simp only [if_pos er]
      rw [rsR, if_pos c6, hcl, if_neg c18]
      exact ⟨rfl, _, rfl, hM2, (hG1.tr hG2)⟩
    · refine x_bipush (v := (-5)) dX5_restore_21 rfl ?_
      refine x_iret dX5_restore_23 (Or.inl rfl) rfl (Nat.le_refl _) ?_
      have er : ¬ rsO sv (nI j) = true := by simp [rsO, hcl, c18]
      simp only [if_neg er]
      rw [rsR, if_pos c6, hcl, if_pos c18]
      exact ⟨rfl, _, rfl, hM, Fr.rf⟩
  · have c6 := bI_eq c6
    refine x_bipush (v := (-2)) dX5_restore_9 rfl ?_
    refine x_iret dX5_restore_11 (Or.inl rfl) rfl (Nat.le_refl _) ?_
    rw [sOk_mIn] at c6
    have er : ¬ rsO sv a = true := by simp [rsO, c6]
    simp only [if_neg er]
    rw [rsR, if_neg (by rw [c6]; decide)]
    exact ⟨rfl, _, rfl, hM, Fr.rf⟩
