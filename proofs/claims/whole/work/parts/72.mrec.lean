def shf (g : Nat → Int32) (i : Nat) : Nat → Int32 := fun b => if b < i then g (b + 300) else g b
theorem shf_s (g : Nat → Int32) (i q : Nat) : upd (shf g i) i (shf g i (i + 300)) q = shf g (i + 1) q := by
  unfold upd shf
  by_cases h : q = i
  · subst h
    rw [if_pos rfl, if_neg (by omega), if_pos (by omega)]
  · rw [if_neg h]
    by_cases h1 : q < i
    · rw [if_pos h1, if_pos (by omega)]
    · rw [if_neg h1, if_neg (by omega)]
theorem PastAt.put {h' : Nat → Option va_E} {a n : Nat} {G : Nat → Sg} {g : Nat → Int32} {ζ : Sg} (hn : n < 6) (hg : ∀ k, k < n → ∀ i, i < 300 → g (300 * k + i) = encZ (G k) i) (H : RwAt h' 0 a 1800 (cpy (encZ ζ) 0 g (300 * n) 300)) : PastAt h' a (n + 1) (hup G n ζ) := by
  refine ⟨_, H, fun k hk i hi => ?_⟩
  by_cases q : k = n
  · subst q
    rw [cpy_in _ _ _ _ hi, Nat.zero_add, hup_self]
  · rw [cpy_out _ _ _ _ (by omega), hg k (by omega) i hi, hup, if_neg q]
theorem PastAt.shift {h' : Nat → Option va_E} {a : Nat} {G : Nat → Sg} {g : Nat → Int32} {ζ : Sg} (hg : ∀ k, k < 6 → ∀ i, i < 300 → g (300 * k + i) = encZ (G k) i) (H : RwAt h' 0 a 1800 (cpy (encZ ζ) 0 (shf g 1500) (300 * 5) 300)) : PastAt h' a 6 (hsh (hup G 6 ζ)) := by
  refine ⟨_, H, fun k hk i hi => ?_⟩
  by_cases q : k = 5
  · subst q
    rw [cpy_in _ _ _ _ hi, Nat.zero_add, hsh, if_pos (by omega), hup_self]
  · rw [cpy_out _ _ _ _ (by omega), shf, if_pos (by omega), show 300 * k + i + 300 = 300 * (k + 1) + i by omega, hg (k + 1) (by omega) i hi, hsh, if_pos (by omega), hup, if_neg (by omega)]
set_option maxRecDepth 100000 in
set_option maxHeartbeats 4000000 in
theorem L_copyState {st : Nat → Nat} (d : Nat) {z : Nat} {h : Nat → Option va_E} {a b la lb fa ta : Nat} {f g : Nat → Int32} {x t : Int32} (Ha : RwAt h 0 a la f) (Hb : RwAt h 0 b lb g) (hx : x = nI fa) (ht : t = nI ta) (h1 : fa + 300 ≤ la) (h2 : ta + 300 ≤ lb) (hl : la < 2 ^ 30) (hl2 : lb < 2 ^ 30) (hne : a ≠ b)  : ∀ (k : Nat) (i : Nat) (hq1 : Nat → Option va_E), i + k = 300 → RwAt hq1 0 b lb (cpy f fa g ta i) → (∀ q, q ≠ b → hq1 q = h q) → Ev st (d + 1) yX5_copyState cX5_copyState 5 none (z, h) 0 0 (CO z b lb h (cpy f fa g ta 300)) 3 [.ref a, .int x, .ref b, .int t, .int (nI i)] [] (z, hq1) 0 0 := by
  subst hx
  subst ht
  intro k
  induction k with
  | zero =>
    intro i hq1 hik HQ he
    refine x_iload dX5_copyState_3 rfl ?_
    refine x_sipush (v := 300) dX5_copyState_5 rfl ?_
    refine x_icmp_ge (tgt := 29) dX5_copyState_8 (by decide) (fun c8 => ?_) (fun c8 => absurd (nI_le (a := 300) (b := i) (by omega) (by omega)) c8)
    refine x_vret dX5_copyState_29 rfl rfl (Nat.le_refl _) ?_
    obtain rfl : i = 300 := by omega
    exact ⟨rfl, _, rfl, HQ, he⟩
  | succ k ih =>
    intro i hq1 hik HQ he
    refine x_iload dX5_copyState_3 rfl ?_
    refine x_sipush (v := 300) dX5_copyState_5 rfl ?_
    refine x_icmp_ge (tgt := 29) dX5_copyState_8 (by decide) (fun c8 => absurd c8 (nI_ge (a := i) (b := 300) (by omega) (by omega))) (fun c8 => ?_)
    refine x_aload_n dX5_copyState_11 rfl ?_
    refine x_iload_n dX5_copyState_12 rfl ?_
    refine x_iload dX5_copyState_13 rfl ?_
    refine x_iadd dX5_copyState_15 ?_
    refine x_aload_n dX5_copyState_16 rfl ?_
    refine x_iload_n dX5_copyState_17 rfl ?_
    refine x_iload dX5_copyState_18 rfl ?_
    refine x_iadd dX5_copyState_20 ?_
    refine e_ald dX5_copyState_21 (Ha.kept (he a hne)) (show ax_ix _ la (fa + i) from ?_) ?_
    · rw [nI_add]
      exact ax_ixN (by omega) (by omega)
    refine e_ast dX5_copyState_22 HQ (show ax_ix _ lb (ta + i) from ?_) (fun h1 hR1 he1 => ?_)
    · rw [nI_add]
      exact ax_ixN (by omega) (by omega)
    refine e_inc (lv' := fun w9 => [.ref a, .int (nI fa), .ref b, .int (nI ta), .int w9]) dX5_copyState_23 rfl rfl (fun _ => rfl) (fun v1 ev1 => ?_)
    refine x_goto (tgt := 3) dX5_copyState_26 (by decide) ?_
    obtain rfl := inc1 ev1
    exact ih (i + 1) h1 (by omega) (hR1.to fun q _ => cpy_s f fa g ta i q) (fun q hq => (he1 q hq).trans (he q hq))

set_option maxRecDepth 100000 in
set_option maxHeartbeats 4000000 in
theorem t_copyState {st : Nat → Nat} (d : Nat) {z : Nat} {h : Nat → Option va_E} {a b la lb fa ta : Nat} {f g : Nat → Int32} {x t : Int32} (Ha : RwAt h 0 a la f) (Hb : RwAt h 0 b lb g) (hx : x = nI fa) (ht : t = nI ta) (h1 : fa + 300 ≤ la) (h2 : ta + 300 ≤ lb) (hl : la < 2 ^ 30) (hl2 : lb < 2 ^ 30) (hne : a ≠ b)  : CT st (d + 1) yX5_copyState cX5_copyState 5 none [.ref a, .int x, .ref b, .int t] (z, h) 0 0 (CO z b lb h (cpy f fa g ta 300)) := by
  refine CT.of (lv := [.ref a, .int x, .ref b, .int t, .null]) (by decide) (Nat.le_of_ble_eq_true rfl) rfl rfl ?_
  refine x_iconst (v := 0) dX5_copyState_0 rfl ?_
  refine e_ist (lv' := fun w9 => [.ref a, .int x, .ref b, .int t, .int w9]) dX5_copyState_1 (Nat.le_of_ble_eq_true rfl) rfl (fun _ => rfl) (fun v1 ev1 => ?_)
  subst ev1
  exact L_copyState d Ha Hb hx ht h1 h2 hl hl2 hne 300 0 h (by omega) (Hb.to fun q _ => (cpy_out f fa g ta (by omega)).symm) (fun _ _ => rfl)

set_option maxRecDepth 100000 in
set_option maxHeartbeats 4000000 in
theorem L_record {st : Nat → Nat} (d : Nat) {z : Nat} {h : Nat → Option va_E} {m : Nat} {ζ : Sg} {n : Nat} {G S : Nat → Sg} {sv tx : Nat → Int32} {ty sp : Int32} {tl : Nat → Int32} {tm : Int32} {g : Nat → Int32} {fin : Option Value → Hp → Prop} (hend : ∀ h1, MAt h1 m ζ n 0 G S sv tx ty sp tl tm → RwAt h1 0 (m + 3) 1800 (shf g 1500) → Fr m 8 h h1 → Ev st (d + 2) yX5_record cX5_record 2 none (z, h) 0 0 (fin) 40 [.ref m, .int (nI 1500)] [] (z, h1) 0 0) : ∀ (k : Nat) (i : Nat) (hq1 : Nat → Option va_E), i + k = 1500 → MAt hq1 m ζ n 0 G S sv tx ty sp tl tm → RwAt hq1 0 (m + 3) 1800 (shf g i) → Fr m 8 h hq1 → Ev st (d + 2) yX5_record cX5_record 2 none (z, h) 0 0 (fin) 11 [.ref m, .int (nI i)] [] (z, hq1) 0 0 := by
  intro k
  induction k with
  | zero =>
    intro i hq1 hik HQ1 HR hFQ
    refine x_iload_n dX5_record_11 rfl ?_
    refine x_sipush (v := 1500) dX5_record_12 rfl ?_
    refine x_icmp_ge (tgt := 40) dX5_record_15 (by decide) (fun c15 => ?_) (fun c15 => absurd (nI_le (a := 1500) (b := i) (by omega) (by omega)) c15)
    obtain rfl : i = 1500 := by omega
    exact hend hq1 HQ1 HR hFQ
  | succ k ih =>
    intro i hq1 hik HQ1 HR hFQ
    refine x_iload_n dX5_record_11 rfl ?_
    refine x_sipush (v := 1500) dX5_record_12 rfl ?_
    refine x_icmp_ge (tgt := 40) dX5_record_15 (by decide) (fun c15 => absurd c15 (nI_ge (a := i) (b := 1500) (by omega) (by omega))) (fun c15 => ?_)
    refine x_aload_n dX5_record_18 rfl ?_
    refine x_get dX5_record_19 fX5_16 HQ1.ob rfl ?_
    refine x_iload_n dX5_record_22 rfl ?_
    refine x_aload_n dX5_record_23 rfl ?_
    refine x_get dX5_record_24 fX5_16 HQ1.ob rfl ?_
    refine x_iload_n dX5_record_27 rfl ?_
    refine x_sipush (v := 300) dX5_record_28 rfl ?_
    refine x_iadd dX5_record_31 ?_
    refine e_ald dX5_record_32 HR (show ax_ix _ 1800 (i + 300) from ?_) ?_
    · rw [show (300 : Int32) = nI 300 from rfl, nI_add]
      exact ax_ixN (by omega) (by omega)
    refine e_ast dX5_record_33 HR (ax_ixN (j := i) (by omega) (by omega)) (fun h1 hR1 he1 => ?_)
    have hM1 := HQ1.setPast (nv' := 0) (G' := G) ⟨_, hR1, fun k hk => absurd hk (by omega)⟩ he1
    refine e_inc (lv' := fun w9 => [.ref m, .int w9]) dX5_record_34 rfl rfl (fun _ => rfl) (fun v1 ev1 => ?_)
    refine x_goto (tgt := 11) dX5_record_37 (by decide) ?_
    obtain rfl := inc1 ev1
    exact ih (i + 1) h1 (by omega) hM1 (hR1.to fun q _ => shf_s g i q) (hFQ.tr fun q hq => he1 q (by omega))

set_option maxRecDepth 100000 in
set_option maxHeartbeats 4000000 in
theorem t_record {st : Nat → Nat} (d : Nat) {z : Nat} {h : Nat → Option va_E} {m : Nat} {ζ : Sg} {n : Nat} {G S : Nat → Sg} {sv tx : Nat → Int32} {ty sp : Int32} {tl : Nat → Int32} {tm : Int32} (hM : MAt h m ζ n n G S sv tx ty sp tl tm)  : CT st (d + 2) yX5_record cX5_record 2 none [.ref m] (z, h) 0 0 (MMO (none) z m h (ζ) (rcN n) (rcN n) (rcG G n ζ) (S) (sv) (tx) (ty) (sp) (tl) (tm)) := by
  obtain ⟨g, hRg, hg⟩ := hM.past
  rcases Nat.lt_or_ge n 6 with hlt | hge
  · refine CT.of (lv := [.ref m, .null]) (by decide) (Nat.le_of_ble_eq_true rfl) rfl rfl ?_
    refine x_aload_n dX5_record_0 rfl ?_
    refine x_get dX5_record_1 fX5_36 hM.ob rfl ?_
    refine x_bipush (v := 6) dX5_record_4 rfl ?_
    refine x_icmp_ne (tgt := 50) dX5_record_6 (by decide) (fun c6 => ?_) (fun c6 => absurd c6 (show ¬ nI n = 6 from fun q => absurd (congrArg Int32.toNatClampNeg q) (by rw [nI_clamp (by omega)]; have : Int32.toNatClampNeg 6 = 6 := rfl; omega)))
    refine x_aload_n dX5_record_50 rfl ?_
    refine x_get dX5_record_51 fX5_7 hM.ob rfl ?_
    refine x_iconst (v := 0) dX5_record_54 rfl ?_
    refine x_aload_n dX5_record_55 rfl ?_
    refine x_get dX5_record_56 fX5_16 hM.ob rfl ?_
    refine x_sipush (v := 300) dX5_record_59 rfl ?_
    refine x_aload_n dX5_record_62 rfl ?_
    refine x_get dX5_record_63 fX5_36 hM.ob rfl ?_
    refine x_imul dX5_record_66 ?_
    refine c_SCO dX5_record_67 kX5_copyState q725 q724 (t_copyState _ (fa := 0) (ta := 300 * n) hM.zr hRg rfl (by rw [show (300 : Int32) = nI 300 from rfl, pk_mul]) (by omega) (by omega) (by decide) (by decide) (by omega)) rfl rfl (Nat.le_of_ble_eq_true rfl) ⟨Nat.le_refl _, Nat.le_refl _⟩ (fun h1 hR1 he1 => ?_)
    have hM1 := hM.setPast (PastAt.put hlt hg hR1) he1
    have hG1 : Fr m 8 _ h1 := fun q hq => he1 q (by omega)
    refine x_aload_n dX5_record_70 rfl ?_
    refine x_dup dX5_record_71 rfl ?_
    refine x_get dX5_record_72 fX5_36 hM1.ob rfl ?_
    refine x_iconst (v := 1) dX5_record_75 rfl ?_
    refine x_iadd dX5_record_76 ?_
    rw [show nI n + 1 = nI (n + 1) from nI_1 n]
    refine M_put (n + 1) (ty) (sp) (tm) dX5_record_77 fX5_36 hM1 (Nat.le_of_ble_eq_true rfl) rfl (by omega) (fun h2 hM2 hf2 => ?_)
    have hG2 : Fr m 8 _ h2 := fun q hq => hf2 q (by omega)
    refine x_vret dX5_record_80 rfl rfl (Nat.le_refl _) ?_
    exact ⟨rfl, _, rfl, by rw [rcN, rcG, if_pos hlt, if_pos hlt]; exact hM2, (hG1.tr hG2)⟩
  · obtain rfl : n = 6 := by have := hM.n6; omega
    refine CT.of (lv := [.ref m, .null]) (by decide) (Nat.le_of_ble_eq_true rfl) rfl rfl ?_
    refine x_aload_n dX5_record_0 rfl ?_
    refine x_get dX5_record_1 fX5_36 hM.ob rfl ?_
    refine x_bipush (v := 6) dX5_record_4 rfl ?_
    refine x_icmp_ne (tgt := 50) dX5_record_6 (by decide) (fun c6 => absurd (show nI 6 = 6 from rfl) c6) (fun c6 => ?_)
    refine x_iconst (v := 0) dX5_record_9 rfl ?_
    refine e_ist_n (lv' := fun w9 => [.ref m, .int w9]) dX5_record_10 (Nat.le_of_ble_eq_true rfl) rfl (fun _ => rfl) (fun v1 ev1 => ?_)
    subst ev1
    refine L_record d (G := G) (g := g) (fun h1 hM1 hRs hF1 => ?_) 1500 0 h (by omega) (hM.setPast ⟨g, hRg, fun k hk => absurd hk (by omega)⟩ (fun _ _ => rfl)) (hRg.to fun q _ => by unfold shf; rw [if_neg (by omega)]) Fr.rf
    refine x_aload_n dX5_record_40 rfl ?_
    refine x_dup dX5_record_41 rfl ?_
    refine x_get dX5_record_42 fX5_36 hM1.ob rfl ?_
    refine x_iconst (v := 1) dX5_record_45 rfl ?_
    refine x_isub dX5_record_46 ?_
    rw [show nI 6 - 1 = nI 5 from rfl]
    refine M_put (5) (ty) (sp) (tm) dX5_record_47 fX5_36 hM1 (Nat.le_of_ble_eq_true rfl) rfl (by omega) (fun h2 hM2 hf2 => ?_)
    have hG2 : Fr m 8 _ h2 := fun q hq => hf2 q (by omega)
    refine x_aload_n dX5_record_50 rfl ?_
    refine x_get dX5_record_51 fX5_7 hM2.ob rfl ?_
    refine x_iconst (v := 0) dX5_record_54 rfl ?_
    refine x_aload_n dX5_record_55 rfl ?_
    refine x_get dX5_record_56 fX5_16 hM2.ob rfl ?_
    refine x_sipush (v := 300) dX5_record_59 rfl ?_
    refine x_aload_n dX5_record_62 rfl ?_
    refine x_get dX5_record_63 fX5_36 hM2.ob rfl ?_
    refine x_imul dX5_record_66 ?_
    refine c_SCO dX5_record_67 kX5_copyState q725 q724 (t_copyState _ (fa := 0) (ta := 300 * 5) hM2.zr (hRs.kept (hf2 _ (by omega))) rfl (by rw [show (300 : Int32) = nI 300 from rfl, pk_mul]) (by omega) (by omega) (by decide) (by decide) (by omega)) rfl rfl (Nat.le_of_ble_eq_true rfl) ⟨Nat.le_refl _, Nat.le_refl _⟩ (fun h3 hR3 he3 => ?_)
    have hM3 := hM2.setPast (PastAt.shift hg hR3) he3
    have hG3 : Fr m 8 _ h3 := fun q hq => he3 q (by omega)
    refine x_aload_n dX5_record_70 rfl ?_
    refine x_dup dX5_record_71 rfl ?_
    refine x_get dX5_record_72 fX5_36 hM3.ob rfl ?_
    refine x_iconst (v := 1) dX5_record_75 rfl ?_
    refine x_iadd dX5_record_76 ?_
    rw [show nI 5 + 1 = nI 6 from rfl]
    refine M_put (6) (ty) (sp) (tm) dX5_record_77 fX5_36 hM3 (Nat.le_of_ble_eq_true rfl) rfl (by omega) (fun h4 hM4 hf4 => ?_)
    have hG4 : Fr m 8 _ h4 := fun q hq => hf4 q (by omega)
    refine x_vret dX5_record_80 rfl rfl (Nat.le_refl _) ?_
    exact ⟨rfl, _, rfl, by rw [rcN, rcG, if_neg (by omega), if_neg (by omega)]; exact hM4, hF1.tr ((hG2.tr hG3).tr hG4)⟩
