theorem XAt.drop {h h' : Nat → Option va_E} {x : Nat} {σ : Sg} {H : Nat → Sg} {n : Nat} {sl : Nat → Sg} {sv : Nat → Int32} {T : Nat → Nat} {P : PD} {f g : Nat → Option Nat} (hX : XAt h x σ H n sl sv T P) (hf : h (x + 19) = some (qrefs f 7)) (hg : h' (x + 19) = some (qrefs g 7)) (e : ∀ q, q ≠ x + 19 → h' q = h q) (e6 : ∀ j, j < 6 → g j = f (j + 1)) (e0 : g 6 = f 0) : XAt h' x σ (hsh H) n sl sv T P := by
  obtain ⟨p, hp, a1, a2, a3, a4, a5, ⟨f', b1, b2⟩, a7, a8⟩ := hX
  have hff : f' = f := by
    have := b1.symm.trans hf
    unfold qrefs at this
    simp at this
    exact this
  subst hff
  have hlt : ∀ i, i < 7 → 1 ≤ p i ∧ p i ≤ 7 := hp.1
  refine ⟨fun i => if i < 6 then p (i + 1) else p 0, ⟨fun i hi => ?_, fun i j hi hj q => ?_, hp.2.2⟩, (e x (by omega)).trans a1, a2.kept (fun q _ _ => e q (by omega)), fun i hi => ?_, fun i hi => (a4 i hi).kept (fun q _ _ => e q (by omega)), a5.kept (fun q _ _ => e q (by omega)), ⟨g, hg, fun i hi => ?_⟩, qrefs_kept a7 (e _ (by omega)), a8.kept (e _ (by omega))⟩
  · dsimp only
    split
    · exact hlt _ (by omega)
    · exact hlt _ (by omega)
  · dsimp only at q
    split at q <;> split at q
    · have := hp.2.1 _ _ (by omega) (by omega) q; omega
    · have := hp.2.1 _ _ (by omega) (by omega) q; omega
    · have := hp.2.1 _ _ (by omega) (by omega) q; omega
    · omega
  · dsimp only [hsh]
    split
    · have h1 := hlt (i + 1) (by omega)
      exact (a3 (i + 1) (by omega)).kept (fun q _ _ => e q (by omega))
    · have h1 := hlt 0 (by omega)
      exact (a3 0 (by omega)).kept (fun q _ _ => e q (by omega))
  · dsimp only
    split
    · rw [e6 i (by omega)]
      exact b2 (i + 1) (by omega)
    · rw [show i = 6 by omega, e0]
      exact b2 0 (by omega)
theorem XAt.hist {h : Nat → Option va_E} {x : Nat} {σ : Sg} {H : Nat → Sg} {n : Nat} {sl : Nat → Sg} {sv : Nat → Int32} {T : Nat → Nat} {P : PD} (hX : XAt h x σ H n sl sv T P) : ∃ f, h (x + 19) = some (qrefs f 7) ∧ ∀ i, i < 7 → ∃ a vs, f i = some a ∧ h a = some (.inr (2, vs)) ∧ a ≠ x + 19 := by
  obtain ⟨p, hp, a1, a2, a3, a4, a5, ⟨f, b1, b2⟩, a7, a8⟩ := hX
  refine ⟨f, b1, fun i hi => ⟨_, _, b2 i hi, (a3 i hi).ob, ?_⟩⟩
  have := hp.1 i hi
  omega
set_option maxRecDepth 100000 in
set_option maxHeartbeats 4000000 in
theorem t_draft {st : Nat → Nat} (d : Nat) {z : Nat} {h : Nat → Option va_E} {x : Nat} {σ : Sg} {H : Nat → Sg} {n : Nat} {sl : Nat → Sg} {sv : Nat → Int32} {T : Nat → Nat} {P : PD} (hX : XAt h x σ H n sl sv T P)  : CT st (d + 4) yX4_draft cX4_draft 1 none [.ref x] (z, h) 0 0 (XMO (none) z x h σ (hup H n σ) n sl sv T P) := by
  refine CT.of (lv := [.ref x]) (by decide) (Nat.le_of_ble_eq_true rfl) rfl rfl ?_
  refine x_aload_n dX4_draft_0 rfl ?_
  refine x_get dX4_draft_1 fX4_23 hX.ob rfl ?_
  refine x_aload_n dX4_draft_4 rfl ?_
  refine x_get dX4_draft_5 fX4_27 hX.ob rfl ?_
  obtain ⟨a, b1, b2, hA, ⟨f, g1, g2⟩, hup1⟩ := hX.setH (i := n) (by have := hX.n6; omega)
  refine X_ald dX4_draft_8 g1 (ax_ixN (j := n) (by have := hX.n6; omega) (by decide)) g2 ?_
  refine x_aload_n dX4_draft_9 rfl ?_
  refine x_get dX4_draft_10 fX4_10 hX.ob rfl ?_
  refine c_VMn dX4_draft_13 kX2_become iX2_become q256 (t_become _ hA hX.main (Or.inl (by omega))) hA.ob rfl rfl rfl (Nat.le_of_ble_eq_true rfl) ⟨Nat.le_refl _, Nat.le_refl _⟩ (fun h1 hO1 hG1 => ?_)
  have hX1 := hup1 h1 _ hO1 hG1
  have hF1 : Fr x 166 _ h1 := hG1.wide (by omega) (by omega)
  refine x_vret dX4_draft_16 rfl rfl (Nat.le_refl _) ?_
  exact ⟨rfl, _, rfl, hX1, hF1⟩

set_option maxRecDepth 100000 in
set_option maxHeartbeats 4000000 in
theorem L_dropOldest {st : Nat → Nat} (d : Nat) {z : Nat} {h : Nat → Option va_E} {x : Nat} {σ : Sg} {H : Nat → Sg} {n : Nat} {sl : Nat → Sg} {sv : Nat → Int32} {T : Nat → Nat} {P : PD} (hX : XAt h x σ H n sl sv T P) {f : Nat → Option Nat} {r0 : Nat} (hf : h (x + 19) = some (qrefs f 7)) (hf7 : ∀ i, i < 7 → ∃ a vs, f i = some a ∧ h a = some (.inr (2, vs)) ∧ a ≠ x + 19) (hr0 : f 0 = some r0) : ∀ (k : Nat) (i : Nat) (g : Nat → Option Nat) (hq1 : Nat → Option va_E), i + k = 6 → hq1 (x + 19) = some (qrefs g 7) → (∀ q, q ≠ x + 19 → hq1 q = h q) → (∀ j, j < 7 → g j = if j < i then f (j + 1) else f j) → Ev st (d + 1) yX4_dropOldest cX4_dropOldest 3 none (z, h) 0 0 (XMO (none) z x h σ (hsh H) n sl sv T P) 9 [.ref x, .ref r0, .int (nI i)] [] (z, hq1) 0 0 := by
  intro k
  induction k with
  | zero =>
    intro i g hq1 hik hg0 he1 hg1
    refine x_iload_n dX4_dropOldest_9 rfl ?_
    refine x_bipush (v := 6) dX4_dropOldest_10 rfl ?_
    refine x_icmp_ge (tgt := 35) dX4_dropOldest_12 (by decide) (fun c12 => ?_) (fun c12 => absurd (nI_le (a := 6) (b := i) (by omega) (by omega)) c12)
    refine x_aload_n dX4_dropOldest_35 rfl ?_
    refine x_get dX4_dropOldest_36 fX4_23 ((he1 x (by omega)).trans hX.ob) rfl ?_
    refine x_bipush (v := 6) dX4_dropOldest_39 rfl ?_
    refine x_aload_n dX4_dropOldest_41 rfl ?_
    obtain ⟨a0, vs, ha, hav, hne⟩ := hf7 0 (by omega)
    obtain rfl : a0 = r0 := Option.some.inj (ha.symm.trans hr0)
    refine x_aast dX4_dropOldest_42 hg0 (ax_ixN (j := 6) (by decide) (by decide)) ((he1 _ hne).trans hav) ?_
    refine x_vret dX4_dropOldest_43 rfl rfl (Nat.le_refl _) ?_
    refine ⟨rfl, _, rfl, hX.drop hf (hset_s _ _ _) (fun q hq => (hset_n _ hq).trans (he1 q hq)) (fun j hj => ?_) ?_, fun q hq => (hset_n _ (by omega)).trans (he1 q (by omega))⟩
    · show va_up g 6 (some a0) j = _
      unfold va_up
      rw [if_neg (by omega), hg1 j (by omega), if_pos (by omega)]
    · show va_up g 6 (some a0) 6 = _
      unfold va_up
      rw [if_pos rfl]; exact ha.symm
  | succ k ih =>
    intro i g hq1 hik hg0 he1 hg1
    refine x_iload_n dX4_dropOldest_9 rfl ?_
    refine x_bipush (v := 6) dX4_dropOldest_10 rfl ?_
    refine x_icmp_ge (tgt := 35) dX4_dropOldest_12 (by decide) (fun c12 => absurd c12 (nI_ge (a := i) (b := 6) (by omega) (by omega))) (fun c12 => ?_)
    refine x_aload_n dX4_dropOldest_15 rfl ?_
    refine x_get dX4_dropOldest_16 fX4_23 ((he1 x (by omega)).trans hX.ob) rfl ?_
    refine x_iload_n dX4_dropOldest_19 rfl ?_
    refine x_aload_n dX4_dropOldest_20 rfl ?_
    refine x_get dX4_dropOldest_21 fX4_23 ((he1 x (by omega)).trans hX.ob) rfl ?_
    refine x_iload_n dX4_dropOldest_24 rfl ?_
    refine x_iconst (v := 1) dX4_dropOldest_25 rfl ?_
    refine x_iadd dX4_dropOldest_26 ?_
    obtain ⟨a, vs, ha, hav, hne⟩ := hf7 (i + 1) (by omega)
    refine X_ald dX4_dropOldest_27 hg0 (by rw [nI_1]; exact ax_ixN (j := i + 1) (by omega) (by decide)) ((hg1 (i + 1) (by omega)).trans (by rw [if_neg (by omega)]; exact ha)) ?_
    refine x_aast dX4_dropOldest_28 hg0 (ax_ixN (j := i) (by omega) (by decide)) ((he1 a hne).trans hav) ?_
    refine e_inc (lv' := fun w9 => [.ref x, .ref r0, .int w9]) dX4_dropOldest_29 rfl rfl (fun _ => rfl) (fun v1 ev1 => ?_)
    refine x_goto (tgt := 9) dX4_dropOldest_32 (by decide) ?_
    obtain rfl := inc1 ev1
    refine ih (i + 1) _ _ (by omega) (hset_s _ _ _) (fun q hq => (hset_n _ hq).trans (he1 q hq)) (fun j hj => ?_)
    unfold va_up
    by_cases hji : j = i
    · rw [if_pos hji, if_pos (by omega), hji]; exact ha.symm
    · rw [if_neg hji, hg1 j hj]
      by_cases hlt : j < i
      · rw [if_pos hlt, if_pos (by omega)]
      · rw [if_neg hlt, if_neg (by omega)]

set_option maxRecDepth 100000 in
set_option maxHeartbeats 4000000 in
theorem t_dropOldest {st : Nat → Nat} (d : Nat) {z : Nat} {h : Nat → Option va_E} {x : Nat} {σ : Sg} {H : Nat → Sg} {n : Nat} {sl : Nat → Sg} {sv : Nat → Int32} {T : Nat → Nat} {P : PD} (hX : XAt h x σ H n sl sv T P)  : CT st (d + 1) yX4_dropOldest cX4_dropOldest 3 none [.ref x] (z, h) 0 0 (XMO (none) z x h σ (hsh H) n sl sv T P) := by
  refine CT.of (lv := [.ref x, .null, .null]) (by decide) (Nat.le_of_ble_eq_true rfl) rfl rfl ?_
  refine x_aload_n dX4_dropOldest_0 rfl ?_
  refine x_get dX4_dropOldest_1 fX4_23 hX.ob rfl ?_
  refine x_iconst (v := 0) dX4_dropOldest_4 rfl ?_
  obtain ⟨f, hf, hf7⟩ := hX.hist
  obtain ⟨r0, vs, hr0, -, -⟩ := hf7 0 (by decide)
  refine X_ald dX4_dropOldest_5 hf (ax_ixN (j := 0) (by decide) (by decide)) hr0 ?_
  refine x_astore_n dX4_dropOldest_6 (Nat.le_of_ble_eq_true rfl) rfl ?_
  refine x_iconst (v := 0) dX4_dropOldest_7 rfl ?_
  refine e_ist_n (lv' := fun w9 => [.ref x, .ref r0, .int w9]) dX4_dropOldest_8 (Nat.le_of_ble_eq_true rfl) rfl (fun _ => rfl) (fun v1 ev1 => ?_)
  subst ev1
  exact L_dropOldest d hX hf hf7 hr0 6 0 f h rfl hf (fun _ _ => rfl) (fun j _ => by rw [if_neg (by omega)])

set_option maxRecDepth 100000 in
set_option maxHeartbeats 4000000 in
theorem t_recorded {st : Nat → Nat} (d : Nat) {z : Nat} {h : Nat → Option va_E} {x : Nat} {σ : Sg} {H : Nat → Sg} {n : Nat} {sl : Nat → Sg} {sv : Nat → Int32} {T : Nat → Nat} {P : PD} (hX : XAt h x σ H n sl sv T P) (v : Int32) : CT st (d + 2) yX4_recorded cX4_recorded 2 (some .int) [.ref x, .int v] (z, h) 0 0 (XMO (some (.int v)) z x h σ (recH v H n) (recN v n) sl sv T P) := by
  refine CT.of (lv := [.ref x, .int v]) (by decide) (Nat.le_of_ble_eq_true rfl) rfl rfl ?_
  refine x_iload_n dX4_recorded_0 rfl ?_
  refine x_if_ge (tgt := 6) dX4_recorded_1 (by decide) (fun c1 => ?_) (fun c1 => ?_)
  · refine x_aload_n dX4_recorded_6 rfl ?_
    refine x_get dX4_recorded_7 fX4_27 hX.ob rfl ?_
    refine x_bipush (v := 6) dX4_recorded_10 rfl ?_
    refine x_icmp_ge (tgt := 28) dX4_recorded_12 (by decide) (fun c12 => ?_) (fun c12 => ?_)
    · refine x_aload_n dX4_recorded_28 rfl ?_
      refine c_XX dX4_recorded_29 kX4_dropOldest iX4_dropOldest q286 hX (t_dropOldest _ hX) rfl rfl rfl (Nat.le_of_ble_eq_true rfl) ⟨Nat.le_refl _, Nat.le_refl _⟩ (fun h1 hX1 hF1 => ?_)
      refine x_iload_n dX4_recorded_32 rfl ?_
      refine x_iret dX4_recorded_33 (Or.inl rfl) rfl (Nat.le_refl _) ?_
      refine ⟨rfl, _, rfl, ?_, hF1⟩
      unfold recH recN
      have hge : ¬ n < 6 := fun q => by have := nI_lt (a := n) (b := 6) q (by decide); exact absurd c12 (Int32.not_le.mpr this)
      rw [if_pos c1, if_pos c1, if_neg hge, if_neg hge]
      exact hX1
    · refine x_aload_n dX4_recorded_15 rfl ?_
      refine x_dup dX4_recorded_16 rfl ?_
      refine x_get dX4_recorded_17 fX4_27 hX.ob rfl ?_
      refine x_iconst (v := 1) dX4_recorded_20 rfl ?_
      refine x_iadd dX4_recorded_21 ?_
      refine X_putN (m := (n + 1)) dX4_recorded_22 fX4_27 hX (nI_1 n) (by have := hX.n6; have := (nI_ltI (a := n) (b := 6) (by omega) (by decide)).mp (Int32.not_le.mp c12); omega) (fun h2 hX2 hF2 => ?_)
      refine x_goto (tgt := 32) dX4_recorded_25 (by decide) ?_
      refine x_iload_n dX4_recorded_32 rfl ?_
      refine x_iret dX4_recorded_33 (Or.inl rfl) rfl (Nat.le_refl _) ?_
      refine ⟨rfl, _, rfl, ?_, hF2⟩
      unfold recH recN
      have hlt : n < 6 := by have := hX.n6; exact (nI_ltI (a := n) (b := 6) (by omega) (by decide)).mp (Int32.not_le.mp c12)
      rw [if_pos c1, if_pos c1, if_pos hlt, if_pos hlt]
      exact hX2
  · refine x_iload_n dX4_recorded_4 rfl ?_
    refine x_iret dX4_recorded_5 (Or.inl rfl) rfl (Nat.le_refl _) ?_
    refine ⟨rfl, _, rfl, ?_, Fr.rf⟩
    have hv : ¬ (0 : Int32) ≤ v := c1
    unfold recH recN
    rw [if_neg hv, if_neg hv]
    exact hX
