/-! the class's constructor: n1 offices of the history made, n2 of the slots -/
def I1 (h : Nat → Option va_E) (x n1 n2 : Nat) : Prop :=
  h x = some (.inr (4, [.ref (x + 1), .ref (x + 17), .ref (x + 19), .int 0, .ref (x + 20), .ref (x + 21)])) ∧ OffAt h (x + 1) z0 ∧ PadAt h (x + 17) (fun _ => 0) (0, 0, 32, 0, 0, 0) ∧
    (∃ f, h (x + 19) = some (qrefs f 7) ∧ ∀ i, i < n1 → f i = some (x + 22 + 16 * i)) ∧ (∃ f, h (x + 20) = some (qrefs f 2) ∧ ∀ i, i < n2 → f i = some (x + 134 + 16 * i)) ∧ RwAt h 1 (x + 21) 2 (fun _ => 0) ∧
    (∀ i, i < n1 → OffAt h (x + 22 + 16 * i) z0) ∧ ∀ i, i < n2 → OffAt h (x + 134 + 16 * i) z0
theorem qk {h h' : Nat → Option va_E} {N m a : Nat} {g : Nat → Option Nat} (q : ∃ f, h a = some (qrefs f N) ∧ ∀ i, i < m → f i = g i) (e : h' a = h a) : ∃ f, h' a = some (qrefs f N) ∧ ∀ i, i < m → f i = g i := by
  obtain ⟨f, h1, h2⟩ := q
  exact ⟨f, e.trans h1, h2⟩
theorem I1.kept {h h' : Nat → Option va_E} {x n1 n2 z : Nat} (H : I1 h x n1 n2) (hz : x + 22 + 16 * n1 ≤ z) (hz2 : n2 = 0 ∨ x + 134 + 16 * n2 ≤ z) (e : ∀ q, q < z → h' q = h q) : I1 h' x n1 n2 := by
  obtain ⟨a1, a2, a3, a4, a5, a6, a7, a8⟩ := H
  exact ⟨(e _ (by omega)).trans a1, a2.kept (fun q _ _ => e q (by omega)), a3.kept (fun q _ _ => e q (by omega)), qk a4 (e (x + 19) (by omega)), qk a5 (e (x + 20) (by omega)), a6.kept (e _ (by omega)), fun i hi => (a7 i hi).kept (fun q _ _ => e q (by omega)), fun i hi => (a8 i hi).kept (fun q _ _ => e q (by omega))⟩
theorem I1.add1 {h : Nat → Option va_E} {x n1 : Nat} {f : Nat → Option Nat} (H : I1 h x n1 0) (hf : h (x + 19) = some (qrefs f 7)) (hf2 : ∀ i, i < n1 → f i = some (x + 22 + 16 * i)) (hO : OffAt h (x + 22 + 16 * n1) z0) : I1 (hset h (x + 19) (qrefs (va_up f n1 (some (x + 22 + 16 * n1))) 7)) x (n1 + 1) 0 := by
  obtain ⟨a1, a2, a3, a4, a5, a6, a7, a8⟩ := H
  have e : ∀ q, q ≠ x + 19 → hset h (x + 19) (qrefs (va_up f n1 (some (x + 22 + 16 * n1))) 7) q = h q := fun q hq => hset_n _ hq
  refine ⟨(e _ (by omega)).trans a1, a2.kept (fun q _ _ => e q (by omega)), a3.kept (fun q _ _ => e q (by omega)), ⟨_, hset_s _ _ _, fun i hi => ?_⟩, qk a5 (e (x + 20) (by omega)), a6.kept (e _ (by omega)), fun i hi => ?_, fun i hi => absurd hi (by omega)⟩
  · unfold va_up
    by_cases q : i = n1
    · rw [if_pos q, q]
    · rw [if_neg q]
      exact hf2 i (by omega)
  · by_cases q : i = n1
    · rw [q]
      exact hO.kept (fun q _ _ => e q (by omega))
    · exact (a7 i (by omega)).kept (fun q _ _ => e q (by omega))
theorem I1.add2 {h : Nat → Option va_E} {x n2 : Nat} {f : Nat → Option Nat} (H : I1 h x 7 n2) (hf : h (x + 20) = some (qrefs f 2)) (hf2 : ∀ i, i < n2 → f i = some (x + 134 + 16 * i)) (hO : OffAt h (x + 134 + 16 * n2) z0) : I1 (hset h (x + 20) (qrefs (va_up f n2 (some (x + 134 + 16 * n2))) 2)) x 7 (n2 + 1) := by
  obtain ⟨a1, a2, a3, a4, a5, a6, a7, a8⟩ := H
  have e : ∀ q, q ≠ x + 20 → hset h (x + 20) (qrefs (va_up f n2 (some (x + 134 + 16 * n2))) 2) q = h q := fun q hq => hset_n _ hq
  refine ⟨(e _ (by omega)).trans a1, a2.kept (fun q _ _ => e q (by omega)), a3.kept (fun q _ _ => e q (by omega)), qk a4 (e (x + 19) (by omega)), ⟨_, hset_s _ _ _, fun i hi => ?_⟩, a6.kept (e _ (by omega)), fun i hi => (a7 i hi).kept (fun q _ _ => e q (by omega)), fun i hi => ?_⟩
  · unfold va_up
    by_cases q : i = n2
    · rw [if_pos q, q]
    · rw [if_neg q]
      exact hf2 i (by omega)
  · by_cases q : i = n2
    · rw [q]
      exact hO.kept (fun q _ _ => e q (by omega))
    · exact (a8 i (by omega)).kept (fun q _ _ => e q (by omega))
theorem I1.done {h : Nat → Option va_E} {x : Nat} (H : I1 h x 7 2) : XAt h x z0 (fun _ => z0) 0 (fun _ => z0) (fun _ => 0) (fun _ => 0) (0, 0, 32, 0, 0, 0) := by
  obtain ⟨a1, a2, a3, ⟨f, f1, f2⟩, a5, a6, a7, a8⟩ := H
  have e : ∀ i, x + 6 + 16 * (i + 1) = x + 22 + 16 * i := fun i => by omega
  refine ⟨fun i => i + 1, ⟨fun i hi => (show 1 ≤ i + 1 ∧ i + 1 ≤ 7 from ⟨by omega, by omega⟩), fun i j _ _ q => (show i = j from by have q : i + 1 = j + 1 := q; omega), by omega⟩, a1, a2, fun i hi => ?_, fun i hi => a8 i hi, a3, ⟨f, f1, fun i hi => ?_⟩, a5, a6⟩
  · rw [e i]
    exact a7 i hi
  · rw [e i]
    exact f2 i hi
set_option maxRecDepth 100000 in
set_option maxHeartbeats 4000000 in
theorem L_init2 {st : Nat → Nat} (d : Nat) {h : Nat → Option va_E} {x : Nat} : ∀ (k i : Nat) (h1 : Nat → Option va_E), i + k = 2 → I1 h1 x 7 i → (∀ q, q < x → h1 q = h q) → Ev st (d + 3) yX4_init cX4_init 2 none (x + 1, h) 165 3088 (IQ (x + 1) x 165 h (fun h' => XAt h' x z0 (fun _ => z0) 0 (fun _ => z0) (fun _ => 0) (fun _ => 0) (0, 0, 32, 0, 0, 0))) 87 [.ref x, .int (nI i)] [] (x + 134 + 16 * i, h1) (133 + 16 * i) (2490 + 299 * i) := by
  intro k
  induction k with
  | zero =>
    intro i h1 hi H hf
    have hi2 : i = 2 := by omega
    subst hi2
    obtain ⟨f, f1, f2⟩ := H.2.2.2.2.1
    refine x_iload_n dX4_init_87 rfl ?_
    refine x_aload_n dX4_init_88 rfl ?_
    refine x_get dX4_init_89 fX4_31 H.1 rfl ?_
    refine x_alen dX4_init_92 f1 (by decide) rfl ?_
    refine x_icmp_ge (tgt := 115) dX4_init_93 (by decide) (fun _ => ?_) (fun c => absurd (by decide) c)
    refine x_vret dX4_init_115 rfl rfl (Nat.le_of_ble_eq_true rfl) ?_
    exact ⟨rfl, _, rfl, H.done, fun q e1 e2 => hf q (by omega)⟩
  | succ k ih =>
    intro i h1 hi H hf
    obtain ⟨f, f1, f2⟩ := H.2.2.2.2.1
    refine x_iload_n dX4_init_87 rfl ?_
    refine x_aload_n dX4_init_88 rfl ?_
    refine x_get dX4_init_89 fX4_31 H.1 rfl ?_
    refine x_alen dX4_init_92 f1 (by decide) rfl ?_
    refine x_icmp_ge (tgt := 115) dX4_init_93 (by decide) (fun c => absurd c (nI_ge (a := i) (b := 2) (by omega) (by decide))) (fun _ => ?_)
    refine x_aload_n dX4_init_96 rfl ?_
    refine x_get dX4_init_97 fX4_31 H.1 rfl ?_
    refine x_iload_n dX4_init_100 rfl ?_
    refine e_nw (z1 := x + 134 + 16 * i + 1) (fs := [.null, .null, .null, .null, .int 0, .int 0, .int 0]) tyX2 rfl dX4_init_101 (ci := 2) rfl tyX2_ok ⟨q37, q38, q22⟩ (fun j hj => by rcases (show j = 0 ∨ j = 1 ∨ j = 2 ∨ j = 3 ∨ j = 4 ∨ j = 5 ∨ j = 6 by omega) with rfl | rfl | rfl | rfl | rfl | rfl | rfl <;> rfl) (by omega) (by omega) (fun h2 n2 g2 => ?_)
    refine x_dup dX4_init_104 rfl ?_
    refine e_ci (z1 := x + 134 + 16 * (i + 1)) (by omega) dX4_init_105 kX2_init rfl q40 q39 (i_office _ n2) (Nat.le_of_ble_eq_true rfl) ⟨by omega, by omega⟩ (fun h3 o3 g3 => ?_)
    have hk : ∀ q, q < x + 134 + 16 * i → h3 q = h1 q := fun q hq => (g3 q (by omega) (by omega)).trans (g2 q (by omega))
    have H3 : I1 h3 x 7 i := H.kept (z := x + 134 + 16 * i) (by omega) (Or.inr (Nat.le_refl _)) hk
    refine x_aast (j := i) dX4_init_108 ((hk _ (by omega)).trans f1) (ax_ixN (by omega) (by decide)) o3.ob ?_
    refine e_inc (lv' := fun v => [.ref x, .int v]) dX4_init_109 rfl rfl (fun _ => rfl) (fun v ev => ?_)
    refine x_goto (tgt := 87) dX4_init_112 (by decide) ?_
    have ev' := inc1 ev
    subst ev'
    have H4 := H3.add2 ((hk _ (by omega)).trans f1) f2 o3
    have e1 : 133 + 16 * i + 1 + 15 = 133 + 16 * (i + 1) := by omega
    have e2 : 2490 + 299 * i + 7 + 292 = 2490 + 299 * (i + 1) := by omega
    rw [e1, e2]
    exact ih (i + 1) _ (by omega) H4 (fun q hq => (hset_n _ (by omega)).trans ((hk q (by omega)).trans (hf q hq)))
set_option maxRecDepth 100000 in
set_option maxHeartbeats 4000000 in
theorem L_init1 {st : Nat → Nat} (d : Nat) {h : Nat → Option va_E} {x : Nat} : ∀ (k i : Nat) (h1 : Nat → Option va_E), i + k = 7 → I1 h1 x i 0 → (∀ q, q < x → h1 q = h q) → Ev st (d + 3) yX4_init cX4_init 2 none (x + 1, h) 165 3088 (IQ (x + 1) x 165 h (fun h' => XAt h' x z0 (fun _ => z0) 0 (fun _ => z0) (fun _ => 0) (fun _ => 0) (0, 0, 32, 0, 0, 0))) 57 [.ref x, .int (nI i)] [] (x + 22 + 16 * i, h1) (21 + 16 * i) (397 + 299 * i) := by
  intro k
  induction k with
  | zero =>
    intro i h1 hi H hf
    have hi2 : i = 7 := by omega
    subst hi2
    obtain ⟨f, f1, f2⟩ := H.2.2.2.1
    refine x_iload_n dX4_init_57 rfl ?_
    refine x_aload_n dX4_init_58 rfl ?_
    refine x_get dX4_init_59 fX4_23 H.1 rfl ?_
    refine x_alen dX4_init_62 f1 (by decide) rfl ?_
    refine x_icmp_ge (tgt := 85) dX4_init_63 (by decide) (fun _ => ?_) (fun c => absurd (by decide) c)
    refine x_iconst (v := 0) dX4_init_85 rfl ?_
    refine e_ist_n (lv' := fun v => [.ref x, .int v]) dX4_init_86 (Nat.le_of_ble_eq_true rfl) rfl (fun _ => rfl) (fun v ev => ?_)
    subst ev
    exact L_init2 d 2 0 h1 (by omega) H hf
  | succ k ih =>
    intro i h1 hi H hf
    obtain ⟨f, f1, f2⟩ := H.2.2.2.1
    refine x_iload_n dX4_init_57 rfl ?_
    refine x_aload_n dX4_init_58 rfl ?_
    refine x_get dX4_init_59 fX4_23 H.1 rfl ?_
    refine x_alen dX4_init_62 f1 (by decide) rfl ?_
    refine x_icmp_ge (tgt := 85) dX4_init_63 (by decide) (fun c => absurd c (nI_ge (a := i) (b := 7) (by omega) (by decide))) (fun _ => ?_)
    refine x_aload_n dX4_init_66 rfl ?_
    refine x_get dX4_init_67 fX4_23 H.1 rfl ?_
    refine x_iload_n dX4_init_70 rfl ?_
    refine e_nw (z1 := x + 22 + 16 * i + 1) (fs := [.null, .null, .null, .null, .int 0, .int 0, .int 0]) tyX2 rfl dX4_init_71 (ci := 2) rfl tyX2_ok ⟨q37, q38, q22⟩ (fun j hj => by rcases (show j = 0 ∨ j = 1 ∨ j = 2 ∨ j = 3 ∨ j = 4 ∨ j = 5 ∨ j = 6 by omega) with rfl | rfl | rfl | rfl | rfl | rfl | rfl <;> rfl) (by omega) (by omega) (fun h2 n2 g2 => ?_)
    refine x_dup dX4_init_74 rfl ?_
    refine e_ci (z1 := x + 22 + 16 * (i + 1)) (by omega) dX4_init_75 kX2_init rfl q40 q39 (i_office _ n2) (Nat.le_of_ble_eq_true rfl) ⟨by omega, by omega⟩ (fun h3 o3 g3 => ?_)
    have hk : ∀ q, q < x + 22 + 16 * i → h3 q = h1 q := fun q hq => (g3 q (by omega) (by omega)).trans (g2 q (by omega))
    have H3 : I1 h3 x i 0 := H.kept (z := x + 22 + 16 * i) (by omega) (Or.inl rfl) hk
    refine x_aast (j := i) dX4_init_78 ((hk _ (by omega)).trans f1) (ax_ixN (by omega) (by decide)) o3.ob ?_
    refine e_inc (lv' := fun v => [.ref x, .int v]) dX4_init_79 rfl rfl (fun _ => rfl) (fun v ev => ?_)
    refine x_goto (tgt := 57) dX4_init_82 (by decide) ?_
    have ev' := inc1 ev
    subst ev'
    have H4 := H3.add1 ((hk _ (by omega)).trans f1) f2 o3
    have e1 : 21 + 16 * i + 1 + 15 = 21 + 16 * (i + 1) := by omega
    have e2 : 397 + 299 * i + 7 + 292 = 397 + 299 * (i + 1) := by omega
    rw [e1, e2]
    exact ih (i + 1) _ (by omega) H4 (fun q hq => (hset_n _ (by omega)).trans ((hk q (by omega)).trans (hf q hq)))
set_option maxRecDepth 100000 in
set_option maxHeartbeats 4000000 in
theorem i_class {st : Nat → Nat} (d : Nat) {h : Nat → Option va_E} {x : Nat} (o0 : h x = some (.inr (4, [.null, .null, .null, .int 0, .null, .null]))) : CT st (d + 3) yX4_init cX4_init 2 none [.ref x] (x + 1, h) 165 3088 (IQ (x + 1) x 165 h (fun h' => XAt h' x z0 (fun _ => z0) 0 (fun _ => z0) (fun _ => 0) (fun _ => 0) (0, 0, 32, 0, 0, 0))) := by
  refine CT.of (lv := [.ref x, .null]) (by decide) (Nat.le_of_ble_eq_true rfl) rfl rfl ?_
  refine x_aload_n dX4_init_0 rfl ?_
  refine x_obj dX4_init_1 q34 ⟨q35, q36⟩ (Nat.le_of_ble_eq_true rfl) ?_
  refine x_aload_n dX4_init_4 rfl ?_
  refine e_nw (z1 := x + 2) (fs := [.null, .null, .null, .null, .int 0, .int 0, .int 0]) tyX2 rfl dX4_init_5 (ci := 2) rfl tyX2_ok ⟨q37, q38, q22⟩ (fun j hj => by rcases (show j = 0 ∨ j = 1 ∨ j = 2 ∨ j = 3 ∨ j = 4 ∨ j = 5 ∨ j = 6 by omega) with rfl | rfl | rfl | rfl | rfl | rfl | rfl <;> rfl) (Nat.le_of_ble_eq_true rfl) (Nat.le_of_ble_eq_true rfl) (fun h1 n1 g1 => ?_)
  refine x_dup dX4_init_8 rfl ?_
  refine e_ci (z1 := x + 17) rfl dX4_init_9 kX2_init rfl q40 q39 (i_office _ n1) (Nat.le_of_ble_eq_true rfl) ⟨Nat.le_of_ble_eq_true rfl, Nat.le_of_ble_eq_true rfl⟩ (fun h2 m2 g2 => ?_)
  refine e_pF dX4_init_12 fX4_10 rfl rfl ((g2 x (by omega) (by omega)).trans ((g1 x (by omega)).trans o0)) rfl rfl (Nat.le_of_ble_eq_true rfl) (fun h3 o3 g3 => ?_)
  refine x_aload_n dX4_init_15 rfl ?_
  refine e_nw (z1 := x + 18) (fs := [.null, .int 0, .int 0, .int 0, .int 0, .int 0, .int 0]) tyX3 rfl dX4_init_16 (ci := 3) rfl tyX3_ok ⟨q145, q146, q27⟩ (fun j hj => by rcases (show j = 0 ∨ j = 1 ∨ j = 2 ∨ j = 3 ∨ j = 4 ∨ j = 5 ∨ j = 6 by omega) with rfl | rfl | rfl | rfl | rfl | rfl | rfl <;> rfl) (Nat.le_of_ble_eq_true rfl) (Nat.le_of_ble_eq_true rfl) (fun h4 n4 g4 => ?_)
  refine x_dup dX4_init_19 rfl ?_
  refine e_cin (n1 := 0) (z1 := x + 19) rfl dX4_init_20 kX3_init rfl q148 q147 (i_pad _ n4) (Nat.le_of_ble_eq_true rfl) ⟨Nat.le_of_ble_eq_true rfl, Nat.le_of_ble_eq_true rfl⟩ (fun h5 m5 g5 => ?_)
  refine e_pF dX4_init_23 fX4_19 rfl rfl ((g5 x (by omega) (by omega)).trans ((g4 x (by omega)).trans o3)) rfl rfl (Nat.le_of_ble_eq_true rfl) (fun h6 o6 g6 => ?_)
  refine x_aload_n dX4_init_26 rfl ?_
  refine x_bipush (v := 7) dX4_init_27 rfl ?_
  refine e_nq (z1 := x + 20) (N := 7) rfl dX4_init_29 dX4_init_32 q37 fX4_23 rfl rfl o6 (by omega) (by decide) rfl (Nat.le_of_ble_eq_true rfl) rfl rfl (Nat.le_of_ble_eq_true rfl) (Nat.le_of_ble_eq_true rfl) (Nat.le_of_ble_eq_true rfl) (fun h7 o7 n7 g7 => ?_)
  refine x_aload_n dX4_init_35 rfl ?_
  refine x_iconst (v := 0) dX4_init_36 rfl ?_
  refine e_pf dX4_init_37 fX4_27 o7 rfl rfl (Nat.le_of_ble_eq_true rfl) (fun h8 o8 g8 => ?_)
  refine x_aload_n dX4_init_40 rfl ?_
  refine x_iconst (v := 2) dX4_init_41 rfl ?_
  refine e_nq (z1 := x + 21) (N := 2) rfl dX4_init_42 dX4_init_45 q37 fX4_31 rfl rfl o8 (by omega) (by decide) rfl (Nat.le_of_ble_eq_true rfl) rfl rfl (Nat.le_of_ble_eq_true rfl) (Nat.le_of_ble_eq_true rfl) (Nat.le_of_ble_eq_true rfl) (fun h9 o9 n9 g9 => ?_)
  refine x_aload_n dX4_init_48 rfl ?_
  refine x_iconst (v := 2) dX4_init_49 rfl ?_
  refine e_na (z1 := x + 22) (t := 1) (N := 2) rfl (by decide) dX4_init_50 dX4_init_52 q200 fX4_34 rfl rfl o9 (by omega) (by decide) rfl (Nat.le_of_ble_eq_true rfl) rfl rfl (Nat.le_of_ble_eq_true rfl) (Nat.le_of_ble_eq_true rfl) (Nat.le_of_ble_eq_true rfl) (fun h10 o10 n10 g10 => ?_)
  have u1 : ∀ q, q ≠ x → q < x + 19 → h10 q = h5 q := fun q e1 e2 => by
    rw [g10 q e1 (by omega), g9 q e1 (by omega), g8 q e1, g7 q e1 (by omega), g6 q e1]
  have u2 : ∀ q, q ≠ x → q < x + 17 → h10 q = h2 q := fun q e1 e2 => by
    rw [u1 q e1 (by omega), g5 q (by omega) (by omega), g4 q (by omega), g3 q e1]
  have H : I1 h10 x 0 0 := by
    refine ⟨o10, m2.kept (fun q e1 e2 => u2 q (by omega) (by omega)), m5.kept (fun q e1 e2 => u1 q (by omega) (by omega)), ⟨fun _ => none, ?_, fun i hi => absurd hi (by omega)⟩, ⟨fun _ => none, ?_, fun i hi => absurd hi (by omega)⟩, RwAt.zero n10 (fun _ _ => rfl), fun i hi => absurd hi (by omega), fun i hi => absurd hi (by omega)⟩
    · rw [g10 _ (by omega) (by omega), g9 _ (by omega) (by omega), g8 _ (by omega)]
      exact n7
    · rw [g10 _ (by omega) (by omega)]
      exact n9
  refine x_iconst (v := 0) dX4_init_55 rfl ?_
  refine e_ist_n (lv' := fun v => [.ref x, .int v]) dX4_init_56 (Nat.le_of_ble_eq_true rfl) rfl (fun _ => rfl) (fun v ev => ?_)
  subst ev
  exact L_init1 d 7 0 h10 (by omega) H (fun q hq => (u2 q (by omega) (by omega)).trans ((g2 q (by omega) (by omega)).trans (g1 q (by omega))))
