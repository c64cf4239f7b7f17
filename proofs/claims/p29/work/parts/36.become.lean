/-! copies of rows; an office becomes another -/
def CQ (z a n : Nat) (h : Nat → Option va_E) (f : Nat → Int32) : Option Value → Hp → Prop := fun r hp' => r = none ∧ ∃ h', hp' = (z, h') ∧ RwAt h' 0 a n f ∧ ∀ q, q ≠ a → h' q = h q
set_option maxRecDepth 100000 in
theorem t_copy {st : Nat → Nat} (d : Nat) {z : Nat} {h : Nat → Option va_E} {a0 a1 n : Nat} {f g : Nat → Int32} (H0 : RwAt h 0 a0 n f) (H1 : RwAt h 0 a1 n g) (hn : n < 2 ^ 31) : CT st (d + 1) yX4_copy cX4_copy 2 none [.ref a0, .ref a1] (z, h) 0 0 (CQ z a1 n h f) := by
  refine CT.of (lv := [.ref a0, .ref a1]) (by decide) (Nat.le_of_ble_eq_true rfl) rfl rfl ?_
  refine x_aload_n dX4_copy_0 rfl ?_
  refine x_iconst (v := 0) dX4_copy_1 rfl ?_
  refine x_aload_n dX4_copy_2 rfl ?_
  refine x_iconst (v := 0) dX4_copy_3 rfl ?_
  refine x_aload_n dX4_copy_4 rfl ?_
  refine e_len dX4_copy_5 H0 (Nat.le_of_ble_eq_true rfl) rfl ?_
  refine x_aload_n dX4_copy_6 rfl ?_
  refine e_len dX4_copy_7 H1 (Nat.le_of_ble_eq_true rfl) rfl ?_
  refine x_min dX4_copy_8 q116 wMin (Nat.le_of_ble_eq_true rfl) ⟨Nat.le_refl _, Nat.le_refl _⟩ ?_
  rw [if_neg (Int32.lt_irrefl)]
  obtain ⟨f', e1, e2⟩ := H0
  obtain ⟨g', e3, e4⟩ := H1
  refine x_copy (N := n) dX4_copy_11 q119 wCopy rfl e1 e3 (nI_pos hn) (nI_clamp hn) (Nat.le_refl _) (Nat.le_refl _) (Nat.le_of_ble_eq_true rfl) ?_
  refine x_vret dX4_copy_14 rfl rfl (Nat.le_refl _) ?_
  exact ⟨rfl, _, rfl, ⟨_, hset_s _ _ _, fun i hi => by unfold cpN; rw [if_pos hi]; exact e2 i hi⟩, fun q hq => hset_n _ hq⟩
set_option maxRecDepth 100000 in
theorem t_copyS {st : Nat → Nat} (d : Nat) {z : Nat} {h : Nat → Option va_E} {a1 t : Nat} {g : Nat → Int32} (ht : t < 3) (H1 : RwAt h 0 a1 5 g) : CT st (d + 1) yX4_copy cX4_copy 2 none [.ref (st t), .ref a1] (z, h) 0 0 (CQ z a1 5 h (ax_f t)) := by
  refine CT.of (lv := [.ref (st t), .ref a1]) (by decide) (Nat.le_of_ble_eq_true rfl) rfl rfl ?_
  refine x_aload_n dX4_copy_0 rfl ?_
  refine x_iconst (v := 0) dX4_copy_1 rfl ?_
  refine x_aload_n dX4_copy_2 rfl ?_
  refine x_iconst (v := 0) dX4_copy_3 rfl ?_
  refine x_aload_n dX4_copy_4 rfl ?_
  refine x_slen dX4_copy_5 ht rfl ?_
  refine x_aload_n dX4_copy_6 rfl ?_
  refine e_len dX4_copy_7 H1 (Nat.le_of_ble_eq_true rfl) rfl ?_
  refine x_min dX4_copy_8 q116 wMin (Nat.le_of_ble_eq_true rfl) ⟨Nat.le_refl _, Nat.le_refl _⟩ ?_
  rw [if_neg (by decide)]
  obtain ⟨g', e3, e4⟩ := H1
  refine x_copyS (N := 5) dX4_copy_11 q119 wCopy rfl ht rfl e3 (by decide) (by decide) (Nat.le_refl _) (Nat.le_refl _) (Nat.le_of_ble_eq_true rfl) ?_
  refine x_vret dX4_copy_14 rfl rfl (Nat.le_refl _) ?_
  exact ⟨rfl, _, rfl, ⟨_, hset_s _ _ _, fun i hi => by unfold cpN; rw [if_pos hi]⟩, fun q hq => hset_n _ hq⟩
def rset (σ : Sg) (K : Nat) (f : Nat → Int32) : Sg := fun a b => if a = K then f b else σ a b
theorem OffAt.rs {h h' : Nat → Option va_E} {o K : Nat} {σ : Sg} {f : Nat → Int32} (H : OffAt h o σ) (hK : K < 13) (hA : RwAt h' 0 (oad o K) (oln K) f) (he : ∀ q, q ≠ oad o K → h' q = h q) : OffAt h' o (rset σ K f) := by
  obtain ⟨i1, i2, i3, i4⟩ := oad_in (o := o) hK
  have n13 : ∀ b, rset σ K f 13 b = σ 13 b := fun b => if_neg (by omega)
  refine OffAt.of ?_ ?_ ?_ ?_
  · rw [he _ (by omega), n13, n13, n13]; exact H.ob
  · rw [he _ (by omega), n13]; exact H.lo.ob
  · rw [he _ (by omega), n13]; exact H.cl.ob
  · intro K' hK'
    by_cases hk : K' = K
    · subst hk
      exact hA.to fun i _ => (if_pos rfl : rset σ K' f K' i = f i).symm
    · exact ((H.row K' hK').kept (he _ (oad_ne hK' hK hk))).to fun i _ => (if_neg hk : rset σ K f K' i = σ K' i).symm
theorem OffAt.to {h : Nat → Option va_E} {o : Nat} {σ τ : Sg} (H : OffAt h o σ) (e1 : ∀ K, K < 13 → ∀ j, j < oln K → σ K j = τ K j) (e2 : ∀ j, j < 5 → σ 13 j = τ 13 j) : OffAt h o τ := by
  refine OffAt.of ?_ ?_ ?_ (fun K hK => (H.row K hK).to fun i hi => e1 K hK i hi)
  · rw [← e2 2 (by decide), ← e2 3 (by decide), ← e2 4 (by decide)]; exact H.ob
  · rw [← e2 0 (by decide)]; exact H.lo.ob
  · rw [← e2 1 (by decide)]; exact H.cl.ob
theorem e_cp {st : Nat → Nat} {k : Nat} {y : MethodName} {cc : ByteArray} {nL : Nat} {ret : Option FieldType} {hp0 : Hp} {mc ms : Nat} {fin : Option Value → Hp → Prop} {pc : Nat} {lv stk : List Value} {hp : Hp} {cl sl : Nat} {idx K o as : Nat} {host : String} {σ : Sg} {f : Nat → Int32} (hd : decode cc pc = .ok (.invokestatic idx, 3)) (hl : Cond.methodLinkNest y.cls idx yX4_copy host ∈ NB) (hK : K < 13) (H : OffAt hp.2 o σ) (Hs : RwAt hp.2 0 as (oln K) f) (hr : (stk.map fun v => v.category).sum ≤ 8) (hm : cl ≤ mc ∧ sl ≤ ms) (h : ∀ h', OffAt h' o (rset σ K f) → Fr o 16 hp.2 h' → Ev st (k + 2) y cc nL ret hp0 mc ms fin (pc + 3) lv stk (hp.1, h') cl sl) : Ev st (k + 2) y cc nL ret hp0 mc ms fin pc lv (.ref (oad o K) :: .ref as :: stk) hp cl sl := by
  have hlen : oln K < 2 ^ 31 := by
    unfold oln
    split <;> decide
  refine x_callSN hd kX4_copy q114 hl (t_copy k Hs (H.row K hK) hlen) rfl rfl hr hm (fun r hp' hq => ?_)
  obtain ⟨rfl, h', rfl, hA, he⟩ := hq
  exact h h' (H.rs hK hA he) (fun q hq => he q (by have := oad_in (o := o) hK; omega))
def becL (σ τ : Sg) : Sg := rset (rset (rset (rset (up2 σ 13 0 (τ 13 0)) 1 (τ 1)) 2 (τ 2)) 3 (τ 3)) 4 (τ 4)
def becC (σ τ : Sg) : Sg := rset (rset (rset (rset (rset (rset (rset (up2 σ 13 1 (τ 13 1)) 5 (τ 5)) 6 (τ 6)) 7 (τ 7)) 8 (τ 8)) 9 (τ 9)) 10 (τ 10)) 11 (τ 11)
def becO (σ τ : Sg) : Sg := up2 (up2 (up2 (rset (becC (becL (rset σ 0 (τ 0)) τ) τ) 12 (τ 12)) 13 2 (τ 13 2)) 13 3 (τ 13 3)) 13 4 (τ 13 4)
theorem becO_row (σ τ : Sg) : (∀ K, K < 13 → ∀ j, becO σ τ K j = τ K j) ∧ ∀ j, j < 5 → becO σ τ 13 j = τ 13 j := by
  refine ⟨fun K hK j => ?_, fun j hj => ?_⟩
  · match K, hK with
    | 0, _ | 1, _ | 2, _ | 3, _ | 4, _ | 5, _ | 6, _ | 7, _ | 8, _ | 9, _ | 10, _ | 11, _ | 12, _ => simp [becO, becC, becL, rset, up2]
  · match j, hj with
    | 0, _ | 1, _ | 2, _ | 3, _ | 4, _ => simp [becO, becC, becL, rset, up2]
-- PRINTED
set_option maxRecDepth 100000 in
set_option maxHeartbeats 4000000 in
theorem t_Lbecome {st : Nat → Nat} (d : Nat) {z : Nat} {h : Nat → Option va_E} {o p : Nat} {σ τ : Sg} (H : OffAt h o σ) (HP : OffAt h p τ) (hd : p + 16 ≤ o ∨ o + 16 ≤ p)  : CT st (d + 2) yX1_become cX1_become 2 none [.ref (o + 2), .ref (p + 2)] (z, h) 0 0 (MO none z o h (becL σ τ)) := by
  refine CT.of (lv := [.ref (o + 2), .ref (p + 2)]) (by decide) (Nat.le_of_ble_eq_true rfl) rfl rfl ?_
  refine x_aload_n dX1_become_0 rfl ?_
  refine x_aload_n dX1_become_1 rfl ?_
  refine x_get dX1_become_2 fX1_9 HP.lo.ob rfl ?_
  refine e_lput dX1_become_5 fX1_9 H (fun h1 hO1 hF1 => ?_)
  have HP1 := HP.fr hF1 hd
  refine x_aload_n dX1_become_8 rfl ?_
  refine x_get dX1_become_9 fX1_15 HP1.lo.ob rfl ?_
  refine x_aload_n dX1_become_12 rfl ?_
  refine x_get dX1_become_13 fX1_15 hO1.lo.ob rfl ?_
  refine e_cp (K := 1) dX1_become_16 q264 (Nat.le_of_ble_eq_true rfl) hO1 HP1.lo.r1 (Nat.le_of_ble_eq_true rfl) ⟨Nat.le_refl _, Nat.le_refl _⟩ (fun h2 hO2 hF2 => ?_)
  have HP2 := HP1.fr hF2 hd
  refine x_aload_n dX1_become_19 rfl ?_
  refine x_get dX1_become_20 fX1_19 HP2.lo.ob rfl ?_
  refine x_aload_n dX1_become_23 rfl ?_
  refine x_get dX1_become_24 fX1_19 hO2.lo.ob rfl ?_
  refine e_cp (K := 2) dX1_become_27 q264 (Nat.le_of_ble_eq_true rfl) hO2 HP2.lo.r2 (Nat.le_of_ble_eq_true rfl) ⟨Nat.le_refl _, Nat.le_refl _⟩ (fun h3 hO3 hF3 => ?_)
  have HP3 := HP2.fr hF3 hd
  refine x_aload_n dX1_become_30 rfl ?_
  refine x_get dX1_become_31 fX1_22 HP3.lo.ob rfl ?_
  refine x_aload_n dX1_become_34 rfl ?_
  refine x_get dX1_become_35 fX1_22 hO3.lo.ob rfl ?_
  refine e_cp (K := 3) dX1_become_38 q264 (Nat.le_of_ble_eq_true rfl) hO3 HP3.lo.r3 (Nat.le_of_ble_eq_true rfl) ⟨Nat.le_refl _, Nat.le_refl _⟩ (fun h4 hO4 hF4 => ?_)
  have HP4 := HP3.fr hF4 hd
  refine x_aload_n dX1_become_41 rfl ?_
  refine x_get dX1_become_42 fX1_25 HP4.lo.ob rfl ?_
  refine x_aload_n dX1_become_45 rfl ?_
  refine x_get dX1_become_46 fX1_25 hO4.lo.ob rfl ?_
  refine e_cp (K := 4) dX1_become_49 q264 (Nat.le_of_ble_eq_true rfl) hO4 HP4.lo.r4 (Nat.le_of_ble_eq_true rfl) ⟨Nat.le_refl _, Nat.le_refl _⟩ (fun h5 hO5 hF5 => ?_)
  have HP5 := HP4.fr hF5 hd
  refine x_vret dX1_become_52 rfl rfl (Nat.le_refl _) ?_
  exact ⟨rfl, _, rfl, hO5, ((((hF1.tr hF2).tr hF3).tr hF4).tr hF5)⟩

set_option maxRecDepth 100000 in
set_option maxHeartbeats 4000000 in
theorem t_Cbecome {st : Nat → Nat} (d : Nat) {z : Nat} {h : Nat → Option va_E} {o p : Nat} {σ τ : Sg} (H : OffAt h o σ) (HP : OffAt h p τ) (hd : p + 16 ≤ o ∨ o + 16 ≤ p)  : CT st (d + 2) yX0_become cX0_become 2 none [.ref (o + 7), .ref (p + 7)] (z, h) 0 0 (MO none z o h (becC σ τ)) := by
  refine CT.of (lv := [.ref (o + 7), .ref (p + 7)]) (by decide) (Nat.le_of_ble_eq_true rfl) rfl rfl ?_
  refine x_aload_n dX0_become_0 rfl ?_
  refine x_aload_n dX0_become_1 rfl ?_
  refine x_get dX0_become_2 fX0_9 HP.cl.ob rfl ?_
  refine e_cput dX0_become_5 fX0_9 H (fun h1 hO1 hF1 => ?_)
  have HP1 := HP.fr hF1 hd
  refine x_aload_n dX0_become_8 rfl ?_
  refine x_get dX0_become_9 fX0_15 HP1.cl.ob rfl ?_
  refine x_aload_n dX0_become_12 rfl ?_
  refine x_get dX0_become_13 fX0_15 hO1.cl.ob rfl ?_
  refine e_cp (K := 5) dX0_become_16 q269 (Nat.le_of_ble_eq_true rfl) hO1 HP1.cl.r5 (Nat.le_of_ble_eq_true rfl) ⟨Nat.le_refl _, Nat.le_refl _⟩ (fun h2 hO2 hF2 => ?_)
  have HP2 := HP1.fr hF2 hd
  refine x_aload_n dX0_become_19 rfl ?_
  refine x_get dX0_become_20 fX0_19 HP2.cl.ob rfl ?_
  refine x_aload_n dX0_become_23 rfl ?_
  refine x_get dX0_become_24 fX0_19 hO2.cl.ob rfl ?_
  refine e_cp (K := 6) dX0_become_27 q269 (Nat.le_of_ble_eq_true rfl) hO2 HP2.cl.r6 (Nat.le_of_ble_eq_true rfl) ⟨Nat.le_refl _, Nat.le_refl _⟩ (fun h3 hO3 hF3 => ?_)
  have HP3 := HP2.fr hF3 hd
  refine x_aload_n dX0_become_30 rfl ?_
  refine x_get dX0_become_31 fX0_22 HP3.cl.ob rfl ?_
  refine x_aload_n dX0_become_34 rfl ?_
  refine x_get dX0_become_35 fX0_22 hO3.cl.ob rfl ?_
  refine e_cp (K := 7) dX0_become_38 q269 (Nat.le_of_ble_eq_true rfl) hO3 HP3.cl.r7 (Nat.le_of_ble_eq_true rfl) ⟨Nat.le_refl _, Nat.le_refl _⟩ (fun h4 hO4 hF4 => ?_)
  have HP4 := HP3.fr hF4 hd
  refine x_aload_n dX0_become_41 rfl ?_
  refine x_get dX0_become_42 fX0_25 HP4.cl.ob rfl ?_
  refine x_aload_n dX0_become_45 rfl ?_
  refine x_get dX0_become_46 fX0_25 hO4.cl.ob rfl ?_
  refine e_cp (K := 8) dX0_become_49 q269 (Nat.le_of_ble_eq_true rfl) hO4 HP4.cl.r8 (Nat.le_of_ble_eq_true rfl) ⟨Nat.le_refl _, Nat.le_refl _⟩ (fun h5 hO5 hF5 => ?_)
  have HP5 := HP4.fr hF5 hd
  refine x_aload_n dX0_become_52 rfl ?_
  refine x_get dX0_become_53 fX0_28 HP5.cl.ob rfl ?_
  refine x_aload_n dX0_become_56 rfl ?_
  refine x_get dX0_become_57 fX0_28 hO5.cl.ob rfl ?_
  refine e_cp (K := 9) dX0_become_60 q269 (Nat.le_of_ble_eq_true rfl) hO5 HP5.cl.r9 (Nat.le_of_ble_eq_true rfl) ⟨Nat.le_refl _, Nat.le_refl _⟩ (fun h6 hO6 hF6 => ?_)
  have HP6 := HP5.fr hF6 hd
  refine x_aload_n dX0_become_63 rfl ?_
  refine x_get dX0_become_64 fX0_31 HP6.cl.ob rfl ?_
  refine x_aload_n dX0_become_67 rfl ?_
  refine x_get dX0_become_68 fX0_31 hO6.cl.ob rfl ?_
  refine e_cp (K := 10) dX0_become_71 q269 (Nat.le_of_ble_eq_true rfl) hO6 HP6.cl.r10 (Nat.le_of_ble_eq_true rfl) ⟨Nat.le_refl _, Nat.le_refl _⟩ (fun h7 hO7 hF7 => ?_)
  have HP7 := HP6.fr hF7 hd
  refine x_aload_n dX0_become_74 rfl ?_
  refine x_get dX0_become_75 fX0_34 HP7.cl.ob rfl ?_
  refine x_aload_n dX0_become_78 rfl ?_
  refine x_get dX0_become_79 fX0_34 hO7.cl.ob rfl ?_
  refine e_cp (K := 11) dX0_become_82 q269 (Nat.le_of_ble_eq_true rfl) hO7 HP7.cl.r11 (Nat.le_of_ble_eq_true rfl) ⟨Nat.le_refl _, Nat.le_refl _⟩ (fun h8 hO8 hF8 => ?_)
  have HP8 := HP7.fr hF8 hd
  refine x_vret dX0_become_85 rfl rfl (Nat.le_refl _) ?_
  exact ⟨rfl, _, rfl, hO8, (((((((hF1.tr hF2).tr hF3).tr hF4).tr hF5).tr hF6).tr hF7).tr hF8)⟩

set_option maxRecDepth 100000 in
set_option maxHeartbeats 4000000 in
theorem t_become {st : Nat → Nat} (d : Nat) {z : Nat} {h : Nat → Option va_E} {o p : Nat} {σ τ : Sg} (H : OffAt h o σ) (HP : OffAt h p τ) (hd : p + 16 ≤ o ∨ o + 16 ≤ p)  : CT st (d + 3) yX2_become cX2_become 2 none [.ref o, .ref p] (z, h) 0 0 (MO none z o h (τ)) := by
  refine CT.of (lv := [.ref o, .ref p]) (by decide) (Nat.le_of_ble_eq_true rfl) rfl rfl ?_
  refine x_aload_n dX2_become_0 rfl ?_
  refine x_get dX2_become_1 fX2_9 HP.ob rfl ?_
  refine x_aload_n dX2_become_4 rfl ?_
  refine x_get dX2_become_5 fX2_9 H.ob rfl ?_
  refine e_cp (K := 0) dX2_become_8 q113 (Nat.le_of_ble_eq_true rfl) H HP.r0 (Nat.le_of_ble_eq_true rfl) ⟨Nat.le_refl _, Nat.le_refl _⟩ (fun h1 hO1 hF1 => ?_)
  have HP1 := HP.fr hF1 hd
  refine x_aload_n dX2_become_11 rfl ?_
  refine x_get dX2_become_12 fX2_18 hO1.ob rfl ?_
  refine x_aload_n dX2_become_15 rfl ?_
  refine x_get dX2_become_16 fX2_18 HP1.ob rfl ?_
  refine c_VMn dX2_become_19 kX1_become iX1_become q260 (t_Lbecome _ hO1 HP1 hd) hO1.lo.ob rfl rfl rfl (Nat.le_of_ble_eq_true rfl) ⟨Nat.le_refl _, Nat.le_refl _⟩ (fun h2 hO2 hF2 => ?_)
  have HP2 := HP1.fr hF2 hd
  refine x_aload_n dX2_become_22 rfl ?_
  refine x_get dX2_become_23 fX2_25 hO2.ob rfl ?_
  refine x_aload_n dX2_become_26 rfl ?_
  refine x_get dX2_become_27 fX2_25 HP2.ob rfl ?_
  refine c_VMn dX2_become_30 kX0_become iX0_become q265 (t_Cbecome _ hO2 HP2 hd) hO2.cl.ob rfl rfl rfl (Nat.le_of_ble_eq_true rfl) ⟨Nat.le_refl _, Nat.le_refl _⟩ (fun h3 hO3 hF3 => ?_)
  have HP3 := HP2.fr hF3 hd
  refine x_aload_n dX2_become_33 rfl ?_
  refine x_get dX2_become_34 fX2_29 HP3.ob rfl ?_
  refine x_aload_n dX2_become_37 rfl ?_
  refine x_get dX2_become_38 fX2_29 hO3.ob rfl ?_
  refine e_cp (K := 12) dX2_become_41 q113 (Nat.le_of_ble_eq_true rfl) hO3 HP3.r12 (Nat.le_of_ble_eq_true rfl) ⟨Nat.le_refl _, Nat.le_refl _⟩ (fun h4 hO4 hF4 => ?_)
  have HP4 := HP3.fr hF4 hd
  refine x_aload_n dX2_become_44 rfl ?_
  refine x_aload_n dX2_become_45 rfl ?_
  refine x_get dX2_become_46 fX2_32 HP4.ob rfl ?_
  refine e_oput (j := 4) dX2_become_49 (Or.inl rfl) fX2_32 hO4 (fun h5 hO5 hF5 => ?_)
  have HP5 := HP4.fr hF5 hd
  refine x_aload_n dX2_become_52 rfl ?_
  refine x_aload_n dX2_become_53 rfl ?_
  refine x_get dX2_become_54 fX2_36 HP5.ob rfl ?_
  refine e_oput (j := 5) dX2_become_57 (Or.inr (Or.inl rfl)) fX2_36 hO5 (fun h6 hO6 hF6 => ?_)
  have HP6 := HP5.fr hF6 hd
  refine x_aload_n dX2_become_60 rfl ?_
  refine x_aload_n dX2_become_61 rfl ?_
  refine x_get dX2_become_62 fX2_39 HP6.ob rfl ?_
  refine e_oput (j := 6) dX2_become_65 (Or.inr (Or.inr rfl)) fX2_39 hO6 (fun h7 hO7 hF7 => ?_)
  have HP7 := HP6.fr hF7 hd
  refine x_vret dX2_become_68 rfl rfl (Nat.le_refl _) ?_
  exact ⟨rfl, _, rfl, hO7.to (fun K hK j _ => (becO_row σ τ).1 K hK j) (becO_row σ τ).2, ((((((hF1.tr hF2).tr hF3).tr hF4).tr hF5).tr hF6).tr hF7)⟩
