def cofAll (T : Nat → Nat) (σ : Sg) (P : PD) : Nat × Sg × PD := cof T 80 0 σ (pAt (ffAll T P).2 0)
def coR (T : Nat → Nat) (σ : Sg) (P : PD) : Int32 := if sFault T P = -6 then nI (cofAll T σ P).1 else -3
def coS (T : Nat → Nat) (σ : Sg) (P : PD) : Sg := if sFault T P = -6 then (cofAll T σ P).2.1 else σ
def coH (T : Nat → Nat) (σ : Sg) (P : PD) (H : Nat → Sg) (n : Nat) : Nat → Sg := if sFault T P = -6 then recH (nI (cofAll T σ P).1) (hup H n σ) n else H
def coN (T : Nat → Nat) (σ : Sg) (P : PD) (n : Nat) : Nat := if sFault T P = -6 then recN (nI (cofAll T σ P).1) n else n
def coP (T : Nat → Nat) (σ : Sg) (P : PD) : PD := if sFault T P = -6 then (0, (cofAll T σ P).2.2.2) else (ffAll T P).2
theorem ffl_ok (T : Nat → Nat) {n : Nat} : ∀ (k : Nat) (g : Bool) (P : PD), POkP P ∧ P.1 = n → POkP (ffl T k g P).2 ∧ (ffl T k g P).2.1 = n
  | 0, g, P, h => h
  | k + 1, g, P, h => by
    have a := rdS_ok T 59 h.1
    have b := rdO_ok T a.1
    unfold ffl
    split
    · exact h
    split
    · exact h
    split
    · exact ffl_ok T k _ _ ⟨a.1, a.2.trans h.2⟩
    · exact ffl_ok T k _ _ ⟨b.1, b.2.trans (a.2.trans h.2)⟩
theorem ffAll_ok (T : Nat → Nat) {P : PD} (h : P.1 ≤ 80) : POkP (ffAll T P).2 ∧ (ffAll T P).2.1 = P.1 := by
  have a := rdO_ok T (show POkP (pAt P 0) from ⟨h, Nat.zero_le _⟩)
  exact ffl_ok T 79 _ _ ⟨a.1, a.2⟩
section X54
variable {st : Nat → Nat} {k : Nat} {y : MethodName} {cc : ByteArray} {nL : Nat} {ret : Option FieldType} {hp0 : Hp} {mc ms : Nat} {fin : Option Value → Hp → Prop} {pc : Nat} {lv stk stk0 : List Value} {hp : Hp} {cl sl0 : Nat}
variable {x idx n1 nL1 a ci : Nat} {σ σ' : Sg} {H : Nat → Sg} {n : Nat} {sl : Nat → Sg} {sv : Nat → Int32} {T : Nat → Nat} {P : PD} {y1 : MethodName} {cc1 : ByteArray} {ret1 : Option FieldType} {As : List Value} {v : Value} {fs : List Value}
theorem X_putAt (hd : decode cc pc = .ok (.putfield idx, 3)) (hf : ax_fl y.cls idx 3 2 .int false) (hX : XAt hp.2 x σ H n sl sv T P) (h : ∀ h', XAt h' x σ H n sl sv T (pAt P 0) → Fr x 166 hp.2 h' → Ev st k y cc nL ret hp0 mc ms fin (pc + 3) lv stk (hp.1, h') cl sl0) : Ev st k y cc nL ret hp0 mc ms fin pc lv (.int 0 :: .ref (x + 17) :: stk) hp cl sl0 :=
  p_put (j := 2) (pAt P 0) hd hf hX.pad rfl rfl (Nat.le_of_ble_eq_true rfl) rfl (fun h' hP f => h h' (hX.setPad hP f) (f.wide (by omega) (by omega)))
theorem c_XMn (hd : decode cc pc = .ok (.invokevirtual idx, 3)) (hy : ax_kM y1 cc1 nL1 ret1 n1) (hi : Cond.instanceMethod y1 ∈ TB ∧ Cond.selects y1.cls y1 y1 ∈ TB) (hl : Cond.methodLink y.cls idx y1 ∈ TB) (hX : XAt hp.2 x σ H n sl sv T P) (hc : CT st k y1 cc1 nL1 ret1 (.ref (x + 1) :: As) hp 0 0 (MO none hp.1 (x + 1) hp.2 σ')) (hci : (vwCl[2]?).map (fun q => q.1) = some y1.cls) (hs : stk0 = As.reverse ++ .ref (x + 1) :: stk) (hn : As.length = n1) (hr : (stk.map fun v => v.category).sum ≤ 8) (hm : cl ≤ mc ∧ sl0 ≤ ms) (h : ∀ h', XAt h' x σ' H n sl sv T P → Fr x 166 hp.2 h' → Ev st (k + 1) y cc nL ret hp0 mc ms fin (pc + 3) lv stk (hp.1, h') cl sl0) : Ev st (k + 1) y cc nL ret hp0 mc ms fin pc lv stk0 hp cl sl0 :=
  c_VMn hd hy hi hl hc hX.main.ob hci hs hn hr hm (fun h' hO f => h h' (hX.setMain hO f) (f.wide (by omega) (by omega)))
theorem X_zast {j : Nat} {i : Int32} (hd : decode cc pc = .ok (.bastore, 1)) (hX : XAt hp.2 x σ H n sl sv T P) (hi : ax_ix i 2 j) (h : ∀ h', XAt h' x σ H n sl (upd sv j 1) T P → Fr x 166 hp.2 h' → Ev st k y cc nL ret hp0 mc ms fin (pc + 1) lv stk (hp.1, h') cl sl0) : Ev st k y cc nL ret hp0 mc ms fin pc lv (.int 1 :: .int i :: .ref (x + 21) :: stk) hp cl sl0 := by
  obtain ⟨f, h1, h2⟩ := hX.svd
  refine x_zast hd h1 hi rfl (h _ (hX.setSv ⟨_, hset_s _ _ _, fun b hb => ?_⟩ (fun q hq => hset_n _ hq)) (Fr.set _ (by omega) (by omega)))
  show upd f j 1 b = upd sv j 1 b
  unfold upd
  split
  · rfl
  · exact h2 b hb
end X54
theorem slot_ix {x : Int32} (h0 : ¬ x < 0) (h2 : x < 2) : ∃ j, j < 2 ∧ x = nI j := by
  obtain ⟨j, hj, rfl⟩ := nI_of h0
  exact ⟨j, (nI_ltI (a := j) (b := 2) hj (by decide)).mp h2, rfl⟩
def sOk (a : Int32) : Bool := !decide (a < 0) && decide (a < 2)
def rsR (sl : Nat → Sg) (sv : Nat → Int32) (a : Int32) : Int32 := if sOk a = true then (if sv a.toNatClampNeg = 0 then -5 else sl a.toNatClampNeg 13 0) else -2
def rsO (sv : Nat → Int32) (a : Int32) : Bool := sOk a && !decide (sv a.toNatClampNeg = 0)
set_option maxRecDepth 100000 in
set_option maxHeartbeats 4000000 in
theorem L_carryOut {st : Nat → Nat} (d : Nat) {z : Nat} {h : Nat → Option va_E} {x : Nat} {H : Nat → Sg} {n : Nat} {sl : Nat → Sg} {sv : Nat → Int32} {T : Nat → Nat} {q : Nat × Sg × PD} : ∀ (k : Nat) (i : Nat) (σ1 : Sg) (P1 : PD) (hq1 : Nat → Option va_E), i + k = 80 → XAt hq1 x σ1 H n sl sv T P1 → Fr x 166 h hq1 → Ok3 σ1 → POkP P1 → cof T k i σ1 P1 = q → Ev st (d + 7) yX4_carryOut cX4_carryOut 2 (some .int) (z, h) 0 0 (XMO (some (.int (nI q.1))) z x h q.2.1 (recH (nI q.1) H n) (recN (nI q.1) n) sl sv T (0, q.2.2.2)) 29 [.ref x, .int (nI i)] [] (z, hq1) 0 0 := by
  intro k
  induction k with
  | zero =>
    intro i σ1 P1 hq1 hik hXq hFQ hK1 hQ1 hR
    refine x_iload_n dX4_carryOut_29 rfl ?_
    refine x_bipush (v := 80) dX4_carryOut_30 rfl ?_
    refine x_icmp_ge (tgt := 68) dX4_carryOut_32 (by decide) (fun c32 => ?_) (fun c32 => absurd (nI_le (a := 80) (b := i) (by omega) (by omega)) c32)
    have hR2 := hR.symm
    first | rw [show cof T 0 i σ1 P1 = (i, σ1, P1) from rfl] at hR2 | (unfold cof at hR2; first | rw [if_pos c42] at hR2 | (rw [if_neg (by rw [c42]; decide)] at hR2; rw [if_pos c49] at hR2))
    refine x_aload_n dX4_carryOut_68 rfl ?_
    refine x_get dX4_carryOut_69 fX4_19 hXq.ob rfl ?_
    refine c_XP dX4_carryOut_72 kX3_empty iX3_empty q584 hXq (t_empty _ hXq.pad (by first | exact hQ1.1 | exact (rdO_ok T hQ1).1.1)) rfl rfl rfl (Nat.le_of_ble_eq_true rfl) ⟨Nat.le_refl _, Nat.le_refl _⟩ (fun h1 hX1 hF1 => ?_)
    refine x_pop dX4_carryOut_75 rfl ?_
    refine x_aload_n dX4_carryOut_76 rfl ?_
    refine x_iload_n dX4_carryOut_77 rfl ?_
    refine c_XX dX4_carryOut_78 kX4_recorded iX4_recorded q282 hX1 (t_recorded _ hX1 _) rfl rfl rfl (Nat.le_of_ble_eq_true rfl) ⟨Nat.le_refl _, Nat.le_refl _⟩ (fun h2 hX2 hF2 => ?_)
    refine x_iret dX4_carryOut_81 (Or.inl rfl) rfl (Nat.le_refl _) ?_
    subst hR2
    exact ⟨rfl, _, rfl, hX2, hFQ.tr (hF1.tr hF2)⟩
  | succ k ih =>
    intro i σ1 P1 hq1 hik hXq hFQ hK1 hQ1 hR
    refine x_iload_n dX4_carryOut_29 rfl ?_
    refine x_bipush (v := 80) dX4_carryOut_30 rfl ?_
    refine x_icmp_ge (tgt := 68) dX4_carryOut_32 (by decide) (fun c32 => absurd c32 (nI_ge (a := i) (b := 80) (by omega) (by omega))) (fun c32 => ?_)
    refine x_aload_n dX4_carryOut_35 rfl ?_
    refine x_get dX4_carryOut_36 fX4_19 hXq.ob rfl ?_
    refine c_XP dX4_carryOut_39 kX3_readOrder iX3_readOrder q624 hXq (t_readOrder _ hXq.pad hQ1) rfl rfl rfl (Nat.le_of_ble_eq_true rfl) ⟨Nat.le_refl _, Nat.le_refl _⟩ (fun h1 hX1 hF1 => ?_)
    refine x_if_eq (tgt := 68) dX4_carryOut_42 (by decide) (fun c42 => ?_) (fun c42 => ?_)
    · have c42 := bI_eq c42
      have hR2 := hR.symm
      first | rw [show cof T 0 i σ1 P1 = (i, σ1, P1) from rfl] at hR2 | (unfold cof at hR2; first | rw [if_pos c42] at hR2 | (rw [if_neg (by rw [c42]; decide)] at hR2; rw [if_pos c49] at hR2))
      refine x_aload_n dX4_carryOut_68 rfl ?_
      refine x_get dX4_carryOut_69 fX4_19 hX1.ob rfl ?_
      refine c_XP dX4_carryOut_72 kX3_empty iX3_empty q584 hX1 (t_empty _ hX1.pad (by first | exact hQ1.1 | exact (rdO_ok T hQ1).1.1)) rfl rfl rfl (Nat.le_of_ble_eq_true rfl) ⟨Nat.le_refl _, Nat.le_refl _⟩ (fun h2 hX2 hF2 => ?_)
      refine x_pop dX4_carryOut_75 rfl ?_
      refine x_aload_n dX4_carryOut_76 rfl ?_
      refine x_iload_n dX4_carryOut_77 rfl ?_
      refine c_XX dX4_carryOut_78 kX4_recorded iX4_recorded q282 hX2 (t_recorded _ hX2 _) rfl rfl rfl (Nat.le_of_ble_eq_true rfl) ⟨Nat.le_refl _, Nat.le_refl _⟩ (fun h3 hX3 hF3 => ?_)
      refine x_iret dX4_carryOut_81 (Or.inl rfl) rfl (Nat.le_refl _) ?_
      subst hR2
      exact ⟨rfl, _, rfl, hX3, hFQ.tr ((hF1.tr hF2).tr hF3)⟩
    · have c42 := bI_ne c42
      refine x_aload_n dX4_carryOut_45 rfl ?_
      refine c_XX dX4_carryOut_46 kX4_carryOutOrder iX4_carryOutOrder q625 hX1 (t_order _ hX1 hK1 (rdO_ok T hQ1).1.1) rfl rfl rfl (Nat.le_of_ble_eq_true rfl) ⟨Nat.le_refl _, Nat.le_refl _⟩ (fun h4 hX4 hF4 => ?_)
      refine x_if_lt (tgt := 68) dX4_carryOut_49 (by decide) (fun c49 => ?_) (fun c49 => ?_)
      · have hR2 := hR.symm
        first | rw [show cof T 0 i σ1 P1 = (i, σ1, P1) from rfl] at hR2 | (unfold cof at hR2; first | rw [if_pos c42] at hR2 | (rw [if_neg (by rw [c42]; decide)] at hR2; rw [if_pos c49] at hR2))
        refine x_aload_n dX4_carryOut_68 rfl ?_
        refine x_get dX4_carryOut_69 fX4_19 hX4.ob rfl ?_
        refine c_XP dX4_carryOut_72 kX3_empty iX3_empty q584 hX4 (t_empty _ hX4.pad (by first | exact hQ1.1 | exact (rdO_ok T hQ1).1.1)) rfl rfl rfl (Nat.le_of_ble_eq_true rfl) ⟨Nat.le_refl _, Nat.le_refl _⟩ (fun h5 hX5 hF5 => ?_)
        refine x_pop dX4_carryOut_75 rfl ?_
        refine x_aload_n dX4_carryOut_76 rfl ?_
        refine x_iload_n dX4_carryOut_77 rfl ?_
        refine c_XX dX4_carryOut_78 kX4_recorded iX4_recorded q282 hX5 (t_recorded _ hX5 _) rfl rfl rfl (Nat.le_of_ble_eq_true rfl) ⟨Nat.le_refl _, Nat.le_refl _⟩ (fun h6 hX6 hF6 => ?_)
        refine x_iret dX4_carryOut_81 (Or.inl rfl) rfl (Nat.le_refl _) ?_
        subst hR2
        exact ⟨rfl, _, rfl, hX6, hFQ.tr (((hF1.tr hF4).tr hF5).tr hF6)⟩
      · refine e_inc (lv' := fun w9 => [.ref x, .int w9]) dX4_carryOut_52 rfl rfl (fun _ => rfl) (fun v7 ev7 => ?_)
        refine x_aload_n dX4_carryOut_55 rfl ?_
        refine x_get dX4_carryOut_56 fX4_19 hX4.ob rfl ?_
        refine x_bipush (v := 59) dX4_carryOut_59 rfl ?_
        refine c_XP dX4_carryOut_61 kX3_readSign iX3_readSign q629 hX4 (t_readSign _ hX4.pad (rdO_ok T hQ1).1 59) rfl rfl rfl (Nat.le_of_ble_eq_true rfl) ⟨Nat.le_refl _, Nat.le_refl _⟩ (fun h8 hX8 hF8 => ?_)
        refine x_pop dX4_carryOut_64 rfl ?_
        refine x_goto (tgt := 29) dX4_carryOut_65 (by decide) ?_
        obtain rfl := inc1 ev7
        exact ih (i + 1) _ _ h8 (by omega) hX8 (hFQ.tr ((hF1.tr hF4).tr hF8)) (ok_order hK1 _) (rdS_ok T 59 (rdO_ok T hQ1).1).1 (by rw [← hR]; simp [cof, *])

set_option maxRecDepth 100000 in
set_option maxHeartbeats 4000000 in
theorem xcarryOut {st : Nat → Nat} (d : Nat) {z : Nat} {h : Nat → Option va_E} {x : Nat} {σ : Sg} {H : Nat → Sg} {n : Nat} {sl : Nat → Sg} {sv : Nat → Int32} {T : Nat → Nat} {P : PD} (hX : XAt h x σ H n sl sv T P) (hK : Ok3 σ) (hQ : P.1 ≤ 80)  : CT st (d + 7) yX4_carryOut cX4_carryOut 2 (some .int) [.ref x] (z, h) 0 0 (XMO (some (.int (coR T σ P))) z x h (coS T σ P) (coH T σ P H n) (coN T σ P n) sl sv T (coP T σ P)) := by
  refine CT.of (lv := [.ref x, .null]) (by decide) (Nat.le_of_ble_eq_true rfl) rfl rfl ?_
  refine x_aload_n dX4_carryOut_0 rfl ?_
  refine x_get dX4_carryOut_1 fX4_19 hX.ob rfl ?_
  refine c_XP dX4_carryOut_4 kX3_firstFault iX3_firstFault q592 hX (t_firstFault _ hX.pad hQ) rfl rfl rfl (Nat.le_of_ble_eq_true rfl) ⟨Nat.le_refl _, Nat.le_refl _⟩ (fun h1 hX1 hF1 => ?_)
  refine x_bipush (v := (-6)) dX4_carryOut_7 rfl ?_
  refine x_icmp_eq (tgt := 15) dX4_carryOut_9 (by decide) (fun c9 => ?_) (fun c9 => ?_)
  · refine x_aload_n dX4_carryOut_15 rfl ?_
    refine c_XX dX4_carryOut_16 kX4_draft iX4_draft q278 hX1 (t_draft _ hX1) rfl rfl rfl (Nat.le_of_ble_eq_true rfl) ⟨Nat.le_refl _, Nat.le_refl _⟩ (fun h2 hX2 hF2 => ?_)
    refine x_aload_n dX4_carryOut_19 rfl ?_
    refine x_get dX4_carryOut_20 fX4_19 hX2.ob rfl ?_
    refine x_iconst (v := 0) dX4_carryOut_23 rfl ?_
    refine X_putAt dX4_carryOut_24 fX4_118 hX2 (fun h3 hX3 hF3 => ?_)
    refine x_iconst (v := 0) dX4_carryOut_27 rfl ?_
    refine e_ist_n (lv' := fun w9 => [.ref x, .int w9]) dX4_carryOut_28 (Nat.le_of_ble_eq_true rfl) rfl (fun _ => rfl) (fun v4 ev4 => ?_)
    subst ev4
    unfold coR coS coH coN coP
    rw [if_pos c9, if_pos c9, if_pos c9, if_pos c9, if_pos c9]
    exact L_carryOut d (q := cofAll T σ P) 80 0 σ (pAt (ffAll T P).2 0) h3 rfl hX3 ((hF1.tr hF2).tr hF3) hK ⟨(ffAll_ok T hQ).1.1, Nat.zero_le _⟩ rfl
  · refine x_bipush (v := (-3)) dX4_carryOut_12 rfl ?_
    refine x_iret dX4_carryOut_14 (Or.inl rfl) rfl (Nat.le_refl _) ?_
    unfold coR coS coH coN coP
    rw [if_neg c9, if_neg c9, if_neg c9, if_neg c9, if_neg c9]
    exact ⟨rfl, _, rfl, hX1, hF1⟩

set_option maxRecDepth 100000 in
set_option maxHeartbeats 4000000 in
theorem xundo {st : Nat → Nat} (d : Nat) {z : Nat} {h : Nat → Option va_E} {x : Nat} {σ : Sg} {H : Nat → Sg} {n : Nat} {sl : Nat → Sg} {sv : Nat → Int32} {T : Nat → Nat} {P : PD} (hX : XAt h x σ H n sl sv T P) (hK : Ok3 σ) (hQ : P.1 ≤ 80)  : CT st (d + 4) yX4_undo cX4_undo 1 (some .int) [.ref x] (z, h) 0 0 (XMO (some (.int (if n = 0 then -5 else nI (n - 1)))) z x h (if n = 0 then σ else H (n - 1)) H (n - 1) sl sv T P) := by
  refine CT.of (lv := [.ref x]) (by decide) (Nat.le_of_ble_eq_true rfl) rfl rfl ?_
  refine x_aload_n dX4_undo_0 rfl ?_
  refine x_get dX4_undo_1 fX4_27 hX.ob rfl ?_
  refine x_if_ne (tgt := 10) dX4_undo_4 (by decide) (fun c4 => ?_) (fun c4 => ?_)
  · have hn0 : n ≠ 0 := fun q => c4 (by rw [q]; rfl)
    refine x_aload_n dX4_undo_10 rfl ?_
    refine x_dup dX4_undo_11 rfl ?_
    refine x_get dX4_undo_12 fX4_27 hX.ob rfl ?_
    refine x_iconst (v := 1) dX4_undo_15 rfl ?_
    refine x_isub dX4_undo_16 ?_
    refine X_putN (m := (n - 1)) dX4_undo_17 fX4_27 hX (pk_sub (a := n) (b := 1) (by omega)) (by have := hX.n6; omega) (fun h1 hX1 hF1 => ?_)
    refine x_aload_n dX4_undo_20 rfl ?_
    refine x_get dX4_undo_21 fX4_10 hX1.ob rfl ?_
    refine x_aload_n dX4_undo_24 rfl ?_
    refine x_get dX4_undo_25 fX4_23 hX1.ob rfl ?_
    refine x_aload_n dX4_undo_28 rfl ?_
    refine x_get dX4_undo_29 fX4_27 hX1.ob rfl ?_
    obtain ⟨a, b1, b2, hA, ⟨f, g1, g2⟩, hup1⟩ := hX1.setH (i := (n - 1)) (by have := hX.n6; omega)
    refine X_ald dX4_undo_32 g1 (ax_ixN (j := (n - 1)) (by have := hX.n6; omega) (by decide)) g2 ?_
    refine c_XMn dX4_undo_33 kX2_become iX2_become q256 hX1 (t_become _ hX1.main hA (Or.inr (by omega))) rfl rfl rfl (Nat.le_of_ble_eq_true rfl) ⟨Nat.le_refl _, Nat.le_refl _⟩ (fun h2 hX2 hF2 => ?_)
    refine x_aload_n dX4_undo_36 rfl ?_
    refine x_get dX4_undo_37 fX4_27 hX2.ob rfl ?_
    refine x_iret dX4_undo_40 (Or.inl rfl) rfl (Nat.le_refl _) ?_
    rw [if_neg hn0, if_neg hn0]
    exact ⟨rfl, _, rfl, hX2, (hF1.tr hF2)⟩
  · have hn0 : n = 0 := by
      rcases Nat.eq_zero_or_pos n with q | q
      · exact q
      · exact absurd c4 (nI_ne0 q (by have := hX.n6; omega))
    refine x_bipush (v := (-5)) dX4_undo_7 rfl ?_
    refine x_iret dX4_undo_9 (Or.inl rfl) rfl (Nat.le_refl _) ?_
    subst hn0
    exact ⟨rfl, _, rfl, hX, Fr.rf⟩

set_option maxRecDepth 100000 in
set_option maxHeartbeats 4000000 in
theorem xsave {st : Nat → Nat} (d : Nat) {z : Nat} {h : Nat → Option va_E} {x : Nat} {σ : Sg} {H : Nat → Sg} {n : Nat} {sl : Nat → Sg} {sv : Nat → Int32} {T : Nat → Nat} {P : PD} (hX : XAt h x σ H n sl sv T P) (hK : Ok3 σ) (hQ : P.1 ≤ 80) (a1 : Int32) : CT st (d + 4) yX4_save cX4_save 2 (some .int) [.ref x, .int a1] (z, h) 0 0 (XMO (some (.int (if sOk a1 = true then σ 13 0 else -2))) z x h σ H n (if sOk a1 = true then hup sl a1.toNatClampNeg σ else sl) (if sOk a1 = true then upd sv a1.toNatClampNeg 1 else sv) T P) := by
  refine CT.of (lv := [.ref x, .int a1]) (by decide) (Nat.le_of_ble_eq_true rfl) rfl rfl ?_
  refine x_iload_n dX4_save_0 rfl ?_
  refine x_if_lt (tgt := 9) dX4_save_1 (by decide) (fun c1 => ?_) (fun c1 => ?_)
  · refine x_bipush (v := (-2)) dX4_save_9 rfl ?_
    refine x_iret dX4_save_11 (Or.inl rfl) rfl (Nat.le_refl _) ?_
    have hs : ¬ sOk a1 = true := by simp [sOk, *]
    rw [if_neg hs, if_neg hs, if_neg hs]
    exact ⟨rfl, _, rfl, hX, Fr.rf⟩
  · refine x_iload_n dX4_save_4 rfl ?_
    refine x_iconst (v := 2) dX4_save_5 rfl ?_
    refine x_icmp_lt (tgt := 12) dX4_save_6 (by decide) (fun c6 => ?_) (fun c6 => ?_)
    · obtain ⟨j, hj, rfl⟩ := slot_ix c1 c6
      have hcl := nI_clamp (n := j) (by omega)
      refine x_aload_n dX4_save_12 rfl ?_
      refine x_get dX4_save_13 fX4_31 hX.ob rfl ?_
      refine x_iload_n dX4_save_16 rfl ?_
      obtain ⟨a, b1, b2, hA, ⟨f, g1, g2⟩, hup1⟩ := hX.setS (i := j) (by omega)
      refine X_ald dX4_save_17 g1 (ax_ixN (j := j) (by omega) (by decide)) g2 ?_
      refine x_aload_n dX4_save_18 rfl ?_
      refine x_get dX4_save_19 fX4_10 hX.ob rfl ?_
      refine c_VMn dX4_save_22 kX2_become iX2_become q256 (t_become _ hA hX.main (Or.inl (by omega))) hA.ob rfl rfl rfl (Nat.le_of_ble_eq_true rfl) ⟨Nat.le_refl _, Nat.le_refl _⟩ (fun h1 hO1 hG1 => ?_)
      have hX1 := hup1 h1 _ hO1 hG1
      have hF1 : Fr x 166 _ h1 := hG1.wide (by omega) (by omega)
      refine x_aload_n dX4_save_25 rfl ?_
      refine x_get dX4_save_26 fX4_34 hX1.ob rfl ?_
      refine x_iload_n dX4_save_29 rfl ?_
      refine x_iconst (v := 1) dX4_save_30 rfl ?_
      refine X_zast dX4_save_31 hX1 (ax_ixN (j := j) hj (by decide)) (fun h2 hX2 hF2 => ?_)
      refine x_aload_n dX4_save_32 rfl ?_
      refine x_get dX4_save_33 fX4_10 hX2.ob rfl ?_
      refine x_get dX4_save_36 fX4_149 hX2.main.ob rfl ?_
      refine x_get dX4_save_39 fX4_153 hX2.main.lo.ob rfl ?_
      refine x_iret dX4_save_42 (Or.inl rfl) rfl (Nat.le_refl _) ?_
      have hs : sOk (nI j) = true := by simp [sOk, *]
      rw [if_pos hs, if_pos hs, if_pos hs, hcl]
      exact ⟨rfl, _, rfl, hX2, (hF1.tr hF2)⟩
    · refine x_bipush (v := (-2)) dX4_save_9 rfl ?_
      refine x_iret dX4_save_11 (Or.inl rfl) rfl (Nat.le_refl _) ?_
      have hs : ¬ sOk a1 = true := by simp [sOk, *]
      rw [if_neg hs, if_neg hs, if_neg hs]
      exact ⟨rfl, _, rfl, hX, Fr.rf⟩

set_option maxRecDepth 100000 in
set_option maxHeartbeats 4000000 in
theorem xrestore {st : Nat → Nat} (d : Nat) {z : Nat} {h : Nat → Option va_E} {x : Nat} {σ : Sg} {H : Nat → Sg} {n : Nat} {sl : Nat → Sg} {sv : Nat → Int32} {T : Nat → Nat} {P : PD} (hX : XAt h x σ H n sl sv T P) (hK : Ok3 σ) (hQ : P.1 ≤ 80) (a1 : Int32) : CT st (d + 5) yX4_restore cX4_restore 2 (some .int) [.ref x, .int a1] (z, h) 0 0 (XMO (some (.int (rsR sl sv a1))) z x h (if rsO sv a1 = true then sl a1.toNatClampNeg else σ) (if rsO sv a1 = true then recH (sl a1.toNatClampNeg 13 0) (hup H n σ) n else H) (if rsO sv a1 = true then recN (sl a1.toNatClampNeg 13 0) n else n) sl sv T P) := by
  refine CT.of (lv := [.ref x, .int a1]) (by decide) (Nat.le_of_ble_eq_true rfl) rfl rfl ?_
  refine x_iload_n dX4_restore_0 rfl ?_
  refine x_if_lt (tgt := 9) dX4_restore_1 (by decide) (fun c1 => ?_) (fun c1 => ?_)
  · refine x_bipush (v := (-2)) dX4_restore_9 rfl ?_
    refine x_iret dX4_restore_11 (Or.inl rfl) rfl (Nat.le_refl _) ?_
    first | (have ho : ¬ rsO sv a1 = true := by simp [rsO, sOk, *]) | (have ho : ¬ rsO sv (nI j) = true := by simp [rsO, sOk, *])
    rw [if_neg ho, if_neg ho, if_neg ho]
    exact ⟨by simp [rsR, sOk, *], _, rfl, hX, Fr.rf⟩
  · refine x_iload_n dX4_restore_4 rfl ?_
    refine x_iconst (v := 2) dX4_restore_5 rfl ?_
    refine x_icmp_lt (tgt := 12) dX4_restore_6 (by decide) (fun c6 => ?_) (fun c6 => ?_)
    · obtain ⟨j, hj, rfl⟩ := slot_ix c1 c6
      have hcl := nI_clamp (n := j) (by omega)
      refine x_aload_n dX4_restore_12 rfl ?_
      refine x_get dX4_restore_13 fX4_34 hX.ob rfl ?_
      refine x_iload_n dX4_restore_16 rfl ?_
      refine e_zald dX4_restore_17 hX.svd (ax_ixN (j := j) hj (by decide)) ?_
      refine x_if_ne (tgt := 24) dX4_restore_18 (by decide) (fun c18 => ?_) (fun c18 => ?_)
      · refine x_aload_n dX4_restore_24 rfl ?_
        refine c_XX dX4_restore_25 kX4_draft iX4_draft q278 hX (t_draft _ hX) rfl rfl rfl (Nat.le_of_ble_eq_true rfl) ⟨Nat.le_refl _, Nat.le_refl _⟩ (fun h1 hX1 hF1 => ?_)
        refine x_aload_n dX4_restore_28 rfl ?_
        refine x_get dX4_restore_29 fX4_10 hX1.ob rfl ?_
        refine x_aload_n dX4_restore_32 rfl ?_
        refine x_get dX4_restore_33 fX4_31 hX1.ob rfl ?_
        refine x_iload_n dX4_restore_36 rfl ?_
        obtain ⟨a, b1, b2, hA, ⟨f, g1, g2⟩, hup1⟩ := hX1.setS (i := j) (by omega)
        refine X_ald dX4_restore_37 g1 (ax_ixN (j := j) (by omega) (by decide)) g2 ?_
        refine c_XMn dX4_restore_38 kX2_become iX2_become q256 hX1 (t_become _ hX1.main hA (Or.inr (by omega))) rfl rfl rfl (Nat.le_of_ble_eq_true rfl) ⟨Nat.le_refl _, Nat.le_refl _⟩ (fun h2 hX2 hF2 => ?_)
        refine x_aload_n dX4_restore_41 rfl ?_
        refine x_aload_n dX4_restore_42 rfl ?_
        refine x_get dX4_restore_43 fX4_10 hX2.ob rfl ?_
        refine x_get dX4_restore_46 fX4_149 hX2.main.ob rfl ?_
        refine x_get dX4_restore_49 fX4_153 hX2.main.lo.ob rfl ?_
        refine c_XX dX4_restore_52 kX4_recorded iX4_recorded q282 hX2 (t_recorded _ hX2 _) rfl rfl rfl (Nat.le_of_ble_eq_true rfl) ⟨Nat.le_refl _, Nat.le_refl _⟩ (fun h3 hX3 hF3 => ?_)
        refine x_iret dX4_restore_55 (Or.inl rfl) rfl (Nat.le_refl _) ?_
        have ho : rsO sv (nI j) = true := by simp [rsO, sOk, *]
        have hr : rsR sl sv (nI j) = sl j 13 0 := by simp [rsR, sOk, *]
        rw [if_pos ho, if_pos ho, if_pos ho, hr, hcl]
        exact ⟨rfl, _, rfl, hX3, ((hF1.tr hF2).tr hF3)⟩
      · refine x_bipush (v := (-5)) dX4_restore_21 rfl ?_
        refine x_iret dX4_restore_23 (Or.inl rfl) rfl (Nat.le_refl _) ?_
        first | (have ho : ¬ rsO sv a1 = true := by simp [rsO, sOk, *]) | (have ho : ¬ rsO sv (nI j) = true := by simp [rsO, sOk, *])
        rw [if_neg ho, if_neg ho, if_neg ho]
        exact ⟨by simp [rsR, sOk, *], _, rfl, hX, Fr.rf⟩
    · refine x_bipush (v := (-2)) dX4_restore_9 rfl ?_
      refine x_iret dX4_restore_11 (Or.inl rfl) rfl (Nat.le_refl _) ?_
      first | (have ho : ¬ rsO sv a1 = true := by simp [rsO, sOk, *]) | (have ho : ¬ rsO sv (nI j) = true := by simp [rsO, sOk, *])
      rw [if_neg ho, if_neg ho, if_neg ho]
      exact ⟨by simp [rsR, sOk, *], _, rfl, hX, Fr.rf⟩
