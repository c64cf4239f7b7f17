/-! THE LAW'S OBJECT, as its helpers see it: the office, how many changes, the state before the last one, the slots; the pad is empty -/
def XS (h : Nat → Option va_E) (x : Nat) (σ : Sg) (n : Nat) (τ : Sg) (sl : Nat → Sg) (sv : Nat → Int32) : Prop := QI σ ∧ ∃ H T P, XAt h x σ H n sl sv T P ∧ P.1 = 0 ∧ (0 < n → H (n - 1) = τ)
def XQ (r : Int32) (z x : Nat) (σ : Sg) (n : Nat) (τ : Sg) (sl : Nat → Sg) (sv : Nat → Int32) : Option Value → Hp → Prop := fun r' hp' => r' = some (.int r) ∧ ∃ h', hp' = (z, h') ∧ XS h' x σ n τ sl sv
def nx (n : Nat) : Nat := if n < 6 then n + 1 else 6
section XSS
variable {h : Nat → Option va_E} {x : Nat} {σ τ : Sg} {n : Nat} {sl : Nat → Sg} {sv : Nat → Int32}
theorem XS.q (H : XS h x σ n τ sl sv) : QI σ := H.1
theorem XS.ob (H : XS h x σ n τ sl sv) : ∃ fs, h x = some (.inr (4, fs)) := by
  obtain ⟨_, Hh, T, P, hA, _⟩ := H
  exact ⟨_, hA.ob⟩
theorem XS.n6 (H : XS h x σ n τ sl sv) : n ≤ 6 := by
  obtain ⟨_, Hh, T, P, hA, _⟩ := H
  exact hA.n6
theorem rec_ok {v : Int32} (h : 0 ≤ v) (H : Nat → Sg) (n : Nat) : recN v n = (if n < 6 then n + 1 else n) ∧ recH v H n = if n < 6 then H else hsh H := by
  unfold recN recH
  rw [if_pos h, if_pos h]
  exact ⟨rfl, rfl⟩
theorem rec_no {v : Int32} (h : v < 0) (H : Nat → Sg) (n : Nat) : recN v n = n ∧ recH v H n = H := by
  unfold recN recH
  rw [if_neg (Int32.not_le.mpr h), if_neg (Int32.not_le.mpr h)]
  exact ⟨rfl, rfl⟩
theorem nx_eq {n : Nat} (h : n ≤ 6) : (if n < 6 then n + 1 else n) = nx n := by
  unfold nx
  split
  · rfl
  · omega
variable {st : Nat → Nat} {k : Nat} {y1 : MethodName} {cc1 : ByteArray} {nL1 z : Nat} {av : List Value}
/-- a change that is refused -/
theorem ct_no (hX : XS h x σ n τ sl sv) {q : Int32 × Sg} {r : Int32} (hc : ∀ H T P, XAt h x σ H n sl sv T P → Ok3 σ → P.1 ≤ 80 → CT st k y1 cc1 nL1 (some .int) av (z, h) 0 0 (XMO (some (.int q.1)) z x h q.2 (recH q.1 (hup H n σ) n) (recN q.1 n) sl sv T P)) (he : q = (r, σ)) (hr : r < 0) : CT st k y1 cc1 nL1 (some .int) av (z, h) 0 0 (XQ r z x σ n τ sl sv) := by
  obtain ⟨hQ, H, T, P, hA, hP, hT⟩ := hX
  subst he
  refine (hc H T P hA hQ.ok3 (by omega)).mono ?_
  rintro r' hp' ⟨rfl, h', rfl, q1, q2⟩
  obtain ⟨e1, e2⟩ := rec_no hr (hup H n σ) n
  dsimp only at q1
  rw [e1, e2] at q1
  exact ⟨rfl, h', rfl, hQ, _, T, P, q1, hP, fun hn => (show hup H n σ (n - 1) = H (n - 1) from if_neg (by omega)).trans (hT hn)⟩
/-- a change that is made -/
theorem ct_do (hX : XS h x σ n τ sl sv) {q : Int32 × Sg} {r : Int32} {σ' : Sg} (hc : ∀ H T P, XAt h x σ H n sl sv T P → Ok3 σ → P.1 ≤ 80 → CT st k y1 cc1 nL1 (some .int) av (z, h) 0 0 (XMO (some (.int q.1)) z x h q.2 (recH q.1 (hup H n σ) n) (recN q.1 n) sl sv T P)) (he : q = (r, σ')) (hr : ¬ r < 0) (hQ' : QI σ') : CT st k y1 cc1 nL1 (some .int) av (z, h) 0 0 (XQ r z x σ' (nx n) σ sl sv) := by
  obtain ⟨hQ, H, T, P, hA, hP, hT⟩ := hX
  have h6 := hA.n6
  subst he
  refine (hc H T P hA hQ.ok3 (by omega)).mono ?_
  rintro r' hp' ⟨rfl, h', rfl, q1, q2⟩
  obtain ⟨e1, e2⟩ := rec_ok (Int32.not_lt.mp hr) (hup H n σ) n
  dsimp only at q1
  rw [e1, e2, nx_eq h6] at q1
  refine ⟨rfl, h', rfl, hQ', _, T, P, q1, hP, fun _ => ?_⟩
  unfold nx
  by_cases q : n < 6
  · rw [if_pos q, if_pos q]
    exact if_pos (by omega)
  · rw [if_neg q, if_neg q]
    unfold hsh
    rw [if_pos (by decide)]
    exact if_pos (by omega)
theorem ct_wipe (d : Nat) (hX : XS h x σ n τ sl sv) : CT st (d + 2) yX4_wipe cX4_wipe 1 (some .int) [.ref x] (z, h) 0 0 (XQ 0 z x σ n τ sl sv) := by
  obtain ⟨hQ, H, T, P, hA, hP, hT⟩ := hX
  refine (xwipe d hA hQ.ok3 (by omega)).mono ?_
  rintro r' hp' ⟨rfl, h', rfl, q1, q2⟩
  exact ⟨by rw [hP]; rfl, h', rfl, hQ, H, T, _, q1, rfl, hT⟩
theorem ff_0 (T : Nat → Nat) {P : PD} (hP : P.1 = 0) : sFault T P = 0 ∧ (ffAll T P).2.1 = 0 := by
  have h1 := ffAll_ok T (P := P) (by omega)
  refine ⟨?_, h1.2.trans hP⟩
  have hr : rdO T (pAt P 0) = (false, pAt P 0) := by
    unfold rdO
    rw [if_pos]
    show nI P.1 ≤ nI 0
    rw [hP]
    decide
  have hf : ∀ j, ffl T j false (pAt P 0) = (false, pAt P 0) := by
    intro j
    cases j with
    | zero => rfl
    | succ j => rfl
  unfold sFault ffAll
  rw [hr, hf]
  rfl
theorem ct_fault (d : Nat) (hX : XS h x σ n τ sl sv) : CT st (d + 6) yX4_fault cX4_fault 1 (some .int) [.ref x] (z, h) 0 0 (XQ 0 z x σ n τ sl sv) := by
  obtain ⟨hQ, H, T, P, hA, hP, hT⟩ := hX
  refine (xfault d hA hQ.ok3 (by omega)).mono ?_
  rintro r' hp' ⟨rfl, h', rfl, q1, q2⟩
  exact ⟨by rw [(ff_0 T hP).1], h', rfl, hQ, H, T, _, q1, (ff_0 T hP).2, hT⟩
theorem ct_carry (d : Nat) (hX : XS h x σ n τ sl sv) : CT st (d + 7) yX4_carryOut cX4_carryOut 2 (some .int) [.ref x] (z, h) 0 0 (XQ (-3) z x σ n τ sl sv) := by
  obtain ⟨hQ, H, T, P, hA, hP, hT⟩ := hX
  have e : ¬ sFault T P = -6 := by
    rw [(ff_0 T hP).1]
    decide
  refine (xcarryOut d hA hQ.ok3 (by omega)).mono ?_
  unfold coR coS coH coN coP
  rw [if_neg e, if_neg e, if_neg e, if_neg e, if_neg e]
  rintro r' hp' ⟨rfl, h', rfl, q1, q2⟩
  exact ⟨rfl, h', rfl, hQ, H, T, _, q1, (ff_0 T hP).2, hT⟩
theorem ct_saveX (d : Nat) (hX : XS h x σ n τ sl sv) {a : Int32} (ha : sOk a = false) : CT st (d + 4) yX4_save cX4_save 2 (some .int) [.ref x, .int a] (z, h) 0 0 (XQ (-2) z x σ n τ sl sv) := by
  obtain ⟨hQ, H, T, P, hA, hP, hT⟩ := hX
  have hc := xsave (st := st) d (z := z) hA hQ.ok3 (by omega) a
  have e : ¬ sOk a = true := by rw [ha]; decide
  rw [if_neg e, if_neg e, if_neg e] at hc
  refine hc.mono ?_
  rintro r' hp' ⟨rfl, h', rfl, q1, q2⟩
  exact ⟨rfl, h', rfl, hQ, H, T, P, q1, hP, hT⟩
theorem ct_save (d : Nat) (hX : XS h x σ n τ sl sv) {a : Int32} (ha : sOk a = true) : CT st (d + 4) yX4_save cX4_save 2 (some .int) [.ref x, .int a] (z, h) 0 0 (XQ (nI (nLo σ)) z x σ n τ (hup sl a.toNatClampNeg σ) (upd sv a.toNatClampNeg 1)) := by
  obtain ⟨hQ, H, T, P, hA, hP, hT⟩ := hX
  have hc := xsave (st := st) d (z := z) hA hQ.ok3 (by omega) a
  rw [if_pos ha, if_pos ha, if_pos ha] at hc
  refine hc.mono ?_
  rintro r' hp' ⟨rfl, h', rfl, q1, q2⟩
  exact ⟨by rw [← hQ.2.1.lok.1], h', rfl, hQ, H, T, P, q1, hP, hT⟩
theorem ct_restX (d : Nat) (hX : XS h x σ n τ sl sv) {a : Int32} (ha : sOk a = false) : CT st (d + 5) yX4_restore cX4_restore 2 (some .int) [.ref x, .int a] (z, h) 0 0 (XQ (-2) z x σ n τ sl sv) := by
  obtain ⟨hQ, H, T, P, hA, hP, hT⟩ := hX
  have hc := xrestore (st := st) d (z := z) hA hQ.ok3 (by omega) a
  have e : ¬ rsO sv a = true := by unfold rsO; rw [ha, Bool.false_and]; decide
  have e2 : rsR sl sv a = -2 := by unfold rsR; rw [ha]; rfl
  rw [if_neg e, if_neg e, if_neg e, e2] at hc
  refine hc.mono ?_
  rintro r' hp' ⟨rfl, h', rfl, q1, q2⟩
  exact ⟨rfl, h', rfl, hQ, H, T, P, q1, hP, hT⟩
theorem ct_rest0 (d : Nat) (hX : XS h x σ n τ sl sv) {a : Int32} (ha : sOk a = true) (h0 : sv a.toNatClampNeg = 0) : CT st (d + 5) yX4_restore cX4_restore 2 (some .int) [.ref x, .int a] (z, h) 0 0 (XQ (-5) z x σ n τ sl sv) := by
  obtain ⟨hQ, H, T, P, hA, hP, hT⟩ := hX
  have hc := xrestore (st := st) d (z := z) hA hQ.ok3 (by omega) a
  have e : ¬ rsO sv a = true := by unfold rsO; rw [ha, h0]; decide
  have e2 : rsR sl sv a = -5 := by unfold rsR; rw [if_pos ha, if_pos h0]
  rw [if_neg e, if_neg e, if_neg e, e2] at hc
  refine hc.mono ?_
  rintro r' hp' ⟨rfl, h', rfl, q1, q2⟩
  exact ⟨rfl, h', rfl, hQ, H, T, P, q1, hP, hT⟩
theorem ct_rest (d : Nat) (hX : XS h x σ n τ sl sv) {a : Int32} (ha : sOk a = true) (h0 : ¬ sv a.toNatClampNeg = 0) {ρ : Sg} (hρ : sl a.toNatClampNeg = ρ) (hQ' : QI ρ) : CT st (d + 5) yX4_restore cX4_restore 2 (some .int) [.ref x, .int a] (z, h) 0 0 (XQ (nI (nLo ρ)) z x ρ (nx n) σ sl sv) := by
  obtain ⟨hQ, H, T, P, hA, hP, hT⟩ := hX
  have h6 := hA.n6
  have hl := hQ'.2.1.lok.2
  have hc := xrestore (st := st) d (z := z) hA hQ.ok3 (by omega) a
  have e : rsO sv a = true := by unfold rsO; rw [ha, decide_eq_false h0]; rfl
  have e2 : rsR sl sv a = nI (nLo ρ) := by unfold rsR; rw [if_pos ha, if_neg h0, hρ, ← hQ'.2.1.lok.1]
  obtain ⟨e3, e4⟩ := rec_ok (v := nI (nLo ρ)) (nI_ge0 (by omega)) (hup H n σ) n
  rw [if_pos e, if_pos e, if_pos e, e2, hρ, hQ'.2.1.lok.1, e3, e4, nx_eq h6] at hc
  refine hc.mono ?_
  rintro r' hp' ⟨rfl, h', rfl, q1, q2⟩
  refine ⟨rfl, h', rfl, hQ', _, T, P, q1, hP, fun _ => ?_⟩
  unfold nx
  by_cases q : n < 6
  · rw [if_pos q, if_pos q]
    exact if_pos (by omega)
  · rw [if_neg q, if_neg q]
    unfold hsh
    rw [if_pos (by decide)]
    exact if_pos (by omega)
theorem ct_undo0 (d : Nat) (hX : XS h x σ 0 τ sl sv) : CT st (d + 4) yX4_undo cX4_undo 1 (some .int) [.ref x] (z, h) 0 0 (XQ (-5) z x σ 0 τ sl sv) := by
  obtain ⟨hQ, H, T, P, hA, hP, hT⟩ := hX
  have hc := xundo (st := st) d (z := z) hA hQ.ok3 (by omega)
  refine hc.mono ?_
  rintro r' hp' ⟨rfl, h', rfl, q1, q2⟩
  exact ⟨rfl, h', rfl, hQ, H, T, P, q1, hP, hT⟩
theorem ct_undo (d : Nat) (hX : XS h x σ (n + 1) τ sl sv) (hQ' : QI τ) : CT st (d + 4) yX4_undo cX4_undo 1 (some .int) [.ref x] (z, h) 0 0 (fun r' hp' => r' = some (.int (nI n)) ∧ ∃ h', hp' = (z, h') ∧ ∃ ρ, XS h' x τ n ρ sl sv) := by
  obtain ⟨hQ, H, T, P, hA, hP, hT⟩ := hX
  have hc := xundo (st := st) d (z := z) hA hQ.ok3 (by omega)
  rw [if_neg (Nat.succ_ne_zero n), if_neg (Nat.succ_ne_zero n)] at hc
  refine hc.mono ?_
  rintro r' hp' ⟨rfl, h', rfl, q1, q2⟩
  have e := hT (Nat.succ_pos n)
  rw [Nat.add_sub_cancel] at e q1 ⊢
  rw [e] at q1
  exact ⟨rfl, h', rfl, H (n - 1), hQ', H, T, P, q1, hP, fun _ => rfl⟩
end XSS
section XSR
variable {st : Nat → Nat} {k : Nat} {y : MethodName} {cc : ByteArray} {nL : Nat} {ret : Option FieldType} {hp0 : Hp} {mc ms : Nat} {fin : Option Value → Hp → Prop} {pc : Nat} {lv lv2 stk stk0 : List Value} {hp : Hp} {cl sl : Nat}
variable {idx n1 nL1 x n : Nat} {y1 : MethodName} {cc1 : ByteArray} {As : List Value} {σ τ : Sg} {sl0 : Nat → Sg} {sv : Nat → Int32}
theorem x_ladd {a b : Int64} (hd : decode cc pc = .ok (.ladd, 1)) (h : Ev st k y cc nL ret hp0 mc ms fin (pc + 1) lv (.long (a + b) :: stk) hp cl sl) : Ev st k y cc nL ret hp0 mc ms fin pc lv (.long b :: .long a :: stk) hp cl sl := by
  intro l D tA base p e s m args below meth c M H locs ls hH hC hz hS hL
  exact lv_ladd M.1 M.2.1 hd (h l D tA base p e s m args below meth c M H locs ls hH hC hz hS hL)
theorem x_lmul {a b : Int64} (hd : decode cc pc = .ok (.lmul, 1)) (h : Ev st k y cc nL ret hp0 mc ms fin (pc + 1) lv (.long (a * b) :: stk) hp cl sl) : Ev st k y cc nL ret hp0 mc ms fin pc lv (.long b :: .long a :: stk) hp cl sl := by
  intro l D tA base p e s m args below meth c M H locs ls hH hC hz hS hL
  exact lv_lmul M.1 M.2.1 hd (h l D tA base p e s m args below meth c M H locs ls hH hC hz hS hL)
theorem x_lret {v : Int64} (hd : decode cc pc = .ok (.lreturn, 1)) (hr : ret = some .long) (hc : cl = mc) (hs : sl ≤ ms) (h : fin (some (.long v)) hp) : Ev st k y cc nL ret hp0 mc ms fin pc lv [.long v] hp cl sl := by
  intro l D tA base p e s m args below meth c M H locs ls hH hC hz hS hL
  refine W.widen (Nat.le_of_eq hc) hs ?_
  have hq : ∀ t : State, t.heap = H → s.WarmedH t.vm → ax_Q D tA base st mc fin args s (.returned (some (.long v))) t := fun t ht _ => ⟨⟨_, hp, rfl, h, by rw [M.2.2.2.2.2.2.2.1, ← hc]; exact hz, by rw [ht]; exact hH, hC⟩, hS.F ht⟩
  exact W.lret M.1 M.2.1 (M.2.2.1.trans hr) hq hS.2.2 hd M.2.2.2.2.2.2.1
theorem e_isd {i : Nat} {a b : Int32} (hd : decode cc pc = .ok (.istore i, 2)) (hn : i < lv.length) (ho : ax_ok lv i = true) (he : a = b) (hl : lv.set i (.int b) = lv2) (h : Ev st k y cc nL ret hp0 mc ms fin (pc + 2) lv2 stk hp cl sl) : Ev st k y cc nL ret hp0 mc ms fin pc lv (.int a :: stk) hp cl sl := by
  subst he
  subst hl
  exact x_istore hd hn ho h
theorem e_isd_n {i : Fin 4} {a b : Int32} (hd : decode cc pc = .ok (.istore_n i, 1)) (hn : (i : Nat) < lv.length) (ho : ax_ok lv i = true) (he : a = b) (hl : lv.set i (.int b) = lv2) (h : Ev st k y cc nL ret hp0 mc ms fin (pc + 1) lv2 stk hp cl sl) : Ev st k y cc nL ret hp0 mc ms fin pc lv (.int a :: stk) hp cl sl := by
  subst he
  subst hl
  exact x_istore_n hd hn ho h
theorem e_incd {i : Nat} {m : Int} {a b : Int32} (hd : decode cc pc = .ok (.iinc i m, 3)) (hi : lv[i]? = some (.int a)) (hv : a + Int32.ofInt m = b) (ho : ax_ok lv i = true) (hl : lv.set i (.int b) = lv2) (h : Ev st k y cc nL ret hp0 mc ms fin (pc + 3) lv2 stk hp cl sl) : Ev st k y cc nL ret hp0 mc ms fin pc lv stk hp cl sl := by
  subst hl
  exact x_iinc hd hi hv ho h
theorem e_lsd_n {i : Fin 4} {a b : Int64} (hd : decode cc pc = .ok (.lstore_n i, 1)) (hn : (i : Nat) + 1 < lv.length) (ho : ax_ok lv i = true) (he : a = b) (hl : (lv.set i (.long b)).set (i + 1) .null = lv2) (h : Ev st k y cc nL ret hp0 mc ms fin (pc + 1) lv2 stk hp cl sl) : Ev st k y cc nL ret hp0 mc ms fin pc lv (.long a :: stk) hp cl sl := by
  subst he
  subst hl
  exact x_lstore_n hd hn ho h
theorem e_top {a b : Int32} (he : a = b) (h : Ev st k y cc nL ret hp0 mc ms fin pc lv (.int b :: stk) hp cl sl) : Ev st k y cc nL ret hp0 mc ms fin pc lv (.int a :: stk) hp cl sl := by
  subst he
  exact h
/-- a call that reads -/
theorem l_rd {w v : Int32} (hd : decode cc pc = .ok (.invokevirtual idx, 3)) (hy : ax_kM y1 cc1 nL1 (some .int) n1) (hi : Cond.instanceMethod y1 ∈ TB ∧ Cond.selects y1.cls y1 y1 ∈ TB) (hl : Cond.methodLink y.cls idx y1 ∈ TB) (hX : XS hp.2 x σ n τ sl0 sv) (hc : ∀ H T P, XAt hp.2 x σ H n sl0 sv T P → Ok3 σ → P.1 ≤ 80 → CT st k y1 cc1 nL1 (some .int) (.ref x :: As) hp 0 0 (RO (some (.int w)) hp)) (hci : (vwCl[4]?).map (fun q => q.1) = some y1.cls) (hs : stk0 = As.reverse ++ .ref x :: stk) (hn : As.length = n1) (hr : (stk.map fun v => v.category).sum ≤ 8) (hm : cl ≤ mc ∧ sl ≤ ms) (he : w = v) (h : Ev st (k + 1) y cc nL ret hp0 mc ms fin (pc + 3) lv (.int v :: stk) hp cl sl) : Ev st (k + 1) y cc nL ret hp0 mc ms fin pc lv stk0 hp cl sl := by
  obtain ⟨hQ, H, T, P, hA, hP, _⟩ := id hX
  subst he
  exact c_VR hd hy hi hl (hc H T P hA hQ.ok3 (by omega)) hA.ob hci hs hn hr hm h
theorem l_cn {d : Nat} {a v : Int32} (hd : decode cc pc = .ok (.invokevirtual idx, 3)) (hl : Cond.methodLink y.cls idx yX4_count ∈ TB) (hX : XS hp.2 x σ n τ sl0 sv) (hr : (stk.map fun v => v.category).sum ≤ 8) (hm : cl ≤ mc ∧ sl ≤ ms) (he : ∀ P : PD, P.1 = 0 → xCount σ n P a = v) (h : Ev st (d + 8) y cc nL ret hp0 mc ms fin (pc + 3) lv (.int v :: stk) hp cl sl) : Ev st (d + 8) y cc nL ret hp0 mc ms fin pc lv (.int a :: .ref x :: stk) hp cl sl := by
  obtain ⟨hQ, H, T, P, hA, hP, _⟩ := id hX
  have hc := xcount (st := st) (d + 2) (z := hp.1) hA hQ.ok3 (by omega) a
  rw [he P hP] at hc
  exact c_VR (k := d + 7) hd kX4_count iX4_count hl hc hA.ob rfl rfl rfl hr hm h
/-- a call that changes, or not -/
theorem l_xq {r : Int32} {σ' τ' : Sg} {n' : Nat} {sl' : Nat → Sg} {sv' : Nat → Int32} (hd : decode cc pc = .ok (.invokevirtual idx, 3)) (hy : ax_kM y1 cc1 nL1 (some .int) n1) (hi : Cond.instanceMethod y1 ∈ TB ∧ Cond.selects y1.cls y1 y1 ∈ TB) (hl : Cond.methodLink y.cls idx y1 ∈ TB) (hX : XS hp.2 x σ n τ sl0 sv) (hc : CT st k y1 cc1 nL1 (some .int) (.ref x :: As) hp 0 0 (XQ r hp.1 x σ' n' τ' sl' sv')) (hci : (vwCl[4]?).map (fun q => q.1) = some y1.cls) (hs : stk0 = As.reverse ++ .ref x :: stk) (hn : As.length = n1) (hr : (stk.map fun v => v.category).sum ≤ 8) (hm : cl ≤ mc ∧ sl ≤ ms) (h : ∀ h', XS h' x σ' n' τ' sl' sv' → Ev st (k + 1) y cc nL ret hp0 mc ms fin (pc + 3) lv (.int r :: stk) (hp.1, h') cl sl) : Ev st (k + 1) y cc nL ret hp0 mc ms fin pc lv stk0 hp cl sl := by
  obtain ⟨fs, ho⟩ := hX.ob
  refine x_callV hd hy hi hl hc ho hci hs hn hr hm (fun r' hp' hq => ?_)
  obtain ⟨rfl, h', rfl, q1⟩ := hq
  exact h h' q1
end XSR
