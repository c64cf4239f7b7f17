/-! THE CLAIM: the start of the law, out of what the Statement gives -/
theorem hts_at {s : State} {A : Array Value} (hts : ∀ w ∈ lw_tbl, w.before A s = true) (i : Nat) {w : Cond} (h : lw_tbl[i]? = some w) : w.before A s = true := hts w (List.mem_of_getElem? h)
theorem stat_0 {s : State} {b : Nat} (hts : ∀ w ∈ lw_tbl, w.before #[Value.ref b] s = true) (hgv : (Jvm.Cond.and given_1 narrow_1).before #[Value.ref b] s = true) : ∃ t : Nat, va_T .int t 5 (fun i => .int (ax_f 0 i)) (fun q => s.heap.size ≤ q) s s.heap ∧ va_Z "EscheatLots" "LEAST" "[I" (.ref t) (fun q => s.heap.size ≤ q) s s.heap := by
  have hs := flat_of_before _ hgv
  have hA : ∀ a : Nat, a < s.heap.size → ¬ s.heap.size ≤ a := fun a h => Nat.not_le.mpr h
  have harr : (Cond.arrayOf (.static "EscheatLots" "LEAST" "[I") .int).before #[Value.ref b] s = true := hs _ (by decide +kernel)
  have hlen : (Cond.eq (.length (.static "EscheatLots" "LEAST" "[I")) (.int 5)).before #[Value.ref b] s = true := hs _ (by decide +kernel)
  have e0 : (Cond.eq (.elem (.static "EscheatLots" "LEAST" "[I") (.int 0)) (.int 1)).before #[Value.ref b] s = true := hs _ (by decide +kernel)
  have e1 : (Cond.eq (.elem (.static "EscheatLots" "LEAST" "[I") (.int 1)) (.int 1)).before #[Value.ref b] s = true := hs _ (by decide +kernel)
  have e2 : (Cond.eq (.elem (.static "EscheatLots" "LEAST" "[I") (.int 2)) (.int 1)).before #[Value.ref b] s = true := hs _ (by decide +kernel)
  have e3 : (Cond.eq (.elem (.static "EscheatLots" "LEAST" "[I") (.int 3)) (.int 0)).before #[Value.ref b] s = true := hs _ (by decide +kernel)
  have e4 : (Cond.eq (.elem (.static "EscheatLots" "LEAST" "[I") (.int 4)) (.int 0)).before #[Value.ref b] s = true := hs _ (by decide +kernel)
  obtain ⟨t, h1, h2⟩ := va_Tof (tm := .static "EscheatLots" "LEAST" "[I") (ty := .int) (N := 5) (f := fun i => .int (ax_f 0 i)) (A := fun q => s.heap.size ≤ q) (by decide) harr (va_eqt hlen) (fun k hk => by
    rcases (show k = 0 ∨ k = 1 ∨ k = 2 ∨ k = 3 ∨ k = 4 by omega) with rfl | rfl | rfl | rfl | rfl
    · exact va_eqt e0
    · exact va_eqt e1
    · exact va_eqt e2
    · exact va_eqt e3
    · exact va_eqt e4) hA
  exact ⟨t, h2, va_Zof (hts_at hts 454 (by decide +kernel)) (hts_at hts 21 (by decide +kernel)) h1 hA⟩
theorem stat_1 {s : State} {b : Nat} (hts : ∀ w ∈ lw_tbl, w.before #[Value.ref b] s = true) (hgv : (Jvm.Cond.and given_1 narrow_1).before #[Value.ref b] s = true) : ∃ t : Nat, va_T .int t 5 (fun i => .int (ax_f 1 i)) (fun q => s.heap.size ≤ q) s s.heap ∧ va_Z "EscheatLots" "MOST" "[I" (.ref t) (fun q => s.heap.size ≤ q) s s.heap := by
  have hs := flat_of_before _ hgv
  have hA : ∀ a : Nat, a < s.heap.size → ¬ s.heap.size ≤ a := fun a h => Nat.not_le.mpr h
  have harr : (Cond.arrayOf (.static "EscheatLots" "MOST" "[I") .int).before #[Value.ref b] s = true := hs _ (by decide +kernel)
  have hlen : (Cond.eq (.length (.static "EscheatLots" "MOST" "[I")) (.int 5)).before #[Value.ref b] s = true := hs _ (by decide +kernel)
  have e0 : (Cond.eq (.elem (.static "EscheatLots" "MOST" "[I") (.int 0)) (.int 400)).before #[Value.ref b] s = true := hs _ (by decide +kernel)
  have e1 : (Cond.eq (.elem (.static "EscheatLots" "MOST" "[I") (.int 1)) (.int 100)).before #[Value.ref b] s = true := hs _ (by decide +kernel)
  have e2 : (Cond.eq (.elem (.static "EscheatLots" "MOST" "[I") (.int 2)) (.int 200)).before #[Value.ref b] s = true := hs _ (by decide +kernel)
  have e3 : (Cond.eq (.elem (.static "EscheatLots" "MOST" "[I") (.int 3)) (.int 400)).before #[Value.ref b] s = true := hs _ (by decide +kernel)
  have e4 : (Cond.eq (.elem (.static "EscheatLots" "MOST" "[I") (.int 4)) (.int 50)).before #[Value.ref b] s = true := hs _ (by decide +kernel)
  obtain ⟨t, h1, h2⟩ := va_Tof (tm := .static "EscheatLots" "MOST" "[I") (ty := .int) (N := 5) (f := fun i => .int (ax_f 1 i)) (A := fun q => s.heap.size ≤ q) (by decide) harr (va_eqt hlen) (fun k hk => by
    rcases (show k = 0 ∨ k = 1 ∨ k = 2 ∨ k = 3 ∨ k = 4 by omega) with rfl | rfl | rfl | rfl | rfl
    · exact va_eqt e0
    · exact va_eqt e1
    · exact va_eqt e2
    · exact va_eqt e3
    · exact va_eqt e4) hA
  exact ⟨t, h2, va_Zof (hts_at hts 456 (by decide +kernel)) (hts_at hts 21 (by decide +kernel)) h1 hA⟩
theorem stat_2 {s : State} {b : Nat} (hts : ∀ w ∈ lw_tbl, w.before #[Value.ref b] s = true) (hgv : (Jvm.Cond.and given_1 narrow_1).before #[Value.ref b] s = true) : ∃ t : Nat, va_T .int t 5 (fun i => .int (ax_f 2 i)) (fun q => s.heap.size ≤ q) s s.heap ∧ va_Z "EscheatLots" "AT_FIRST" "[I" (.ref t) (fun q => s.heap.size ≤ q) s s.heap := by
  have hs := flat_of_before _ hgv
  have hA : ∀ a : Nat, a < s.heap.size → ¬ s.heap.size ≤ a := fun a h => Nat.not_le.mpr h
  have harr : (Cond.arrayOf (.static "EscheatLots" "AT_FIRST" "[I") .int).before #[Value.ref b] s = true := hs _ (by decide +kernel)
  have hlen : (Cond.eq (.length (.static "EscheatLots" "AT_FIRST" "[I")) (.int 5)).before #[Value.ref b] s = true := hs _ (by decide +kernel)
  have e0 : (Cond.eq (.elem (.static "EscheatLots" "AT_FIRST" "[I") (.int 0)) (.int 366)).before #[Value.ref b] s = true := hs _ (by decide +kernel)
  have e1 : (Cond.eq (.elem (.static "EscheatLots" "AT_FIRST" "[I") (.int 1)) (.int 60)).before #[Value.ref b] s = true := hs _ (by decide +kernel)
  have e2 : (Cond.eq (.elem (.static "EscheatLots" "AT_FIRST" "[I") (.int 2)) (.int 90)).before #[Value.ref b] s = true := hs _ (by decide +kernel)
  have e3 : (Cond.eq (.elem (.static "EscheatLots" "AT_FIRST" "[I") (.int 3)) (.int 30)).before #[Value.ref b] s = true := hs _ (by decide +kernel)
  have e4 : (Cond.eq (.elem (.static "EscheatLots" "AT_FIRST" "[I") (.int 4)) (.int 5)).before #[Value.ref b] s = true := hs _ (by decide +kernel)
  obtain ⟨t, h1, h2⟩ := va_Tof (tm := .static "EscheatLots" "AT_FIRST" "[I") (ty := .int) (N := 5) (f := fun i => .int (ax_f 2 i)) (A := fun q => s.heap.size ≤ q) (by decide) harr (va_eqt hlen) (fun k hk => by
    rcases (show k = 0 ∨ k = 1 ∨ k = 2 ∨ k = 3 ∨ k = 4 by omega) with rfl | rfl | rfl | rfl | rfl
    · exact va_eqt e0
    · exact va_eqt e1
    · exact va_eqt e2
    · exact va_eqt e3
    · exact va_eqt e4) hA
  exact ⟨t, h2, va_Zof (hts_at hts 112 (by decide +kernel)) (hts_at hts 21 (by decide +kernel)) h1 hA⟩
theorem arr_prim {s : State} {A : Array Value} {ty : FieldType} (hp : ∀ k, ty = .array k → False) (hs : ∀ cA, s.vm.findClass ("[" ++ ty.toString) = some cA → va_RA s cA ty) (h : (Cond.arrayClass ty).before A s = true) : ∃ cA, ArrOfT s cA ty ∧ va_RA s cA ty := by
  obtain ⟨cA, kA, comp, h1, h2, h3⟩ := Cond.arrayClass_spec h
  exact ⟨cA, fun n z => ⟨fun k h => (by cases h), kA, h2, comp, h3⟩, hs cA h1⟩
theorem arr_off {s : State} {A : Array Value} (h : (Cond.arrayOver (.object "EscheatLots$Office")).before A s = true) : ∃ cA, ArrOfT s cA (.object "EscheatLots$Office") ∧ va_RA s cA (.object "EscheatLots$Office") := by
  obtain ⟨comp, cA, kA, h1, h2, h3, h4, h5⟩ := Cond.arrayOver_spec h
  exact ⟨cA, fun n z => ⟨fun k h => (by cases h), kA, h3, comp, h4⟩, kA, comp, h3, h4, h1, h5⟩
theorem stat_ne {s : State} {j k t : Nat} {A : Nat → Prop} (h1 : va_T .int t 5 (fun i => .int (ax_f j i)) A s s.heap) (h2 : va_T .int t 5 (fun i => .int (ax_f k i)) A s s.heap) : ax_f j 0 = ax_f k 0 := by
  obtain ⟨c1, a1, _, _, _, _, a2, _⟩ := h1
  obtain ⟨c2, b1, _, _, _, _, b2, _⟩ := h2
  have e : c1 = c2 := Option.some.inj (a1.symm.trans b1)
  subst e
  have := (a2 0 (by decide)).symm.trans (b2 0 (by decide))
  exact Value.int.inj (Option.some.inj this)
def stOf (t0 t1 t2 : Nat) : Nat → Nat := fun j => match j with
  | 0 => t0
  | 1 => t1
  | _ => t2
def hOf (t0 t1 t2 : Nat) : Nat → Option va_E := fun q => if q = t0 then some (.inl (4, 5, .inl (ax_f 0))) else if q = t1 then some (.inl (4, 5, .inl (ax_f 1))) else if q = t2 then some (.inl (4, 5, .inl (ax_f 2))) else none
theorem hOf_C {base z t0 t1 t2 : Nat} (n01 : t0 ≠ t1) (n02 : t0 ≠ t2) (n12 : t1 ≠ t2) : ax_C base (stOf t0 t1 t2) (z, hOf t0 t1 t2) := by
  refine ⟨fun j hj => ?_, fun a e he => Or.inr ?_⟩
  · rcases (show j = 0 ∨ j = 1 ∨ j = 2 by omega) with rfl | rfl | rfl
    · exact if_pos rfl
    · exact (if_neg (fun q => n01 q.symm)).trans (if_pos rfl)
    · exact (if_neg (fun q => n02 q.symm)).trans ((if_neg (fun q => n12 q.symm)).trans (if_pos rfl))
  · have he : (if a = t0 then some (.inl (4, 5, .inl (ax_f 0))) else if a = t1 then some (.inl (4, 5, .inl (ax_f 1))) else if a = t2 then some (.inl (4, 5, .inl (ax_f 2))) else none) = some e := he
    split at he
    next q => exact ⟨0, by decide, q, (Option.some.inj he).symm⟩
    split at he
    next q => exact ⟨1, by decide, q, (Option.some.inj he).symm⟩
    split at he
    next q => exact ⟨2, by decide, q, (Option.some.inj he).symm⟩
    cases he
theorem know {s : State} {A : Array Value} (hTB : ∀ w ∈ TB, w.before A s = true) {ci n : Nat} {q : vw_C} (hc : vwCl[ci]? = some q) (hi : Cond.instantiable q.1 n ∈ TB) : ∃ (cC : ClassId) (iS : Nat → Nat), u_Kn s q.1 q.2.1 q.2.2 cC iS := u_known hTB (ax_cls hc).1 (hTB _ hi)
set_option maxHeartbeats 4000000 in
theorem whole_start {p : Program} {e : Env} {s : State} {m : MethodId} {below : List Frame} {meth : Method} {c : Code} (l : Launch) (hflags : l.flags = flags0) {b L : Nat} {xs : Nat → Int32} (hL : L ≤ 260) (C0 : lw_At p s m meth c b L xs) : W p l e room_1 s m #[Value.ref b] below meth c s.heap [] 0 0 (lw_Z below #[Value.ref b] s) (entryFrame m ([Value.ref b] : List Value).toArray 13) := by
  obtain ⟨hx, hb, hr, hml, hown, hts, hX, hbl, hlocks, hgv⟩ := C0
  have hTB : ∀ w ∈ TB, w.before #[Value.ref b] s = true := fun w hw => hts w (List.mem_filter.mp hw).1
  obtain ⟨c0, i0, k0⟩ := know hTB (ci := 0) rfl q73
  obtain ⟨c1, i1, k1⟩ := know hTB (ci := 1) rfl q44
  obtain ⟨c2, i2, k2⟩ := know hTB (ci := 2) rfl q38
  obtain ⟨c3, i3, k3⟩ := know hTB (ci := 3) rfl q146
  obtain ⟨c4, i4, k4⟩ := know hTB (ci := 4) rfl q30
  obtain ⟨D, hD⟩ : ∃ D : va_G, ∀ (k : Nat) (q : vw_C), vwCl[k]? = some q → u_Kn s q.1 q.2.1 q.2.2 (D.1 k) (D.2 k) := by
    refine ⟨(fun k => match k with | 0 => c0 | 1 => c1 | 2 => c2 | 3 => c3 | _ => c4, fun k => match k with | 0 => i0 | 1 => i1 | 2 => i2 | 3 => i3 | _ => i4), ?_⟩
    intro k q hq
    match k, hq with
    | 0, hq => cases hq; exact k0
    | 1, hq => cases hq; exact k1
    | 2, hq => cases hq; exact k2
    | 3, hq => cases hq; exact k3
    | 4, hq => cases hq; exact k4
    | k + 5, hq => simp [vwCl] at hq
  obtain ⟨a0, r0, s0⟩ := arr_prim (ty := .int) (fun k h => by cases h) (fun cA h => h) (hTB _ q71)
  obtain ⟨a1, r1, s1⟩ := arr_prim (ty := .boolean) (fun k h => by cases h) (fun cA h => h) (hTB _ q200)
  obtain ⟨a2, r2, s2⟩ := arr_prim (ty := .char) (fun k h => by cases h) (fun cA h => h) (hTB _ q179)
  have hov : (Cond.arrayOver (.object "EscheatLots$Office")).before #[Value.ref b] s = true := hts_at hts 180 (by decide +kernel)
  obtain ⟨a3, r3, s3⟩ := arr_off hov
  obtain ⟨t0, T0, Z0⟩ := stat_0 hts hgv
  obtain ⟨t1, T1, Z1⟩ := stat_1 hts hgv
  obtain ⟨t2, T2, Z2⟩ := stat_2 hts hgv
  have n01 : t0 ≠ t1 := fun q => by
    subst q
    exact absurd (stat_ne T0 T1) (by decide)
  have n02 : t0 ≠ t2 := fun q => by
    subst q
    exact absurd (stat_ne T0 T2) (by decide)
  have n12 : t1 ≠ t2 := fun q => by
    subst q
    exact absurd (stat_ne T1 T2) (by decide)
  have hI : ax_I D (fun t => match t with | 0 => a0 | 1 => a1 | 2 => a2 | _ => a3) s.heap.size (stOf t0 t1 t2) s := by
    refine ⟨⟨hD, fun k q hq => ?_⟩, fun j hj => ?_, fun w hw => ?_, va_AO.of hov⟩
    · match k, hq with
      | 0, hq => cases hq; exact ⟨r0, s0⟩
      | 1, hq => cases hq; exact ⟨r1, s1⟩
      | 2, hq => cases hq; exact ⟨r2, s2⟩
      | 3, hq => cases hq; exact ⟨r3, s3⟩
      | k + 4, hq => simp [ax_tys] at hq
    · rcases (show j = 0 ∨ j = 1 ∨ j = 2 by omega) with rfl | rfl | rfl
      · exact ⟨T0, Z0⟩
      · exact ⟨T1, Z1⟩
      · exact ⟨T2, Z2⟩
    · obtain ⟨h1, h2⟩ := List.mem_filter.mp hw
      refine va_Nw.of ?_ (hts w h1)
      cases w <;> first | rfl | cases h2
  rw [lg_entry_eq]
  refine law_entry (st := stOf t0 t1 t2) (b := b) (L := L) (xs := xs) hL s.heap.size (hOf t0 t1 t2) l D _ s.heap.size p e s m #[Value.ref b] below meth c ⟨hx, hb, hr, hml, hown, hTB, hlocks, rfl, Nat.le_refl _, ⟨hX, hbl, rfl, rfl⟩, hI⟩ s.heap [] _ ⟨rfl, Nat.le_refl _, fun k q hq => ?_⟩ (hOf_C n01 n02 n12) rfl va_S.rf ⟨rfl, ?_⟩
  · exact absurd (ax_ws_get hq).1 (by omega)
  · exact lv_entry [Value.ref b] (n := 13) (Nat.le_of_ble_eq_true rfl)
-- ===== YOUR PART ENDS =====
set_option maxHeartbeats 4000000 in
theorem lw_walk (l : Launch) (hflags : l.flags = flags0) (b : Addr) (xs : List Int32) : MetFree l x (headSpec (Jvm.Cond.code x code maxLocals ret :: tables_1) room_1) (lw_P b xs) (fun _ _ _ _ _ => True) lw_Q := by
  refine MetFree.of_bodyS (code := code) (maxLocals := maxLocals) (ret := ret) (by decide) ?_ ?_
  · intro args s m h hn
    obtain ⟨meth, c, h1, h2, h3, h4, h5, h6, -, -⟩ := Cond.code_spec hn (atoms_spec (ws := Jvm.Cond.code x code maxLocals ret :: tables_1) h _ List.mem_cons_self)
    exact ⟨meth, c, h1, h2, h3, h4, h5, h6⟩
  · intro p e s m args below meth c s₁ B hml0 hP _
    obtain ⟨rfl, hx, hbd, hgv⟩ := hP
    obtain ⟨scr, harrAt, hlist, hof, hsmall⟩ := hx
    obtain ⟨hcb, hkn, -, -⟩ := State.arrayAt?_spec harrAt
    have hown : s.vm.findClass R_law = some m.cls := findClass_of_methodNamed B.named
    have hts0 : ∀ c ∈ (Jvm.Cond.code x code maxLocals ret :: tables_1), c.before #[Value.ref b] s = true := atoms_spec (ws := Jvm.Cond.code x code maxLocals ret :: tables_1) B.pre
    have hts : ∀ w ∈ lw_tbl, w.before #[Value.ref b] s = true := k2_hts_sels lw_privs (fun w hw => hts0 w (List.mem_cons_of_mem _ hw)) lw_privs_ok
    have hml : c.maxLocals = 13 := B.maxLocals_eq (hts0 _ List.mem_cons_self)
    have X₀ : Stand p l e room_1 s m #[Value.ref b] below meth c s₁ [] 0 0 := Stand.of_body B
    have hh0 : s₁.heap = s.heap := by rw [B.state]; rfl
    have hsz : scr.slots.size = xs.length := by rw [← Array.length_toList, hlist, List.length_map]
    have hval : ∀ j : Nat, j < xs.length → scr.slots[j]? = some (.int (xs.getD j 0)) := fun j hj => by
      rw [← Array.getElem?_toList, hlist]
      simp [hj]
    have hbl : b < s.heap.size := (Array.getElem?_eq_some_iff.mp hcb).1
    have hX : va_X b xs.length (fun j => xs.getD j 0) s s.heap := ⟨scr, hcb, hof, hkn, hsz, hval⟩
    have K : W p l e room_1 s m #[Value.ref b] below meth c s₁.heap [] 0 0 (lw_Z below #[Value.ref b] s) (entryFrame m ([Value.ref b] : List Value).toArray 13) := by
      rw [hh0]
      exact whole_start l hflags hbd ⟨B.exec, B.bytes, B.returns, hml, hown, hts, hX, hbl, B.notSynchronized, hgv⟩
    obtain ⟨t, a1, o, b1, b2, b3⟩ := K s₁ rfl X₀
    exact ⟨t, o, a1, b1, b2, b3⟩
theorem lw_pre_spec {args : Array Value} {s : State} (h : (Jvm.Cond.and given_1 narrow_1).before args s = true) (hr : rest_1_c.before args s = true) : ∃ (b : Addr) (xs : List Int32), lw_P b xs args s := by
  have hs := flat_of_before _ h
  have hq := flat_of_before _ hr
  have hc : (Cond.count 1).before args s = true := hs _ (by decide +kernel)
  have harr : (Cond.arrayOf (.arg 0) .int).before args s = true := hs _ (by decide +kernel)
  have hle : (Cond.le (.length (.arg 0)) (.int 260)).before args s = true := hs _ (by decide +kernel)
  have hlen : (Cond.isInt (.length (.arg 0))).before args s = true := hq _ (by decide +kernel)
  have hall : (Cond.all (.arg 0) (.isInt (.elem (.arg 0) (.index 0)))).before args s = true := hq _ (by decide +kernel)
  obtain ⟨b, xs, hb, hx⟩ := State.ints_of_pre rfl harr hlen hall
  have hsm : xs.length < 2 ^ 31 := hx.choose_spec.2.2.2
  have hev : (Term.length (.arg 0)).eval args s none [] s = some (.int xs.length.toInt32) := hx.length_eval hb
  have hv := Cond.le_ints hev (show (Term.int 260).eval args s none [] s = some (.int 260) from rfl)
  have hd : xs.length.toInt32 ≤ 260 := by
    simpa [Cond.before, Cond.holds, hv] using hle
  have hN : xs.length ≤ 260 := (Int32.ofNat_le_ofNat hsm (by decide)).mp (show Int32.ofNat xs.length ≤ Int32.ofNat 260 from hd)
  exact ⟨b, xs, Cond.one_arg hc (show args[0]? = some (.ref b) from hb), hx, hN, h⟩
theorem lw_comes (l : Launch) (hflags : l.flags = flags0) : Comes l x (Jvm.Cond.code x code maxLocals ret :: tables_1) room_1 (fun tb e args s => Calls_1 tb e args s ∧ rest_1 tb e args s ∧ Pre_1 tb e args s)
    (fun _ _ args s o t => lw_Q args s o t) := by
  intro p e ha hc hk s m args below hf hfit hheap happ hpre
  obtain ⟨b, xs, hP⟩ := lw_pre_spec hpre.2.2 hpre.2.1
  obtain ⟨k, o, h1, h2, h3, hQ⟩ := lw_walk l hflags b xs p e ha hc hk s m args below hf ((Spec.applies_iff_loose hf).mp happ).1 hP trivial
  exact ⟨k, o, h1, h2, h3, hQ⟩
theorem lw_frame {s t : State} {o : Outcome} {args : Array Value} (h : Framed s o t [] 600000 7302250) :
    Framed s o t (fieldLocs frame_1_writes args s ++ arrayLocs frame_1_arrays args s ++ staticLocs frame_1_statics s) 600000 7302250 := h
theorem lw_limb (L : Cond) (hL : ∀ (args : Array Value) (s t : State), L.after args s (.returned (some (.int 1))) t = true) :
    ArmFor flags0 classFile x code maxLocals ret World_1 tables_1 room_1 Calls_1 rest_1 Pre_1
      (fun tb e a s o t => postC L tb e a s o t ∧ Framed s o t (fieldLocs frame_1_writes a s ++ arrayLocs frame_1_arrays a s ++ staticLocs frame_1_statics s) 600000 7302250) := by
  intro l hflags _ _ p e ha hc hk s m args below hf hfit hheap happ hpre
  obtain ⟨k, o, h1, h2, h3, rfl, hF⟩ := lw_comes l hflags p e ha hc hk s m args below hf hfit hheap happ hpre
  exact ⟨k, _, h1, h2, h3, hL args s _, lw_frame hF⟩
theorem i_vc : Claimed_1_1 ∧ Claimed_1_2 := ⟨lw_limb limb_1_1 (fun args s t => by simp [limb_1_1, Cond.after, Cond.holds, Cond.value]), lw_limb limb_1_2 (fun args s t => Cond.after_iff.mpr (by
  first | (rw [show limb_1_2 = Cond.eq .result (.int 1) from rfl, Cond.eq_ints (x := 1) (y := 1) rfl rfl]; simp; done) | (simp [limb_1_2, Cond.value, Term.eval]; done)))⟩
