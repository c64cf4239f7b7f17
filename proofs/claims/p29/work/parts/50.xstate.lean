/-! THE CLASS'S OBJECT at x: the office σ, the history H of which n states count, the slots, what is saved, the pad -/
def qrefs (f : Nat → Option Nat) (n : Nat) : va_E := .inl (3, n, .inr (.inr (.inr (.inr f))))
def XAt (h : Nat → Option va_E) (x : Nat) (σ : Sg) (H : Nat → Sg) (n : Nat) (sl : Nat → Sg) (sv : Nat → Int32) (T : Nat → Nat) (P : PD) : Prop :=
  ∃ p : Nat → Nat, ((∀ i, i < 7 → 1 ≤ p i ∧ p i ≤ 7) ∧ (∀ i j, i < 7 → j < 7 → p i = p j → i = j) ∧ n ≤ 6) ∧
    h x = some (.inr (4, [.ref (x + 1), .ref (x + 17), .ref (x + 19), .int (nI n), .ref (x + 20), .ref (x + 21)])) ∧
    OffAt h (x + 1) σ ∧ (∀ i, i < 7 → OffAt h (x + 6 + 16 * p i) (H i)) ∧ (∀ i, i < 2 → OffAt h (x + 134 + 16 * i) (sl i)) ∧ PadAt h (x + 17) T P ∧
    (∃ f, h (x + 19) = some (qrefs f 7) ∧ ∀ i, i < 7 → f i = some (x + 6 + 16 * p i)) ∧ (∃ f, h (x + 20) = some (qrefs f 2) ∧ ∀ i, i < 2 → f i = some (x + 134 + 16 * i)) ∧ RwAt h 1 (x + 21) 2 sv
def XMO (r0 : Option Value) (z x : Nat) (h : Nat → Option va_E) (σ : Sg) (H : Nat → Sg) (n : Nat) (sl : Nat → Sg) (sv : Nat → Int32) (T : Nat → Nat) (P : PD) : Option Value → Hp → Prop := fun r hp' => r = r0 ∧ ∃ h', hp' = (z, h') ∧ XAt h' x σ H n sl sv T P ∧ Fr x 166 h h'
def hup (H : Nat → Sg) (n : Nat) (σ : Sg) : Nat → Sg := fun i => if i = n then σ else H i
def hsh (H : Nat → Sg) : Nat → Sg := fun i => if i < 6 then H (i + 1) else H 0
/-- the history behind a change that answers v -/
def recN (v : Int32) (n : Nat) : Nat := if 0 ≤ v then (if n < 6 then n + 1 else n) else n
def recH (v : Int32) (H : Nat → Sg) (n : Nat) : Nat → Sg := if 0 ≤ v then (if n < 6 then H else hsh H) else H
section XST
variable {h h' : Nat → Option va_E} {x : Nat} {σ σ' : Sg} {H : Nat → Sg} {n : Nat} {sl : Nat → Sg} {sv : Nat → Int32} {T : Nat → Nat} {P : PD}
theorem XAt.ob (hX : XAt h x σ H n sl sv T P) : h x = some (.inr (4, [.ref (x + 1), .ref (x + 17), .ref (x + 19), .int (nI n), .ref (x + 20), .ref (x + 21)])) := hX.choose_spec.2.1
theorem XAt.n6 (hX : XAt h x σ H n sl sv T P) : n ≤ 6 := hX.choose_spec.1.2.2
theorem XAt.main (hX : XAt h x σ H n sl sv T P) : OffAt h (x + 1) σ := hX.choose_spec.2.2.1
theorem XAt.pad (hX : XAt h x σ H n sl sv T P) : PadAt h (x + 17) T P := hX.choose_spec.2.2.2.2.2.1
theorem XAt.svd (hX : XAt h x σ H n sl sv T P) : RwAt h 1 (x + 21) 2 sv := hX.choose_spec.2.2.2.2.2.2.2.2
theorem qrefs_kept {n a : Nat} {g : Nat → Option Nat} (q : ∃ f, h a = some (qrefs f n) ∧ ∀ i, i < n → f i = g i) (e : h' a = h a) : ∃ f, h' a = some (qrefs f n) ∧ ∀ i, i < n → f i = g i := by
  obtain ⟨f, h1, h2⟩ := q
  exact ⟨f, e.trans h1, h2⟩
/-- the office becomes another -/
theorem XAt.setMain (hX : XAt h x σ H n sl sv T P) (hO : OffAt h' (x + 1) σ') (f : Fr (x + 1) 16 h h') : XAt h' x σ' H n sl sv T P := by
  obtain ⟨p, hp, a1, a2, a3, a4, a5, a6, a7, a8⟩ := hX
  refine ⟨p, hp, (f x (by omega)).trans a1, hO, fun i hi => (a3 i hi).fr f (by have := (hp.1 i hi).1; omega), fun i hi => (a4 i hi).fr f (by omega), a5.kept (fun q h1 h2 => f q (by omega)), qrefs_kept a6 (f _ (by omega)), qrefs_kept a7 (f _ (by omega)), a8.kept (f _ (by omega))⟩
/-- a place of the history becomes another -/
theorem XAt.setH (hX : XAt h x σ H n sl sv T P) {i : Nat} (hi : i < 7) : ∃ a, x + 22 ≤ a ∧ a + 16 ≤ x + 134 ∧ OffAt h a (H i) ∧ (∃ f, h (x + 19) = some (qrefs f 7) ∧ f i = some a) ∧ ∀ h' τ, OffAt h' a τ → Fr a 16 h h' → XAt h' x σ (hup H i τ) n sl sv T P := by
  obtain ⟨p, hp, a1, a2, a3, a4, a5, a6, a7, a8⟩ := hX
  have hpi := hp.1 i hi
  obtain ⟨f6, g1, g2⟩ := a6
  refine ⟨x + 6 + 16 * p i, by omega, by omega, a3 i hi, ⟨f6, g1, g2 i hi⟩, fun h' τ hO f => ?_⟩
  refine ⟨p, hp, (f x (by omega)).trans a1, a2.fr f (by omega), fun j hj => ?_, fun j hj => (a4 j hj).fr f (by omega), a5.kept (fun q h1 h2 => f q (by omega)), qrefs_kept ⟨f6, g1, g2⟩ (f _ (by omega)), qrefs_kept a7 (f _ (by omega)), a8.kept (f _ (by omega))⟩
  have hpj := hp.1 j hj
  by_cases hij : j = i
  · subst hij
    show OffAt h' _ (if j = j then τ else H j)
    rw [if_pos rfl]
    exact hO
  · have hne : p j ≠ p i := fun q => hij (hp.2.1 j i hj hi q)
    show OffAt h' _ (if j = i then τ else H j)
    rw [if_neg hij]
    exact (a3 j hj).fr f (by omega)
theorem XAt.setS (hX : XAt h x σ H n sl sv T P) {i : Nat} (hi : i < 2) : ∃ a, x + 134 ≤ a ∧ a + 16 ≤ x + 166 ∧ OffAt h a (sl i) ∧ (∃ f, h (x + 20) = some (qrefs f 2) ∧ f i = some a) ∧ ∀ h' τ, OffAt h' a τ → Fr a 16 h h' → XAt h' x σ H n (hup sl i τ) sv T P := by
  obtain ⟨p, hp, a1, a2, a3, a4, a5, a6, a7, a8⟩ := hX
  obtain ⟨f7, g1, g2⟩ := a7
  refine ⟨x + 134 + 16 * i, by omega, by omega, a4 i hi, ⟨f7, g1, g2 i hi⟩, fun h' τ hO f => ?_⟩
  refine ⟨p, hp, (f x (by omega)).trans a1, a2.fr f (by omega), fun j hj => ?_, fun j hj => ?_, a5.kept (fun q h1 h2 => f q (by omega)), qrefs_kept a6 (f _ (by omega)), qrefs_kept ⟨f7, g1, g2⟩ (f _ (by omega)), a8.kept (f _ (by omega))⟩
  · have hpj := hp.1 j hj
    exact (a3 j hj).fr f (by omega)
  · by_cases hij : j = i
    · subst hij
      show OffAt h' _ (if j = j then τ else sl j)
      rw [if_pos rfl]
      exact hO
    · show OffAt h' _ (if j = i then τ else sl j)
      rw [if_neg hij]
      exact (a4 j hj).fr f (by omega)
theorem XAt.setPad {T' : Nat → Nat} {P' : PD} (hX : XAt h x σ H n sl sv T P) (hO : PadAt h' (x + 17) T' P') (f : Fr (x + 17) 2 h h') : XAt h' x σ H n sl sv T' P' := by
  obtain ⟨p, hp, a1, a2, a3, a4, a5, a6, a7, a8⟩ := hX
  exact ⟨p, hp, (f x (by omega)).trans a1, a2.fr f (by omega), fun i hi => (a3 i hi).fr f (by have := (hp.1 i hi).1; omega), fun i hi => (a4 i hi).fr f (by omega), hO, qrefs_kept a6 (f _ (by omega)), qrefs_kept a7 (f _ (by omega)), a8.kept (f _ (by omega))⟩
/-- changes is set -/
theorem XAt.setN {m : Nat} (hX : XAt h x σ H n sl sv T P) (hm : m ≤ 6) : XAt (hset h x (.inr (4, [.ref (x + 1), .ref (x + 17), .ref (x + 19), .int (nI m), .ref (x + 20), .ref (x + 21)]))) x σ H m sl sv T P := by
  obtain ⟨p, hp, a1, a2, a3, a4, a5, a6, a7, a8⟩ := hX
  have e : ∀ q, q ≠ x → hset h x (.inr (4, [.ref (x + 1), .ref (x + 17), .ref (x + 19), .int (nI m), .ref (x + 20), .ref (x + 21)])) q = h q := fun q hq => hset_n _ hq
  exact ⟨p, ⟨hp.1, hp.2.1, hm⟩, hset_s _ _ _, a2.kept (fun q _ _ => e q (by omega)), fun i hi => (a3 i hi).kept (fun q _ _ => e q (by omega)), fun i hi => (a4 i hi).kept (fun q _ _ => e q (by omega)), a5.kept (fun q _ _ => e q (by omega)), qrefs_kept a6 (e _ (by omega)), qrefs_kept a7 (e _ (by omega)), a8.kept (e _ (by omega))⟩
theorem XAt.setSv {sv' : Nat → Int32} (hX : XAt h x σ H n sl sv T P) (hO : RwAt h' 1 (x + 21) 2 sv') (e : ∀ q, q ≠ x + 21 → h' q = h q) : XAt h' x σ H n sl sv' T P := by
  obtain ⟨p, hp, a1, a2, a3, a4, a5, a6, a7, a8⟩ := hX
  exact ⟨p, hp, (e x (by omega)).trans a1, a2.kept (fun q _ _ => e q (by omega)), fun i hi => (a3 i hi).kept (fun q _ _ => e q (by have := (hp.1 i hi).1; omega)), fun i hi => (a4 i hi).kept (fun q _ _ => e q (by omega)), a5.kept (fun q _ _ => e q (by omega)), qrefs_kept a6 (e _ (by omega)), qrefs_kept a7 (e _ (by omega)), hO⟩
theorem hup_self (H : Nat → Sg) (n : Nat) (σ : Sg) : hup H n σ n = σ := if_pos rfl
end XST
section XSX
variable {st : Nat → Nat} {k : Nat} {y : MethodName} {cc : ByteArray} {nL : Nat} {ret : Option FieldType} {hp0 : Hp} {mc ms : Nat} {fin : Option Value → Hp → Prop} {pc : Nat} {lv stk stk0 : List Value} {hp : Hp} {cl sl0 : Nat}
variable {x idx n1 nL1 a ci : Nat} {σ σ' : Sg} {H : Nat → Sg} {n : Nat} {sl : Nat → Sg} {sv : Nat → Int32} {T : Nat → Nat} {P : PD} {y1 : MethodName} {cc1 : ByteArray} {ret1 : Option FieldType} {As : List Value} {v : Value} {fs : List Value}
/-- changes is stored -/
theorem X_putN {m : Nat} {w : Int32} (hd : decode cc pc = .ok (.putfield idx, 3)) (hf : ax_fl y.cls idx 4 3 .int false) (hX : XAt hp.2 x σ H n sl sv T P) (hw : w = nI m) (hm : m ≤ 6) (h : ∀ h', XAt h' x σ H m sl sv T P → Fr x 166 hp.2 h' → Ev st k y cc nL ret hp0 mc ms fin (pc + 3) lv stk (hp.1, h') cl sl0) : Ev st k y cc nL ret hp0 mc ms fin pc lv (.int w :: .ref x :: stk) hp cl sl0 := by
  subst hw
  exact x_put hd hf hX.ob rfl rfl (Nat.le_of_ble_eq_true rfl) (h _ (hX.setN hm) (Fr.set _ (Nat.le_refl _) (by omega)))
/-- a row of offices is read -/
theorem X_ald {j len : Nat} {i : Int32} {f : Nat → Option Nat} {r : Nat} (hd : decode cc pc = .ok (.aaload, 1)) (hh : hp.2 a = some (qrefs f len)) (hi : ax_ix i len j) (hr : f j = some r) (h : Ev st k y cc nL ret hp0 mc ms fin (pc + 1) lv (.ref r :: stk) hp cl sl0) : Ev st k y cc nL ret hp0 mc ms fin pc lv (.int i :: .ref a :: stk) hp cl sl0 := x_aald hd hh hi hr h
/-- a call on the office changes it -/
theorem c_XM (hd : decode cc pc = .ok (.invokevirtual idx, 3)) (hy : ax_kM y1 cc1 nL1 ret1 n1) (hi : Cond.instanceMethod y1 ∈ TB ∧ Cond.selects y1.cls y1 y1 ∈ TB) (hl : Cond.methodLink y.cls idx y1 ∈ TB) (hX : XAt hp.2 x σ H n sl sv T P) (hc : CT st k y1 cc1 nL1 ret1 (.ref (x + 1) :: As) hp 0 0 (MO (some v) hp.1 (x + 1) hp.2 σ')) (hci : (vwCl[2]?).map (fun q => q.1) = some y1.cls) (hs : stk0 = As.reverse ++ .ref (x + 1) :: stk) (hn : As.length = n1) (hr : (stk.map fun v => v.category).sum ≤ 8) (hm : cl ≤ mc ∧ sl0 ≤ ms) (h : ∀ h', XAt h' x σ' H n sl sv T P → Fr x 166 hp.2 h' → Ev st (k + 1) y cc nL ret hp0 mc ms fin (pc + 3) lv (v :: stk) (hp.1, h') cl sl0) : Ev st (k + 1) y cc nL ret hp0 mc ms fin pc lv stk0 hp cl sl0 :=
  c_VM hd hy hi hl hc hX.main.ob hci hs hn hr hm (fun h' hO f => h h' (hX.setMain hO f) (f.wide (by omega) (by omega)))
/-- a call on the pad changes it -/
theorem c_XP {T' : Nat → Nat} {P' : PD} (hd : decode cc pc = .ok (.invokevirtual idx, 3)) (hy : ax_kM y1 cc1 nL1 ret1 n1) (hi : Cond.instanceMethod y1 ∈ TB ∧ Cond.selects y1.cls y1 y1 ∈ TB) (hl : Cond.methodLink y.cls idx y1 ∈ TB) (hX : XAt hp.2 x σ H n sl sv T P) (hc : CT st k y1 cc1 nL1 ret1 (.ref (x + 17) :: As) hp 0 0 (PQ hp.1 (x + 17) hp.2 (some v) T' P')) (hci : (vwCl[3]?).map (fun q => q.1) = some y1.cls) (hs : stk0 = As.reverse ++ .ref (x + 17) :: stk) (hn : As.length = n1) (hr : (stk.map fun v => v.category).sum ≤ 8) (hm : cl ≤ mc ∧ sl0 ≤ ms) (h : ∀ h', XAt h' x σ H n sl sv T' P' → Fr x 166 hp.2 h' → Ev st (k + 1) y cc nL ret hp0 mc ms fin (pc + 3) lv (v :: stk) (hp.1, h') cl sl0) : Ev st (k + 1) y cc nL ret hp0 mc ms fin pc lv stk0 hp cl sl0 :=
  x_callV hd hy hi hl hc hX.pad.ob hci hs hn hr hm (fun r hp' hq => by
    obtain ⟨rfl, h2, rfl, q1, q2⟩ := hq
    exact h h2 (hX.setPad q1 q2) (q2.wide (by omega) (by omega)))
/-- a call on the object itself -/
theorem c_XX {σ2 : Sg} {H2 : Nat → Sg} {n2 : Nat} {sl2 : Nat → Sg} {sv2 : Nat → Int32} {T2 : Nat → Nat} {P2 : PD} {r : Option Value} (hd : decode cc pc = .ok (.invokevirtual idx, 3)) (hy : ax_kM y1 cc1 nL1 ret1 n1) (hi : Cond.instanceMethod y1 ∈ TB ∧ Cond.selects y1.cls y1 y1 ∈ TB) (hl : Cond.methodLink y.cls idx y1 ∈ TB) (hX : XAt hp.2 x σ H n sl sv T P) (hc : CT st k y1 cc1 nL1 ret1 (.ref x :: As) hp 0 0 (XMO r hp.1 x hp.2 σ2 H2 n2 sl2 sv2 T2 P2)) (hci : (vwCl[4]?).map (fun q => q.1) = some y1.cls) (hs : stk0 = As.reverse ++ .ref x :: stk) (hn : As.length = n1) (hr : (stk.map fun v => v.category).sum ≤ 8) (hm : cl ≤ mc ∧ sl0 ≤ ms) (h : ∀ h', XAt h' x σ2 H2 n2 sl2 sv2 T2 P2 → Fr x 166 hp.2 h' → Ev st (k + 1) y cc nL ret hp0 mc ms fin (pc + 3) lv (r.toList ++ stk) (hp.1, h') cl sl0) : Ev st (k + 1) y cc nL ret hp0 mc ms fin pc lv stk0 hp cl sl0 :=
  x_callV hd hy hi hl hc hX.ob hci hs hn hr hm (fun r hp' hq => by
    obtain ⟨rfl, h2, rfl, q1, q2⟩ := hq
    exact h h2 q1 q2)
end XSX
