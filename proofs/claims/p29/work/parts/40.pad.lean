/-! THE PAD of the class: its text T, and (length, at, kind, first, second, third) -/
abbrev PD : Type := Nat × Nat × Nat × Int32 × Int32 × Int32
def pfs (a : Nat) (P : PD) : List Value := [.ref (a + 1), .int (nI P.1), .int (nI P.2.1), .int (nI P.2.2.1), .int P.2.2.2.1, .int P.2.2.2.2.1, .int P.2.2.2.2.2]
def PadAt (h : Nat → Option va_E) (a : Nat) (T : Nat → Nat) (P : PD) : Prop := h a = some (.inr (3, pfs a P)) ∧ RwAt h 2 (a + 1) 80 (fun i => nI (T i)) ∧ ∀ i, T i < 65536
theorem PadAt.ob {h : Nat → Option va_E} {a : Nat} {T : Nat → Nat} {P : PD} (H : PadAt h a T P) : h a = some (.inr (3, [.ref (a + 1), .int (nI P.1), .int (nI P.2.1), .int (nI P.2.2.1), .int P.2.2.2.1, .int P.2.2.2.2.1, .int P.2.2.2.2.2])) := H.1
theorem PadAt.tx {h : Nat → Option va_E} {a : Nat} {T : Nat → Nat} {P : PD} (H : PadAt h a T P) : RwAt h 2 (a + 1) 80 (fun i => nI (T i)) := H.2.1
theorem PadAt.kept {h h' : Nat → Option va_E} {a : Nat} {T : Nat → Nat} {P : PD} (H : PadAt h a T P) (e : ∀ q, a ≤ q → q < a + 2 → h' q = h q) : PadAt h' a T P := ⟨(e _ (by omega) (by omega)).trans H.1, H.2.1.kept (e _ (by omega) (by omega)), H.2.2⟩
def PMO (r0 : Option Value) (z a : Nat) (h : Nat → Option va_E) (T : Nat → Nat) (P' : PD) : Option Value → Hp → Prop := fun r hp' => r = r0 ∧ ∃ h', hp' = (z, h') ∧ PadAt h' a T P' ∧ Fr a 2 h h'
/-- reads: a digit, a number, a sign, an order -/
def rdD (T : Nat → Nat) (n a : Nat) : Int32 × Nat :=
  if nI n ≤ nI a then (-1, a) else if nI (T a) < 48 then (-1, a) else if nI (T a) ≤ 57 then (nI (T a) - 48, a + 1) else (-1, a)
def rdL (T : Nat → Nat) (n : Nat) : Nat → Int32 → Nat → Int32 × Nat
  | 0, x, a => (x, a)
  | k + 1, x, a => if 0 ≤ (rdD T n a).1 then rdL T n k (x * 10 + (rdD T n a).1) (rdD T n a).2 else (x, (rdD T n a).2)
def rdN (T : Nat → Nat) (n a : Nat) : Int32 × Nat := if 0 < (rdD T n a).1 then rdL T n 3 (rdD T n a).1 (rdD T n a).2 else rdD T n a
def rdF1 (T : Nat → Nat) (P : PD) : Bool × PD := let q := rdN T P.1 P.2.1
  (!decide (q.1 < 0), (P.1, q.2, P.2.2.1, q.1, P.2.2.2.2.1, P.2.2.2.2.2))
def rdF2 (T : Nat → Nat) (P : PD) : Bool × PD := let q := rdN T P.1 P.2.1
  (!decide (q.1 < 0), (P.1, q.2, P.2.2.1, P.2.2.2.1, q.1, P.2.2.2.2.2))
def rdF3 (T : Nat → Nat) (P : PD) : Bool × PD := let q := rdD T P.1 P.2.1
  (!decide (q.1 < 0), (P.1, q.2, P.2.2.1, P.2.2.2.1, P.2.2.2.2.1, q.1))
def pAt (P : PD) (m : Nat) : PD := (P.1, m, P.2.2)
def rdS (T : Nat → Nat) (c : Int32) (P : PD) : Bool × PD :=
  if nI P.1 ≤ nI P.2.1 then (false, P) else if nI (T P.2.1) = c then (true, pAt P (P.2.1 + 1)) else (false, P)
def pKd (P : PD) (k : Nat) : PD := (P.1, P.2.1, k, P.2.2.2)
def thn (q : Bool × PD) (f : PD → Bool × PD) : Bool × PD := if q.1 = false then (false, q.2) else f q.2
theorem thn_f {q : Bool × PD} (f : PD → Bool × PD) (h : q.1 = false) : thn q f = (false, q.2) := if_pos h
theorem thn_t {q : Bool × PD} (f : PD → Bool × PD) (h : q.1 = true) : thn q f = f q.2 := if_neg (by rw [h]; decide)
def rdP (T : Nat → Nat) (P : PD) : Bool × PD := thn (rdF1 T P) fun Q => thn (rdS T 43 Q) (rdF2 T)
def rdC (T : Nat → Nat) (P : PD) : Bool × PD := thn (rdF1 T P) fun Q => thn (rdS T 64 Q) fun Q => thn (rdF2 T Q) fun Q => thn (rdS T 47 Q) (rdF3 T)
def rdO (T : Nat → Nat) (P : PD) : Bool × PD :=
  if nI P.1 ≤ nI P.2.1 then (false, P) else
  let k := T P.2.1
  let P0 := pKd P k
  let P1 := pAt P0 (P.2.1 + 1)
  if nI k = 99 then rdC T P1 else if nI k = 100 then rdF1 T P1 else if nI k = 108 then rdF1 T P1 else if nI k = 110 then rdF1 T P1 else if nI k = 112 then rdP T P1
  else if nI k = 115 then rdF1 T P1 else if nI k = 116 then rdF1 T P1 else if nI k = 119 then rdF1 T P1 else (false, P0)
def ffl (T : Nat → Nat) : Nat → Bool → PD → Bool × PD
  | 0, g, P => (g, P)
  | k + 1, g, P => if g = false then (g, P) else if nI P.1 ≤ nI P.2.1 then (g, P) else
      if (rdS T 59 P).1 = false then ffl T k false (rdS T 59 P).2 else ffl T k (rdO T (rdS T 59 P).2).1 (rdO T (rdS T 59 P).2).2
def ffAll (T : Nat → Nat) (P : PD) : Bool × PD := ffl T 79 (rdO T (pAt P 0)).1 (rdO T (pAt P 0)).2
/-- the place where the reader stands is in the text's row when it is before the end -/
theorem pad_ix {n a : Nat} (hn : n ≤ 80) (ha : a < 2 ^ 31) (h : ¬ nI n ≤ nI a) : ax_ix (nI a) 80 a := by
  have hlt : a < n := by
    rcases Nat.lt_or_ge a n with q | q
    · exact q
    · exact absurd (nI_le q ha) h
  exact ax_ixN (by omega) (by decide)
theorem rdD_at (T : Nat → Nat) {n a : Nat} (hn : n ≤ 80) (ha : a ≤ n) : a ≤ (rdD T n a).2 ∧ (rdD T n a).2 ≤ n := by
  unfold rdD
  split
  · exact ⟨Nat.le_refl _, ha⟩
  next h =>
    have hlt : a < n := by
      rcases Nat.lt_or_ge a n with q | q
      · exact q
      · exact absurd (nI_le q (by omega)) h
    split
    · exact ⟨Nat.le_refl _, ha⟩
    · split
      · exact ⟨Nat.le_succ _, hlt⟩
      · exact ⟨Nat.le_refl _, ha⟩
theorem rdL_at (T : Nat → Nat) {n : Nat} (hn : n ≤ 80) : ∀ (k : Nat) (x : Int32) (a : Nat), a ≤ n → a ≤ (rdL T n k x a).2 ∧ (rdL T n k x a).2 ≤ n
  | 0, x, a, ha => ⟨Nat.le_refl _, ha⟩
  | k + 1, x, a, ha => by
    have h1 := rdD_at T hn ha
    unfold rdL
    split
    · have h2 := rdL_at T hn k (x * 10 + (rdD T n a).1) (rdD T n a).2 h1.2
      exact ⟨Nat.le_trans h1.1 h2.1, h2.2⟩
    · exact h1
theorem rdN_at (T : Nat → Nat) {n a : Nat} (hn : n ≤ 80) (ha : a ≤ n) : a ≤ (rdN T n a).2 ∧ (rdN T n a).2 ≤ n := by
  have h1 := rdD_at T hn ha
  unfold rdN
  split
  · have h2 := rdL_at T hn 3 (rdD T n a).1 (rdD T n a).2 h1.2
    exact ⟨Nat.le_trans h1.1 h2.1, h2.2⟩
  · exact h1
/-- the reader's place is in the text -/
def POkP (P : PD) : Prop := P.1 ≤ 80 ∧ P.2.1 ≤ P.1
theorem rdF1_ok (T : Nat → Nat) {P : PD} (h : POkP P) : POkP (rdF1 T P).2 ∧ (rdF1 T P).2.1 = P.1 := ⟨⟨h.1, (rdN_at T h.1 h.2).2⟩, rfl⟩
theorem rdF2_ok (T : Nat → Nat) {P : PD} (h : POkP P) : POkP (rdF2 T P).2 ∧ (rdF2 T P).2.1 = P.1 := ⟨⟨h.1, (rdN_at T h.1 h.2).2⟩, rfl⟩
theorem rdF3_ok (T : Nat → Nat) {P : PD} (h : POkP P) : POkP (rdF3 T P).2 ∧ (rdF3 T P).2.1 = P.1 := ⟨⟨h.1, (rdD_at T h.1 h.2).2⟩, rfl⟩
theorem lt_of_nle {n a : Nat} (ha : a < 2 ^ 31) (h : ¬ nI n ≤ nI a) : a < n := by
  rcases Nat.lt_or_ge a n with q | q
  · exact q
  · exact absurd (nI_le q ha) h
theorem rdS_ok (T : Nat → Nat) (c : Int32) {P : PD} (h : POkP P) : POkP (rdS T c P).2 ∧ (rdS T c P).2.1 = P.1 := by
  obtain ⟨h1, h2⟩ := h
  unfold rdS
  split
  · exact ⟨⟨h1, h2⟩, rfl⟩
  next q =>
    have := lt_of_nle (by omega) q
    split
    · exact ⟨⟨h1, this⟩, rfl⟩
    · exact ⟨⟨h1, h2⟩, rfl⟩
theorem thn_ok {n : Nat} {q : Bool × PD} {f : PD → Bool × PD} (hq : POkP q.2 ∧ q.2.1 = n) (hf : ∀ Q, POkP Q → POkP (f Q).2 ∧ (f Q).2.1 = Q.1) : POkP (thn q f).2 ∧ (thn q f).2.1 = n := by
  unfold thn
  split
  · exact hq
  · exact ⟨(hf _ hq.1).1, (hf _ hq.1).2.trans hq.2⟩
theorem rdP_ok (T : Nat → Nat) {P : PD} (h : POkP P) : POkP (rdP T P).2 ∧ (rdP T P).2.1 = P.1 := thn_ok (rdF1_ok T h) fun _ h => thn_ok (rdS_ok T 43 h) fun _ h => rdF2_ok T h
theorem rdC_ok (T : Nat → Nat) {P : PD} (h : POkP P) : POkP (rdC T P).2 ∧ (rdC T P).2.1 = P.1 := thn_ok (rdF1_ok T h) fun _ h => thn_ok (rdS_ok T 64 h) fun _ h => thn_ok (rdF2_ok T h) fun _ h => thn_ok (rdS_ok T 47 h) fun _ h => rdF3_ok T h
theorem rdO_ok (T : Nat → Nat) {P : PD} (h : POkP P) : POkP (rdO T P).2 ∧ (rdO T P).2.1 = P.1 := by
  unfold rdO
  split
  · exact ⟨h, rfl⟩
  next q =>
    have hlt := lt_of_nle (by have := h.1; have := h.2; omega) q
    have h1 : POkP (pAt (pKd P (T P.2.1)) (P.2.1 + 1)) := ⟨h.1, hlt⟩
    dsimp only
    split; · exact rdC_ok T h1
    split; · exact rdF1_ok T h1
    split; · exact rdF1_ok T h1
    split; · exact rdF1_ok T h1
    split; · exact rdP_ok T h1
    split; · exact rdF1_ok T h1
    split; · exact rdF1_ok T h1
    split; · exact rdF1_ok T h1
    exact ⟨h, rfl⟩
theorem PMO.nt {q : Int32 × Nat} {P : PD} {v : Int32} {T : Nat → Nat} {z a : Nat} {h h' : Nat → Option va_E} (m : Nat) (he : q = (v, m)) (H : PadAt h' a T (pAt P m)) (F : Fr a 2 h h') : PMO (some (.int q.1)) z a h T (pAt P q.2) (some (.int v)) (z, h') := by
  subst he
  exact ⟨rfl, h', rfl, H, F⟩
theorem PMO.bl {q : Bool × PD} {P' : PD} {v : Int32} {T : Nat → Nat} {z a : Nat} {h h' : Nat → Option va_E} (he : q.2 = P') (hb : v = bI q.1) (H : PadAt h' a T P') (F : Fr a 2 h h') : PMO (some (.int (bI q.1))) z a h T q.2 (some (.int v)) (z, h') := by
  subst he
  subst hb
  exact ⟨rfl, h', rfl, H, F⟩
section PDX
variable {st : Nat → Nat} {k : Nat} {y : MethodName} {cc : ByteArray} {nL : Nat} {ret : Option FieldType} {hp0 : Hp} {mc ms : Nat} {fin : Option Value → Hp → Prop} {pc : Nat} {lv stk stk0 : List Value} {hp : Hp} {cl sl : Nat}
/-- a field of the pad is stored -/
theorem p_put {idx a j : Nat} {T : Nat → Nat} {P : PD} {x : Int32} {ty : FieldType} (P' : PD) (hd : decode cc pc = .ok (.putfield idx, 3)) (hf : ax_fl y.cls idx 3 j ty false) (H : PadAt hp.2 a T P) (hn : narrow ty (.int x) = .int x) (hfit : fits ty (.int x) = true) (hj : j < 7) (hfs : (pfs a P).set j (.int x) = pfs a P') (h : ∀ h', PadAt h' a T P' → Fr a 2 hp.2 h' → Ev st k y cc nL ret hp0 mc ms fin (pc + 3) lv stk (hp.1, h') cl sl) : Ev st k y cc nL ret hp0 mc ms fin pc lv (.int x :: .ref a :: stk) hp cl sl := by
  refine x_put hd hf H.1 hn hfit hj (h _ ⟨?_, ?_, H.2.2⟩ (Fr.set _ (Nat.le_refl _) (by omega)))
  · rw [hset_s, hfs]
  · exact H.2.1.kept (hset_n _ (by omega))
theorem p_ald {a j : Nat} {i : Int32} {T : Nat → Nat} {P : PD} (hd : decode cc pc = .ok (.caload, 1)) (H : PadAt hp.2 a T P) (hi : ax_ix i 80 j) (h : Ev st k y cc nL ret hp0 mc ms fin (pc + 1) lv (.int (nI (T j)) :: stk) hp cl sl) : Ev st k y cc nL ret hp0 mc ms fin pc lv (.int i :: .ref (a + 1) :: stk) hp cl sl := e_cald hd H.tx hi h
/-- calls on the pad -/
theorem c_VP {idx n nL1 a ci : Nat} {y1 : MethodName} {cc1 : ByteArray} {ret1 : Option FieldType} {As : List Value} {v : Value} {T : Nat → Nat} {P' : PD} {fs : List Value} (hd : decode cc pc = .ok (.invokevirtual idx, 3)) (hy : ax_kM y1 cc1 nL1 ret1 n) (hi : Cond.instanceMethod y1 ∈ TB ∧ Cond.selects y1.cls y1 y1 ∈ TB) (hl : Cond.methodLink y.cls idx y1 ∈ TB) (hc : CT st k y1 cc1 nL1 ret1 (.ref a :: As) hp 0 0 (PMO (some v) hp.1 a hp.2 T P')) (hh : hp.2 a = some (.inr (ci, fs))) (hci : (vwCl[ci]?).map (fun q => q.1) = some y1.cls) (hs : stk0 = As.reverse ++ .ref a :: stk) (hn : As.length = n) (hr : (stk.map fun v => v.category).sum ≤ 8) (hm : cl ≤ mc ∧ sl ≤ ms) (h : ∀ h', PadAt h' a T P' → Fr a 2 hp.2 h' → Ev st (k + 1) y cc nL ret hp0 mc ms fin (pc + 3) lv (v :: stk) (hp.1, h') cl sl) : Ev st (k + 1) y cc nL ret hp0 mc ms fin pc lv stk0 hp cl sl :=
  x_callV hd hy hi hl hc hh hci hs hn hr hm (fun r hp' hq => by obtain ⟨rfl, h2, rfl, q1, q2⟩ := hq; exact h h2 q1 q2)
end PDX
