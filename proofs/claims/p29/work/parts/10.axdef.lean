/-! THE ABSTRACT MACHINE: a method's world is the whole heap from 'base' on, and three static rows of numbers below it.
A heap here is its size and its cells by address; a cell is an array (tag 0 int, 1 boolean, 2 char, 3 Office[], 4 a static int[]) or an object (class by place, fields). -/
abbrev Hp : Type := Nat × (Nat → Option va_E)
def ax_f (j i : Nat) : Int32 := match j with
  | 0 => ([1, 1, 1, 0, 0] : List Int32).getD i 0
  | 1 => ([400, 100, 200, 400, 50] : List Int32).getD i 0
  | _ => ([366, 60, 90, 30, 5] : List Int32).getD i 0
def ax_n (j : Nat) : String := match j with
  | 0 => "LEAST"
  | 1 => "MOST"
  | _ => "AT_FIRST"
def ax_cell (tA : Nat → ClassId) (e : va_E) : va_E := match e with
  | .inl x => .inl (tA x.1, x.2)
  | .inr o => .inr o
def ax_isS (e : va_E) : Bool := match e with
  | .inl x => x.1 == 4
  | .inr _ => false
abbrev ax_tys (tA : Nat → ClassId) : List (ClassId × FieldType) := [(tA 0, .int), (tA 1, .boolean), (tA 2, .char), (tA 3, .object "EscheatLots$Office")]
def ax_ws (tA : Nat → ClassId) (h : Nat → Option va_E) (base n : Nat) : va_W := (List.range n).map (fun i => (base + i, ax_cell tA ((h (base + i)).getD (.inr (0, [])))))
def hset (h : Nat → Option va_E) (a : Nat) (e : va_E) : Nat → Option va_E := fun q => if q = a then some e else h q
theorem hset_s (h : Nat → Option va_E) (a : Nat) (e : va_E) : hset h a e a = some e := if_pos rfl
theorem hset_n {h : Nat → Option va_E} {a q : Nat} (e : va_E) (hq : q ≠ a) : hset h a e q = h q := if_neg hq
theorem ax_ws_at {tA : Nat → ClassId} {h : Nat → Option va_E} {base n a : Nat} {e : va_E} (he : h a = some e) (h1 : base ≤ a) (h2 : a < base + n) : (ax_ws tA h base n)[a - base]? = some (a, ax_cell tA e) := by
  unfold ax_ws
  rw [List.getElem?_map, List.getElem?_range (by omega)]
  show some (base + (a - base), _) = _
  rw [show base + (a - base) = a by omega, he]
  rfl
theorem ax_ws_get {tA : Nat → ClassId} {h : Nat → Option va_E} {base n k : Nat} {q : Nat × va_E} (hk : (ax_ws tA h base n)[k]? = some q) : k < n ∧ q = (base + k, ax_cell tA ((h (base + k)).getD (.inr (0, [])))) := by
  unfold ax_ws at hk
  rw [List.getElem?_map] at hk
  by_cases hl : k < n
  · rw [List.getElem?_range hl] at hk
    exact ⟨hl, (Option.some.inj hk).symm⟩
  · rw [List.getElem?_eq_none (by simpa using hl)] at hk
    cases hk
theorem ax_ws_set {tA : Nat → ClassId} {h : Nat → Option va_E} {base n a : Nat} (e : va_E) (h1 : base ≤ a) : (ax_ws tA h base n).set (a - base) (a, ax_cell tA e) = ax_ws tA (hset h a e) base n := by
  apply List.ext_getElem?
  intro k
  rw [List.getElem?_set]
  unfold ax_ws
  rw [List.getElem?_map, List.getElem?_map, List.length_map, List.length_range]
  by_cases hl : k < n
  · rw [List.getElem?_range hl]
    by_cases hk : a - base = k
    · rw [if_pos hk, if_pos (by omega)]
      have ha : base + k = a := by omega
      show _ = some (base + k, _)
      rw [ha, hset_s]
      rfl
    · rw [if_neg hk]
      show some (base + k, _) = some (base + k, _)
      rw [hset_n e (by omega)]
  · rw [List.getElem?_eq_none (by simpa using hl)]
    by_cases hk : a - base = k
    · rw [if_pos hk, if_neg (by omega)]
      rfl
    · rw [if_neg hk]
      rfl
theorem ax_ws_push {tA : Nat → ClassId} {h : Nat → Option va_E} {base n : Nat} (e : va_E) : ax_ws tA h base n ++ [(base + n, ax_cell tA e)] = ax_ws tA (hset h (base + n) e) base (n + 1) := by
  unfold ax_ws
  rw [List.range_succ, List.map_append]
  congr 1
  · apply List.map_congr_left
    intro i hi
    have := List.mem_range.mp hi
    rw [hset_n e (by omega)]
  · show _ = [(base + n, _)]
    rw [hset_s]
    rfl
theorem ax_D (tA : Nat → ClassId) (h : Nat → Option va_E) (base n : Nat) : va_D (fun q : Nat => base ≤ q) (ax_ws tA h base n) := by
  refine ⟨fun i j x y hi hj hxy => ?_, fun k q hk => ?_⟩
  · obtain ⟨-, rfl⟩ := ax_ws_get hi
    obtain ⟨-, rfl⟩ := ax_ws_get hj
    exact Nat.add_left_cancel hxy
  · obtain ⟨-, rfl⟩ := ax_ws_get hk
    exact Nat.le_add_right _ _
/-- the heap holds it -/
def ax_H (D : va_G) (tA : Nat → ClassId) (base : Nat) (hp : Hp) (H : Heap) : Prop := H.size = hp.1 ∧ base ≤ hp.1 ∧ va_P D vwCl (ax_ws tA hp.2 base (hp.1 - base)) H
/-- which addresses hold what: the static rows as they are, all else from base on -/
def ax_C (base : Nat) (st : Nat → Nat) (hp : Hp) : Prop := (∀ j, j < 3 → hp.2 (st j) = some (.inl (4, 5, .inl (ax_f j)))) ∧ ∀ a e, hp.2 a = some e → (ax_isS e = false ∧ base ≤ a ∧ a < hp.1) ∨ ∃ j, j < 3 ∧ a = st j ∧ e = .inl (4, 5, .inl (ax_f j))
def ax_N (U : State) : Prop := (∀ w ∈ NB, va_Nw w U) ∧ va_AO "EscheatLots$Office" U
/-- what the machine knows, whatever the heap holds -/
def ax_I (D : va_G) (tA : Nat → ClassId) (base : Nat) (st : Nat → Nat) (U : State) : Prop := va_K D vwCl (ax_tys tA) U ∧ (∀ j, j < 3 → va_T .int (st j) 5 (fun i => .int (ax_f j i)) (fun q => base ≤ q) U U.heap ∧ va_Z "EscheatLots" (ax_n j) "[I" (.ref (st j)) (fun q => base ≤ q) U U.heap) ∧ ax_N U
def ax_U (D : va_G) (tA : Nat → ClassId) (base : Nat) (st : Nat → Nat) (hp : Hp) (U : State) : Prop := ax_H D tA base hp U.heap ∧ ax_C base st hp ∧ ax_I D tA base st U
def ax_Q (D : va_G) (tA : Nat → ClassId) (base : Nat) (st : Nat → Nat) (mc : Nat) (Q : Option Value → Hp → Prop) : Array Value → State → Outcome → State → Prop := fun _ s oc t => (∃ r hp', oc = .returned r ∧ Q r hp' ∧ hp'.1 = s.heap.size + mc ∧ ax_H D tA base hp' t.heap ∧ ax_C base st hp') ∧ va_F (fun q => base ≤ q) s t
def ax_R (k mc ms : Nat) : Room := { frames := k, cells := mc, slots := ms, locals := 36 * k }
/-- A METHOD'S CONTRACT: with k frames of room, from hp with these arguments it returns, and Q holds of the answer and the heap behind it; mc new cells of ms slots -/
def CT (st : Nat → Nat) (k : Nat) (y : MethodName) (cc : ByteArray) (nL : Nat) (ret : Option FieldType) (av : List Value) (hp : Hp) (mc ms : Nat) (Q : Option Value → Hp → Prop) : Prop :=
  ∀ (l : Launch) (D : va_G) (tA : Nat → ClassId) (base : Nat), Met l y (.code y cc nL ret :: TB) (ax_R k mc ms) (va_Pc av (ax_U D tA base st hp)) (ax_Q D tA base st mc Q) mc ms (fun q => base ≤ q)
/-- the locals: a place that holds null is not told -/
def ax_nn (v : Value) : Bool := match v with
  | .null => false
  | _ => true
def ax_as (lv : List Value) : List (Nat × Value) := (lv.zipIdx.map (fun q => (q.2, q.1))).filter (fun q => ax_nn q.2)
def ax_L (ls : Array Slot) (nL : Nat) (lv : List Value) : Prop := lv.length = nL ∧ lv_has ls nL (ax_as lv)
theorem ax_as_mem {lv : List Value} {q : Nat × Value} : q ∈ ax_as lv ↔ lv[q.1]? = some q.2 ∧ ax_nn q.2 = true := by
  unfold ax_as
  rw [List.mem_filter, List.mem_map]
  constructor
  · rintro ⟨⟨x, hx, rfl⟩, hn⟩
    have := List.mem_zipIdx_iff_getElem?.mp hx
    exact ⟨this, hn⟩
  · rintro ⟨h1, h2⟩
    exact ⟨⟨(q.2, q.1), List.mem_zipIdx_iff_getElem?.mpr h1, rfl⟩, h2⟩
theorem ax_L.get {ls : Array Slot} {nL : Nat} {lv : List Value} {i : Nat} {v : Value} (h : ax_L ls nL lv) (hi : lv[i]? = some v) (hv : ax_nn v = true) : ls[i]? = some (.val v) := h.2.2.2 (i, v) (ax_as_mem.mpr ⟨hi, hv⟩)
/-- a store at i may stand: the place before it holds no long -/
def ax_ok (lv : List Value) (i : Nat) : Bool := match i with
  | 0 => true
  | j + 1 => match lv[j]? with
    | some (.long _) => false
    | some (.double _) => false
    | _ => true
theorem ax_ok_at {lv : List Value} {i j : Nat} {v : Value} (h : ax_ok lv i = true) (hj : lv[j]? = some v) (hij : j + 1 = i) : v.category ≠ 2 := by
  subst hij
  cases v with
  | long z => simp [ax_ok, hj] at h
  | double z => simp [ax_ok, hj] at h
  | _ => simp [Value.category]
theorem ax_L.put {ls ls' : Array Slot} {nL : Nat} {lv : List Value} {i : Nat} {x : Value} (h : ax_L ls nL lv) (ho : ax_ok lv i = true) (h' : lv_has ls' nL ((i, x) :: (ax_as lv).filter (fun q => !(q.1 == i) && !(q.1 + 1 == i && q.2.category == 2)))) : ax_L ls' nL (lv.set i x) := by
  refine ⟨by rw [List.length_set]; exact h.1, h'.1, h'.2.1, fun q hq => h'.2.2 q ?_⟩
  obtain ⟨h1, h2⟩ := ax_as_mem.mp hq
  rw [List.getElem?_set] at h1
  by_cases hi : i = q.1
  · rw [if_pos hi] at h1
    split at h1
    · obtain ⟨q1, q2⟩ := q
      dsimp only at h1 hi
      subst hi
      cases h1
      exact List.mem_cons_self
    · cases h1
  · rw [if_neg hi] at h1
    refine List.mem_cons_of_mem _ (List.mem_filter.mpr ⟨ax_as_mem.mpr ⟨h1, h2⟩, ?_⟩)
    have e1 : (q.1 == i) = false := by simpa using fun e => hi e.symm
    rw [e1]
    by_cases hj : q.1 + 1 = i
    · have := ax_ok_at ho h1 hj
      simp [this]
    · simp [hj]
theorem ax_L.put2 {ls ls' : Array Slot} {nL : Nat} {lv : List Value} {i : Nat} {x : Value} (h : ax_L ls nL lv) (ho : ax_ok lv i = true) (h' : lv_has ls' nL ((i, x) :: (ax_as lv).filter (fun q => !(q.1 == i) && (!(q.1 == i + 1) && !(q.1 + 1 == i && q.2.category == 2))))) : ax_L ls' nL ((lv.set i x).set (i + 1) .null) := by
  refine ⟨by rw [List.length_set, List.length_set]; exact h.1, h'.1, h'.2.1, fun q hq => h'.2.2 q ?_⟩
  obtain ⟨h1, h2⟩ := ax_as_mem.mp hq
  rw [List.getElem?_set] at h1
  by_cases hi1 : i + 1 = q.1
  · rw [if_pos hi1] at h1
    split at h1
    · rw [← Option.some.inj h1] at h2
      cases h2
    · cases h1
  rw [if_neg hi1, List.getElem?_set] at h1
  by_cases hi : i = q.1
  · rw [if_pos hi] at h1
    split at h1
    · obtain ⟨q1, q2⟩ := q
      dsimp only at h1 hi
      subst hi
      cases h1
      exact List.mem_cons_self
    · cases h1
  · rw [if_neg hi] at h1
    refine List.mem_cons_of_mem _ (List.mem_filter.mpr ⟨ax_as_mem.mpr ⟨h1, h2⟩, ?_⟩)
    have e1 : (q.1 == i) = false := by simpa using fun e => hi e.symm
    have e2 : (q.1 == i + 1) = false := by simpa using fun e => hi1 e.symm
    rw [e1, e2]
    by_cases hj : q.1 + 1 = i
    · have := ax_ok_at ho h1 hj
      simp [this]
    · simp [hj]
/-- what a method's body knows of the machine -/
def ax_M (st : Nat → Nat) (y : MethodName) (cc : ByteArray) (nL : Nat) (ret : Option FieldType) (hp0 : Hp) (D : va_G) (tA : Nat → ClassId) (base : Nat) (p : Program) (s : State) (m : MethodId) (args : Array Value) (meth : Method) (c : Code) : Prop :=
  p.tables.exec = Jvm.exec ∧ c.code = cc ∧ meth.sig.returnType = ret ∧ c.maxLocals = nL ∧ s.vm.findClass y.cls = some m.cls ∧ (∀ w ∈ TB, w.before args s = true) ∧ meth.locks = false ∧ s.heap.size = hp0.1 ∧ base ≤ s.heap.size ∧ meth.name = y.name ∧ ax_I D tA base st s
/-- THE JUDGEMENT: the machine at pc with these locals, this stack, over this heap (cl cells of sl slots made so far) comes to the method's end, with 'fin' of answer and heap -/
def Ev (st : Nat → Nat) (k : Nat) (y : MethodName) (cc : ByteArray) (nL : Nat) (ret : Option FieldType) (hp0 : Hp) (mc ms : Nat) (fin : Option Value → Hp → Prop) (pc : Nat) (lv stk : List Value) (hp : Hp) (cl sl : Nat) : Prop :=
  ∀ (l : Launch) (D : va_G) (tA : Nat → ClassId) (base : Nat) (p : Program) (e : Env) (s : State) (m : MethodId) (args : Array Value) (below : List Frame) (meth : Method) (c : Code), ax_M st y cc nL ret hp0 D tA base p s m args meth c →
    ∀ (H : Heap) (locs : List Loc) (ls : Array Slot), ax_H D tA base hp H → ax_C base st hp → hp.1 = hp0.1 + cl → va_S (fun q => base ≤ q) s.heap H locs → ax_L ls nL lv →
      W p l e (ax_R k mc ms) s m args below meth c H locs cl sl (MQ below (ax_Q D tA base st mc fin) args s mc ms (fun q => base ≤ q)) (F0 m pc ls stk)
/-- a method's start -/
theorem CT.of {st : Nat → Nat} {k : Nat} {y : MethodName} {cc : ByteArray} {nL : Nat} {ret : Option FieldType} {av : List Value} {hp : Hp} {mc ms : Nat} {Q : Option Value → Hp → Prop} {lv : List Value} (hpl : plainName y.cls = true) (h1 : (lg_sl av).length ≤ nL) (h2 : lv.length = nL) (h3 : ax_as lv = lv_args 0 av)
    (h : Ev st k y cc nL ret hp mc ms Q 0 lv [] hp 0 0) : CT st k y cc nL ret av hp mc ms Q := by
  intro l D tA base
  refine Met.ofW (cc := cc) (maxL := nL) (ret := ret) hpl rfl ?_
  intro p e s m args below meth c s₁ B hml hv
  obtain ⟨rfl, hH, hC, hI⟩ := hv
  have hts := atoms_spec (ws := .code y cc nL ret :: TB) B.pre
  rw [lg_entry_eq]
  refine h l D tA base p e s m _ below meth c ⟨B.exec, B.bytes, B.returns, hml, findClass_of_methodNamed B.named, fun w hw => hts w (List.mem_cons_of_mem _ hw), B.notSynchronized, hH.1, by rw [hH.1]; exact hH.2.1, (name_of_methodNamed B.named B.method).1, hI⟩ s.heap [] _ hH hC rfl va_S.rf ⟨h2, ?_⟩
  rw [h3]
  exact lv_entry av h1
theorem CT.mono {st : Nat → Nat} {k : Nat} {y : MethodName} {cc : ByteArray} {nL : Nat} {ret : Option FieldType} {av : List Value} {hp : Hp} {mc ms : Nat} {Q Q' : Option Value → Hp → Prop} (h : CT st k y cc nL ret av hp mc ms Q) (hq : ∀ r hp', Q r hp' → Q' r hp') : CT st k y cc nL ret av hp mc ms Q' := by
  intro l D tA base
  intro p e ha hc hk s m args below hf hh hheap happ
  obtain ⟨kk, o, a1, a2, a3, a4⟩ := h l D tA base p e ha hc hk s m args below hf hh hheap happ
  obtain ⟨⟨⟨r, hp', b1, b2, b3⟩, b4⟩, b5⟩ := a4
  exact ⟨kk, o, a1, a2, a3, ⟨⟨r, hp', b1, hq _ _ b2, b3⟩, b4⟩, b5⟩
