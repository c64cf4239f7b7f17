/-! stores of references, copies, makings, calls, returns -/
def cpN (f g : Nat → Int32) (N : Nat) : Nat → Int32 := fun j => if j < N then f j else g j
theorem cpN_eq (f g : Nat → Int32) (N : Nat) : va_cpy f g 0 0 N = cpN f g N := by
  funext j
  unfold va_cpy cpN
  simp
theorem ax_nn31 {z : Int32} (hz : ¬ z < 0) : z.toInt = (z.toNatClampNeg : Int) := by
  have hz0 : (0 : Int) ≤ z.toInt := by
    have := Int32.not_lt.mp hz
    simpa using Int32.le_iff_toInt_le.mp this
  show z.toInt = ((z.toInt.toNat : Nat) : Int)
  omega
section AXC
variable {st : Nat → Nat} {k : Nat} {y : MethodName} {cc : ByteArray} {nL : Nat} {ret : Option FieldType} {hp0 : Hp} {mc ms : Nat} {fin : Option Value → Hp → Prop} {pc : Nat} {lv stk : List Value} {hp : Hp} {cl sl : Nat}
theorem x_aast {a len j v : Nat} {i : Int32} {vs : List Value} {f : Nat → Option Nat} (hd : decode cc pc = .ok (.aastore, 1)) (hh : hp.2 a = some (.inl (3, len, .inr (.inr (.inr (.inr f)))))) (hi : ax_ix i len j) (hv : hp.2 v = some (.inr (2, vs))) (h : Ev st k y cc nL ret hp0 mc ms fin (pc + 1) lv stk (hp.1, hset hp.2 a (.inl (3, len, .inr (.inr (.inr (.inr (va_up f j (some v)))))))) cl sl) : Ev st k y cc nL ret hp0 mc ms fin pc lv (.ref v :: .int i :: .ref a :: stk) hp cl sl := by
  intro l D tA base p e s m args below meth c M H locs ls hH hC hz hS hL
  have hK := M.2.2.2.2.2.2.2.2.2.2.1
  obtain ⟨r', hr', cellV, g1, g2, g3, -⟩ := hH.2.2 (v - base) _ (hH.at hC hv rfl)
  have hcls := (hK.1 2 (RX2, TX2, 7) rfl).2
  obtain ⟨kA, comp, k1, k2, k3, -⟩ := (hK.2 3 _ rfl).2
  have hcomp : comp = D.1 2 := Option.some.inj (k3.symm.trans hcls.1)
  subst hcomp
  obtain ⟨kC, hkC, -⟩ := hcls.2
  obtain ⟨i1, i2, i3⟩ := hi
  refine W.aast M.1 M.2.1 (hH.2.2 (a - base) _ (hH.at hC hh rfl)) (fun q h => by cases h) (fun h => by cases h) k1 k2 rfl hkC ⟨i1, by show _ < (arrV _ _ _).slots.size; rw [arrV_size, i2]; exact i3⟩ g1 (fun q h => by rw [g3] at h; cases h) (by rw [g2]; exact hkC) (by rw [g2]; exact va_assign hcls) rfl rfl hd fun H1 e z oq => ?_
  rw [i2] at e ⊢
  refine h l D tA base p _ s m args below meth c M H1 _ ls (hH.wr hC hh rfl ?_ z oq) (hC.put hh rfl rfl) hz (hS.put z oq (hC.own hh rfl).1) hL
  show H1[a]? = some (vp_cell _ _)
  rw [e]
  show some ((vp_cell (tA 3) (len, .inr (.inr (.inr (.inr f))))).setSlot j (.ref v)) = some (vp_cell (tA 3) (len, .inr (.inr (.inr (.inr (va_up f j (some v)))))))
  rw [vp_cell_q, vp_cell_q, arrV_store]
  congr 2
  funext q
  by_cases hq : q = j
  · subst hq
    simp [updV, va_up, va_rf]
  · simp [updV, va_up, hq]
/-- a copy, from place 0 to place 0, of n numbers of an int array -/
theorem x_copy {a a0 n0 n1 N idx : Nat} {n : Int32} {f g : Nat → Int32} (hd : decode cc pc = .ok (.invokestatic idx, 3)) (hl : Cond.methodLink y.cls idx arraycopyName ∈ TB) (hw : Cond.native arraycopyName ∈ TB ∧ Cond.static arraycopyName ∈ TB ∧ Cond.initialized "java/lang/System" ∈ TB) (hlen : lv.length = nL) (ha0 : hp.2 a0 = some (.inl (0, n0, .inl f))) (ha1 : hp.2 a = some (.inl (0, n1, .inl g))) (hn : ¬ n < 0) (hN : n.toNatClampNeg = N) (h0 : N ≤ n0) (h1 : N ≤ n1) (hr : (stk.map fun v => v.category).sum ≤ 8) (h : Ev st (k + 1) y cc nL ret hp0 mc ms fin (pc + 3) lv stk (hp.1, hset hp.2 a (.inl (0, n1, .inl (cpN f g N)))) cl sl) : Ev st (k + 1) y cc nL ret hp0 mc ms fin pc lv (.int n :: .int 0 :: .ref a :: .int 0 :: .ref a0 :: stk) hp cl sl := by
  intro l D tA base p e s m args below meth c M H locs ls hH hC hz hS hL
  have hK := M.2.2.2.2.2.2.2.2.2.2.1
  have hts := M.2.2.2.2.2.1
  intro T hT X
  have hc0 : H[a0]? = some (vp_cell (tA 0) (n0, .inl f)) := hH.2.2 (a0 - base) _ (hH.at hC ha0 rfl)
  have hc1 : H[a]? = some (vp_cell (tA 0) (n1, .inl g)) := hH.2.2 (a - base) _ (hH.at hC ha1 rfl)
  obtain ⟨-, k0, hk0, cm0, hkk0⟩ := (hK.2 0 _ rfl).1 n0 (fun j => .int (f j))
  obtain ⟨-, k1, hk1, cm1, hkk1⟩ := (hK.2 0 _ rfl).1 n1 (fun j => .int (g j))
  obtain ⟨vm', X', step⟩ := X.arraycopy M.1 M.2.2.2.2.1 (hts _ hl) (hts _ hw.1) (hts _ hw.2.1) (hts _ hw.2.2) (src := a0) (dst := a) (cs := vp_cell (tA 0) (n0, .inl f)) (cd := vp_cell (tA 0) (n1, .inl g)) (srcPos := 0) (destPos := 0) (n := n) (by rw [hT]; exact hc0) (by rw [hT]; exact hc1)
    (fun _ h => by cases h) (fun _ h => by cases h) (fun h => by cases h) (fun h => by cases h) hk0 hk1 hkk0 hkk1 (by simp [refKind]) (by decide) (by decide) hn
    (by rw [ax_nn31 hn, ax_nn31 (by decide : ¬ (0 : Int32) < 0)]; show ¬ _ > ((arrV (tA 0) n0 (fun j => .int (f j))).slots.size : Int); rw [arrV_size, hN, show (0 : Int32).toNatClampNeg = 0 from rfl]; omega)
    (by rw [ax_nn31 hn, ax_nn31 (by decide : ¬ (0 : Int32) < 0)]; show ¬ _ > ((arrV (tA 0) n1 (fun j => .int (g j))).slots.size : Int); rw [arrV_size, hN, show (0 : Int32).toNatClampNeg = 0 from rfl]; omega)
    (fun vm₁ _ i hi => by
      have e : (vp_cell (tA 0) (n0, .inl f)).slots.getD ((0 : Int32).toNatClampNeg + i) .null = .int (f (0 + i)) := by
        show (arrV (tA 0) n0 (fun j => .int (f j))).slots.getD (0 + i) _ = _
        rw [Array.getD_eq_getD_getElem?, arrV_read _ _ (by omega)]
        rfl
      refine ⟨?_, ?_⟩
      · rw [e]
        rfl
      · rw [e]
        exact trivial)
    (g := F0 m pc ls (.int n :: .int 0 :: .ref a :: .int 0 :: .ref a0 :: stk)) rfl (by rw [M.2.2.2.1]; exact hL.2.1) (rest := stk) rfl (by rw [M.2.1]; exact hd) (Nat.succ_le_succ (Nat.zero_le k)) (by show 2 * 0 + _ + (5 + 2 + 11) ≤ 36 * (k + 1); omega)
  have e1 : copied (vp_cell (tA 0) (n0, .inl f)) (vp_cell (tA 0) (n1, .inl g)) 0 0 n = vp_cell (tA 0) (n1, .inl (cpN f g N)) := by
    rw [← cpN_eq, ← hN]
    exact va_copied (fun z => .int z) (tA 0) (tA 0) f g (by show 0 + _ ≤ n0; omega)
  rw [e1] at X' step
  have hl : a < H.size := (Array.getElem?_eq_some_iff.mp hc1).1
  have hheap : ((T.setVm vm').setCell a (vp_cell (tA 0) (n1, .inl (cpN f g N)))).heap = H.setIfInBounds a (vp_cell (tA 0) (n1, .inl (cpN f g N))) := by rw [← hT]; rfl
  have oq : ∀ q : Nat, q ≠ a → (H.setIfInBounds a (vp_cell (tA 0) (n1, .inl (cpN f g N))))[q]? = H[q]? := fun q hq => by simp [Array.getElem?_setIfInBounds, Ne.symm hq]
  obtain ⟨t, a1, b1⟩ := h l D tA base p e s m args below meth c M _ _ ls (hH.wr hC ha1 rfl (show (H.setIfInBounds a _)[a]? = some _ by simp [Array.getElem?_setIfInBounds, hl]) (by simp) oq) (hC.put ha1 rfl rfl) hz ⟨by simp; exact hS.1, fun q g1 g2 => by
      rw [oq q (fun e => g2 (by rw [e]; exact (hC.own ha1 rfl).1))]
      exact hS.2.1 q g1 g2, fun q hq => by
      rcases List.mem_append.mp hq with h | h
      · exact hS.2.2 q h
      · obtain ⟨z, -, hz⟩ := List.mem_map.mp h
        rw [← hz]
        exact (hC.own ha1 rfl).1⟩ hL _ hheap X'
  exact ⟨t, step t a1, b1⟩
/-- the same from a static row -/
theorem x_copyS {a a0 t n1 N idx : Nat} {n : Int32} {g : Nat → Int32} (hd : decode cc pc = .ok (.invokestatic idx, 3)) (hl : Cond.methodLink y.cls idx arraycopyName ∈ TB) (hw : Cond.native arraycopyName ∈ TB ∧ Cond.static arraycopyName ∈ TB ∧ Cond.initialized "java/lang/System" ∈ TB) (hlen : lv.length = nL) (ht : t < 3) (ha0 : a0 = st t) (ha1 : hp.2 a = some (.inl (0, n1, .inl g))) (hn : ¬ n < 0) (hN : n.toNatClampNeg = N) (h0 : N ≤ 5) (h1 : N ≤ n1) (hr : (stk.map fun v => v.category).sum ≤ 8) (h : Ev st (k + 1) y cc nL ret hp0 mc ms fin (pc + 3) lv stk (hp.1, hset hp.2 a (.inl (0, n1, .inl (cpN (ax_f t) g N)))) cl sl) : Ev st (k + 1) y cc nL ret hp0 mc ms fin pc lv (.int n :: .int 0 :: .ref a :: .int 0 :: .ref a0 :: stk) hp cl sl := by
  intro l D tA base p e s m args below meth c M H locs ls hH hC hz hS hL
  have hK := M.2.2.2.2.2.2.2.2.2.2.1
  have hts := M.2.2.2.2.2.1
  intro T hT X
  obtain ⟨scr, hs1, ⟨hs6, k0, hk0, cm0, hkk0⟩, hs3, hs4, -, hs5, hs7⟩ := (M.2.2.2.2.2.2.2.2.2.2.2.1 t ht).1
  have hc0 : H[a0]? = some scr := by rw [ha0, hS.2.1 _ (Array.getElem?_eq_some_iff.mp hs1).1 hs7]; exact hs1
  have hc1 : H[a]? = some (vp_cell (tA 0) (n1, .inl g)) := hH.2.2 (a - base) _ (hH.at hC ha1 rfl)
  obtain ⟨-, k1, hk1, cm1, hkk1⟩ := (hK.2 0 _ rfl).1 n1 (fun j => .int (g j))
  obtain ⟨vm', X', step⟩ := X.arraycopy M.1 M.2.2.2.2.1 (hts _ hl) (hts _ hw.1) (hts _ hw.2.1) (hts _ hw.2.2) (src := a0) (dst := a) (cs := scr) (cd := vp_cell (tA 0) (n1, .inl g)) (srcPos := 0) (destPos := 0) (n := n) (by rw [hT]; exact hc0) (by rw [hT]; exact hc1)
    hs6 (fun _ h => by cases h) hs3 (fun h => by cases h) hk0 hk1 hkk0 hkk1 (by simp [refKind]) (by decide) (by decide) hn
    (by rw [ax_nn31 hn, ax_nn31 (by decide : ¬ (0 : Int32) < 0)]; rw [hN, show (0 : Int32).toNatClampNeg = 0 from rfl]; omega)
    (by rw [ax_nn31 hn, ax_nn31 (by decide : ¬ (0 : Int32) < 0)]; show ¬ _ > ((arrV (tA 0) n1 (fun j => .int (g j))).slots.size : Int); rw [arrV_size, hN, show (0 : Int32).toNatClampNeg = 0 from rfl]; omega)
    (fun vm₁ _ i hi => by
      have e : scr.slots.getD ((0 : Int32).toNatClampNeg + i) .null = .int (ax_f t (0 + i)) := by
        show scr.slots.getD (0 + i) _ = _
        rw [Array.getD_eq_getD_getElem?, hs5 _ (by omega)]
        rfl
      refine ⟨?_, ?_⟩
      · rw [e]
        rfl
      · rw [e]
        exact trivial)
    (g := F0 m pc ls (.int n :: .int 0 :: .ref a :: .int 0 :: .ref a0 :: stk)) rfl (by rw [M.2.2.2.1]; exact hL.2.1) (rest := stk) rfl (by rw [M.2.1]; exact hd) (Nat.succ_le_succ (Nat.zero_le k)) (by show 2 * 0 + _ + (5 + 2 + 11) ≤ 36 * (k + 1); omega)
  have e1 : copied scr (vp_cell (tA 0) (n1, .inl g)) 0 0 n = vp_cell (tA 0) (n1, .inl (cpN (ax_f t) g N)) := by
    rw [← cpN_eq, ← hN]
    exact va_copiedX (fun z => .int z) scr (tA 0) (n0 := 5) (ax_f t) g hs5 (by show 0 + _ ≤ 5; omega)
  rw [e1] at X' step
  have hl : a < H.size := (Array.getElem?_eq_some_iff.mp hc1).1
  have hheap : ((T.setVm vm').setCell a (vp_cell (tA 0) (n1, .inl (cpN (ax_f t) g N)))).heap = H.setIfInBounds a (vp_cell (tA 0) (n1, .inl (cpN (ax_f t) g N))) := by rw [← hT]; rfl
  have oq : ∀ q : Nat, q ≠ a → (H.setIfInBounds a (vp_cell (tA 0) (n1, .inl (cpN (ax_f t) g N))))[q]? = H[q]? := fun q hq => by simp [Array.getElem?_setIfInBounds, Ne.symm hq]
  obtain ⟨t, a1, b1⟩ := h l D tA base p e s m args below meth c M _ _ ls (hH.wr hC ha1 rfl (show (H.setIfInBounds a _)[a]? = some _ by simp [Array.getElem?_setIfInBounds, hl]) (by simp) oq) (hC.put ha1 rfl rfl) hz ⟨by simp; exact hS.1, fun q g1 g2 => by
      rw [oq q (fun e => g2 (by rw [e]; exact (hC.own ha1 rfl).1))]
      exact hS.2.1 q g1 g2, fun q hq => by
      rcases List.mem_append.mp hq with h | h
      · exact hS.2.2 q h
      · obtain ⟨z, -, hz⟩ := List.mem_map.mp h
        rw [← hz]
        exact (hC.own ha1 rfl).1⟩ hL _ hheap X'
  exact ⟨t, step t a1, b1⟩
/-- Math.max, Math.min -/
theorem x_max {idx : Nat} {x z : Int32} (hd : decode cc pc = .ok (.invokestatic idx, 3)) (hl : Cond.methodLink y.cls idx Lib.Math.max.name ∈ TB) (hw : Cond.static Lib.Math.max.name ∈ TB ∧ Cond.initialized "java/lang/Math" ∈ TB ∧ Cond.code Lib.Math.max.name Lib.Math.max.code 2 (some .int) ∈ TB) (hr : (stk.map fun v => v.category).sum ≤ 8) (hcl : cl ≤ mc ∧ sl ≤ ms) (h : Ev st (k + 1) y cc nL ret hp0 mc ms fin (pc + 3) lv (.int (if x < z then z else x) :: stk) hp cl sl) : Ev st (k + 1) y cc nL ret hp0 mc ms fin pc lv (.int z :: .int x :: stk) hp cl sl := by
  intro l D tA base p e s m args below meth c M H locs ls hH hC hz hS hL
  have hts := M.2.2.2.2.2.1
  exact va_mmax M.1 M.2.1 (by rw [M.2.2.2.1]; exact hL.2.1.symm) M.2.2.2.2.1 (hts _ hl) (hts _ hw.1) (hts _ hw.2.1) (hts _ hw.2.2) (Nat.succ_le_succ (Nat.zero_le k)) (by show _ + 13 ≤ 36 * (k + 1); omega) hcl.1 hcl.2 hd (h l D tA base p e s m args below meth c M H locs ls hH hC hz hS hL)
theorem x_min {idx : Nat} {x z : Int32} (hd : decode cc pc = .ok (.invokestatic idx, 3)) (hl : Cond.methodLink y.cls idx Lib.Math.min.name ∈ TB) (hw : Cond.static Lib.Math.min.name ∈ TB ∧ Cond.initialized "java/lang/Math" ∈ TB ∧ Cond.code Lib.Math.min.name Lib.Math.min.code 2 (some .int) ∈ TB) (hr : (stk.map fun v => v.category).sum ≤ 8) (hcl : cl ≤ mc ∧ sl ≤ ms) (h : Ev st (k + 1) y cc nL ret hp0 mc ms fin (pc + 3) lv (.int (if z < x then z else x) :: stk) hp cl sl) : Ev st (k + 1) y cc nL ret hp0 mc ms fin pc lv (.int z :: .int x :: stk) hp cl sl := by
  intro l D tA base p e s m args below meth c M H locs ls hH hC hz hS hL
  have hts := M.2.2.2.2.2.1
  exact va_mmin M.1 M.2.1 (by rw [M.2.2.2.1]; exact hL.2.1.symm) M.2.2.2.2.1 (hts _ hl) (hts _ hw.1) (hts _ hw.2.1) (hts _ hw.2.2) (Nat.succ_le_succ (Nat.zero_le k)) (by show _ + 13 ≤ 36 * (k + 1); omega) hcl.1 hcl.2 hd (h l D tA base p e s m args below meth c M H locs ls hH hC hz hS hL)
/-- Object() -/
theorem x_obj {idx a : Nat} (hd : decode cc pc = .ok (.invokespecial idx, 3)) (hl : Cond.methodLink y.cls idx Lib.objectInit ∈ TB) (hw : Cond.instanceMethod Lib.objectInit ∈ TB ∧ Cond.code Lib.objectInit ⟨#[0xb1]⟩ 1 none ∈ TB) (hr : (stk.map fun v => v.category).sum ≤ 8) (h : Ev st (k + 1) y cc nL ret hp0 mc ms fin (pc + 3) lv stk hp cl sl) : Ev st (k + 1) y cc nL ret hp0 mc ms fin pc lv (.ref a :: stk) hp cl sl := by
  intro l D tA base p e s m args below meth c M H locs ls hH hC hz hS hL
  have hts := M.2.2.2.2.2.1
  exact W.objInit M.1 M.2.1 M.2.2.2.2.1 (hts _ hl) (hts _ hw.1) (hts _ hw.2) rfl (by rw [M.2.2.2.1]; exact hL.2.1) rfl hd (Nat.succ_le_succ (Nat.zero_le k)) (by show 2 * 0 + _ + 12 ≤ 36 * (k + 1); omega) (h l D tA base p e s m args below meth c M H locs ls hH hC hz hS hL)
/-- a new object, its fields as they begin -/
theorem x_new {idx ci N : Nat} {C : String} {T : u_T} {fs : List Value} (ty : Nat → FieldType) (hd : decode cc pc = .ok (.new idx, 3)) (hc : vwCl[ci]? = some (C, T, N)) (hty : ∀ j, j < N → parseFieldDescriptor (T j).2.2.1 = some (ty j)) (hw : Cond.classLink y.cls idx C ∈ TB ∧ Cond.instantiable C N ∈ TB ∧ Cond.initialized C ∈ TB) (hfs : ∀ j, j < N → defaultValue (ty j) = vp_V fs j) (hm : cl + 1 ≤ mc) (hms : sl + N ≤ ms) (h : Ev st k y cc nL ret hp0 mc ms fin (pc + 3) lv (.ref hp.1 :: stk) (hp.1 + 1, hset hp.2 hp.1 (.inr (ci, fs))) (cl + 1) (sl + N)) : Ev st k y cc nL ret hp0 mc ms fin pc lv stk hp cl sl := by
  intro l D tA base p e s m args below meth c M H locs ls hH hC hz hS hL
  have hts := M.2.2.2.2.2.1
  have hI := M.2.2.2.2.2.2.2.2.2.2
  have hKn := hI.1.1 ci _ hc
  have hz0 := hH.1
  refine W.newcK M.1 M.2.1 M.2.2.2.2.1 (hts _ hw.1) (hts _ hw.2.1) (hts _ hw.2.2) rfl hd hm hms hKn.2.1 hz0 fun H1 kC hkC e1 z1 o1 => ?_
  refine h l D tA base p e s m args below meth c M H1 locs ls (hH.mk ⟨_, hc, (u_born ty hts (ax_cls hc).1 hKn hkC e1 hty).to hfs⟩ z1 o1) (hC.push hH.2.1 hI.st rfl) (by show hp.1 + 1 = hp0.1 + (cl + 1); omega) ⟨Nat.le_trans hS.1 (by omega), fun q h1 h2 => (o1 q (by rw [← hz0]; exact Nat.lt_of_lt_of_le h1 hS.1)).trans (hS.2.1 q h1 h2), hS.2.2⟩ hL
/-- a new array of numbers -/
def ax_at (t : Nat) : ArrayType := match t with
  | 0 => .int
  | 1 => .boolean
  | _ => .char
theorem x_newa {N : Nat} {n : Int32} (t : Nat) (ht : t < 3) (hd : decode cc pc = .ok (.newarray (ax_at t), 2)) (hw : Cond.arrayClass (newarray.typeOf (ax_at t)) ∈ TB) (hn : ¬ n < 0) (hN : n.toNatClampNeg = N) (hb : N ≤ 100000) (hm : cl + 1 ≤ mc) (hms : sl + N ≤ ms) (h : Ev st k y cc nL ret hp0 mc ms fin (pc + 2) lv (.ref hp.1 :: stk) (hp.1 + 1, hset hp.2 hp.1 (.inl (t, N, .inl (fun _ => 0)))) (cl + 1) (sl + N)) : Ev st k y cc nL ret hp0 mc ms fin pc lv (.int n :: stk) hp cl sl := by
  intro l D tA base p e s m args below meth c M H locs ls hH hC hz hS hL
  have hts := M.2.2.2.2.2.1
  have hI := M.2.2.2.2.2.2.2.2.2.2
  have hz0 := hH.1
  refine va_newaK M.1 M.2.1 (hts _ hw) (g := F0 m pc ls (.int n :: stk)) rfl hd rfl hn hN (by match t, ht with | 0, _ => exact (by show N * 4 ≤ _; omega) | 1, _ => exact (by show N * 1 ≤ _; omega) | 2, _ => exact (by show N * 2 ≤ _; omega)) hm hms hz0 fun H1 cA e1 z1 o1 hAr hNm => ?_
  have hcA : cA = tA t := by
    match t, ht with
    | 0, _ => exact Option.some.inj (hNm.symm.trans (hI.1.2 0 _ rfl).2)
    | 1, _ => exact Option.some.inj (hNm.symm.trans (hI.1.2 1 _ rfl).2)
    | 2, _ => exact Option.some.inj (hNm.symm.trans (hI.1.2 2 _ rfl).2)
  subst hcA
  have hdv : defaultValue (newarray.typeOf (ax_at t)) = .int 0 := by
    match t, ht with
    | 0, _ => rfl
    | 1, _ => rfl
    | 2, _ => rfl
  rw [hdv] at e1
  refine h l D tA base p e s m args below meth c M H1 locs ls (hH.mk e1 z1 o1) (hC.push hH.2.1 hI.st (by show (t == 4) = false; simp; omega)) (by show hp.1 + 1 = hp0.1 + (cl + 1); omega) ⟨Nat.le_trans hS.1 (by omega), fun q h1 h2 => (o1 q (by rw [← hz0]; exact Nat.lt_of_lt_of_le h1 hS.1)).trans (hS.2.1 q h1 h2), hS.2.2⟩ hL
/-- a new row of offices -/
theorem x_newq {N idx : Nat} {n : Int32} (hd : decode cc pc = .ok (.anewarray idx, 3)) (hw : Cond.classLink y.cls idx "EscheatLots$Office" ∈ TB) (hn : ¬ n < 0) (hN : n.toNatClampNeg = N) (hb : N ≤ 100000) (hm : cl + 1 ≤ mc) (hms : sl + N ≤ ms) (h : Ev st k y cc nL ret hp0 mc ms fin (pc + 3) lv (.ref hp.1 :: stk) (hp.1 + 1, hset hp.2 hp.1 (.inl (3, N, .inr (.inr (.inr (.inr (fun _ => none))))))) (cl + 1) (sl + N)) : Ev st k y cc nL ret hp0 mc ms fin pc lv (.int n :: stk) hp cl sl := by
  intro l D tA base p e s m args below meth c M H locs ls hH hC hz hS hL
  have hts := M.2.2.2.2.2.1
  have hI := M.2.2.2.2.2.2.2.2.2.2
  have hz0 := hH.1
  subst hN
  refine W.anew M.1 M.2.1 M.2.2.2.2.1 (hts _ hw) (va_AO.use hI.2.2.2) rfl hd rfl hn (by omega) hm hms fun cA kA comp f1 f2 f3 f4 => ?_
  have hcA : cA = tA 3 := by
    obtain ⟨kA', comp', g1, g2, g3, g4⟩ := (hI.1.2 3 _ rfl).2
    exact Option.some.inj (f1.symm.trans g4)
  subst hcA
  generalize hH1 : H.push ({ cls := tA 3, slots := Array.replicate n.toNatClampNeg .null, vm := .none } : Cell) = H1
  have z1 : H1.size = hp.1 + 1 := by rw [← hH1, Array.size_push, hz0]
  have e1 : H1[hp.1]? = some (arrV (tA 3) n.toNatClampNeg (fun _ => .null)) := by rw [← hH1, ← hz0, Array.getElem?_push_size, ← arrV_new]
  have o1 : ∀ q : Nat, q < hp.1 → H1[q]? = H[q]? := fun q hq => by rw [← hH1, Array.getElem?_push, if_neg (by rw [hz0]; exact Nat.ne_of_lt hq)]
  rw [hz0]
  refine h l D tA base p e s m args below meth c M H1 locs ls (hH.mk e1 z1 o1) (hC.push hH.2.1 hI.st rfl) (by show hp.1 + 1 = hp0.1 + (cl + 1); omega) ⟨Nat.le_trans hS.1 (by omega), fun q h1 h2 => (o1 q (by rw [← hz0]; exact Nat.lt_of_lt_of_le h1 hS.1)).trans (hS.2.1 q h1 h2), hS.2.2⟩ hL
/-- the ends -/
theorem x_iret {v : Int32} (hd : decode cc pc = .ok (.ireturn, 1)) (hr : ret = some .int ∨ (ret = some .boolean ∧ narrow .boolean (.int v) = .int v)) (hc : cl = mc) (hs : sl ≤ ms) (h : fin (some (.int v)) hp) : Ev st k y cc nL ret hp0 mc ms fin pc lv [.int v] hp cl sl := by
  intro l D tA base p e s m args below meth c M H locs ls hH hC hz hS hL
  refine W.widen (Nat.le_of_eq hc) hs ?_
  have hq : ∀ t : State, t.heap = H → s.WarmedH t.vm → ax_Q D tA base st mc fin args s (.returned (some (.int v))) t := fun t ht _ => ⟨⟨_, hp, rfl, h, by rw [M.2.2.2.2.2.2.2.1, ← hc]; exact hz, by rw [ht]; exact hH, hC⟩, hS.F ht⟩
  rcases hr with hr | ⟨hr, hn⟩
  · exact W.zret M.1 M.2.1 (M.2.2.1.trans hr) rfl hq hS.2.2 hd M.2.2.2.2.2.2.1
  · exact W.zret M.1 M.2.1 (M.2.2.1.trans hr) hn hq hS.2.2 hd M.2.2.2.2.2.2.1
theorem x_vret (hd : decode cc pc = .ok (.return_, 1)) (hr : ret = none) (hc : cl = mc) (hs : sl ≤ ms) (h : fin none hp) : Ev st k y cc nL ret hp0 mc ms fin pc lv [] hp cl sl := by
  intro l D tA base p e s m args below meth c M H locs ls hH hC hz hS hL
  refine W.widen (Nat.le_of_eq hc) hs ?_
  exact W.vret M.1 M.2.1 (M.2.2.1.trans hr) (fun t ht _ => ⟨⟨_, hp, rfl, h, by rw [M.2.2.2.2.2.2.2.1, ← hc]; exact hz, by rw [ht]; exact hH, hC⟩, hS.F ht⟩) hS.2.2 hd M.2.2.2.2.2.2.1
end AXC
