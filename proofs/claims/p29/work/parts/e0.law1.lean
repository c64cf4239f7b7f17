/-! THE CLAIM OUT OF ONE WALK OF THE LAW'S BODY. Your part is whole_start (and what it stands on); all else here is the same for every law, but numbers. -/
def R_law : String := "EscheatLotsLaw"
def lw_P (b : Addr) (xs : List Int32) (args : Array Value) (s : State) : Prop := args = #[.ref b] ∧ s.IntsAt b xs ∧ xs.length ≤ 260 ∧ (Jvm.Cond.and given_1 narrow_1).before args s = true
def lw_Q (_ : Array Value) (s : State) (o : Outcome) (t : State) : Prop := o = .returned (some (.int 1)) ∧ Framed s o t [] 600000 7302250
def lw_Z (below : List Frame) (a : Array Value) (s : State) : State → Prop := fun t => ∃ o, t.status = .running ∧ Ended t below o ∧ lw_Q a s o t
/-- the law's own end, with 1 on the stack, nothing written that was there before, its room as the claim has it -/
theorem lw_ret {p : Program} {l : Launch} {e : Env} {s : State} {m : MethodId} {below : List Frame} {meth : Method} {c : Code} {b : Nat} (hx : p.tables.exec = Jvm.exec) (hb : c.code = code) (hr : meth.sig.returnType = ret) (hlocks : meth.locks = false) {pc : Nat} {H : Heap} {ls : Array Slot} (hdg : decode code pc = .ok (.ireturn, 1)) : W p l e room_1 s m #[Value.ref b] below meth c H [] 600000 7302250 (lw_Z below #[Value.ref b] s) (F0 m pc ls [.int 1]) := by
  intro T hT X
  obtain ⟨fs, hret, hrun, hended, hW, hframe⟩ := X.leave (v := some (.int 1)) (hlocks := hlocks) (fun h => by rw [hr] at h; cases h)
  have hmeth' : T.vm.method? m = some meth := X.method'
  refine ⟨T.setFrames fs, ?_, .returned (some (.int 1)), hrun, hended, rfl, ⟨_, rfl⟩, hW, hframe⟩
  jvm_step X.here [X.here.top, hx, hb, hdg, hmeth', hr, ret, narrow_b1]
  (try refine ⟨rfl, ?_⟩); (try refine ⟨rfl, ?_⟩)
  first | (intro acts; rw [hret _ acts rfl rfl rfl]) | rw [hret _ _ rfl rfl rfl]
  exact Steps.refl _
/-- what holds at the law's entry: the machine, the code, the tables' words (any of lw_tbl by 'hts w (by decide +kernel)'), the script of L ints xs at the cell b, what the Statement gives of the start (any of its parts by flat_of_before) -/
def lw_At (p : Program) (s : State) (m : MethodId) (meth : Method) (c : Code) (b L : Nat) (xs : Nat → Int32) : Prop :=
  p.tables.exec = Jvm.exec ∧ c.code = code ∧ meth.sig.returnType = ret ∧ c.maxLocals = 13 ∧ s.vm.findClass R_law = some m.cls ∧ (∀ w ∈ lw_tbl, w.before #[Value.ref b] s = true) ∧ va_X b L xs s s.heap ∧ b < s.heap.size ∧ meth.locks = false ∧ (Jvm.Cond.and given_1 narrow_1).before #[Value.ref b] s = true


/-- what the law's body knows of the machine -/
def LM (st : Nat → Nat) (hp0 : Hp) (b L : Nat) (xs : Nat → Int32) (D : va_G) (tA : Nat → ClassId) (base : Nat) (p : Program) (s : State) (m : MethodId) (args : Array Value) (meth : Method) (c : Code) : Prop :=
  p.tables.exec = Jvm.exec ∧ c.code = cL_law ∧ meth.sig.returnType = ret ∧ c.maxLocals = 13 ∧ s.vm.findClass RL = some m.cls ∧ (∀ w ∈ TB, w.before args s = true) ∧ meth.locks = false ∧ s.heap.size = hp0.1 ∧ base ≤ s.heap.size ∧ (va_X b L xs s s.heap ∧ b < s.heap.size ∧ args = #[Value.ref b] ∧ base = s.heap.size) ∧ ax_I D tA base st s
/-- THE LAW'S JUDGEMENT -/
def EvL (st : Nat → Nat) (hp0 : Hp) (b L : Nat) (xs : Nat → Int32) (pc : Nat) (lv stk : List Value) (hp : Hp) (cl sl : Nat) : Prop :=
  ∀ (l : Launch) (D : va_G) (tA : Nat → ClassId) (base : Nat) (p : Program) (e : Env) (s : State) (m : MethodId) (args : Array Value) (below : List Frame) (meth : Method) (c : Code), LM st hp0 b L xs D tA base p s m args meth c →
    ∀ (H : Heap) (locs : List Loc) (ls : Array Slot), ax_H D tA base hp H → ax_C base st hp → hp.1 = hp0.1 + cl → va_S (fun q => base ≤ q) s.heap H locs → ax_L ls 13 lv →
      W p l e room_1 s m args below meth c H locs cl sl (lw_Z below args s) (F0 m pc ls stk)
section EVL
variable {st : Nat → Nat} {hp0 : Hp} {b L : Nat} {xs : Nat → Int32} {pc : Nat} {lv lv2 stk stk0 : List Value} {hp : Hp} {cl sl : Nat}
variable {idx n nL1 mc1 ms1 : Nat} {y1 : MethodName} {cc1 : ByteArray} {ret1 : Option FieldType} {As : List Value} {Q1 : Option Value → Hp → Prop}

theorem w_iconst {n : Int} {v : Int32} (hd : decode cL_law pc = .ok (.iconst n, 1)) (hv : Int32.ofInt n = v) (h : EvL st hp0 b L xs (pc + 1) lv (.int v :: stk) hp cl sl) : EvL st hp0 b L xs pc lv stk hp cl sl := by
  intro l D tA base p e s m args below meth c M H locs ls hH hC hz hS hL
  exact lv_iconst M.1 M.2.1 hd hv (h l D tA base p e s m args below meth c M H locs ls hH hC hz hS hL)

theorem w_bipush {n : Int} {v : Int32} (hd : decode cL_law pc = .ok (.bipush n, 2)) (hv : (Int8.ofInt n).toInt32 = v) (h : EvL st hp0 b L xs (pc + 2) lv (.int v :: stk) hp cl sl) : EvL st hp0 b L xs pc lv stk hp cl sl := by
  intro l D tA base p e s m args below meth c M H locs ls hH hC hz hS hL
  exact lv_bipush M.1 M.2.1 hd hv (h l D tA base p e s m args below meth c M H locs ls hH hC hz hS hL)

theorem w_sipush {n : Int} {v : Int32} (hd : decode cL_law pc = .ok (.sipush n, 3)) (hv : (Int16.ofInt n).toInt32 = v) (h : EvL st hp0 b L xs (pc + 3) lv (.int v :: stk) hp cl sl) : EvL st hp0 b L xs pc lv stk hp cl sl := by
  intro l D tA base p e s m args below meth c M H locs ls hH hC hz hS hL
  exact lv_sipush M.1 M.2.1 hd hv (h l D tA base p e s m args below meth c M H locs ls hH hC hz hS hL)

theorem w_iload_n {i : Fin 4} {x : Int32} (hd : decode cL_law pc = .ok (.iload_n i, 1)) (hi : lv[(i : Nat)]? = some (.int x)) (h : EvL st hp0 b L xs (pc + 1) lv (.int x :: stk) hp cl sl) : EvL st hp0 b L xs pc lv stk hp cl sl := by
  intro l D tA base p e s m args below meth c M H locs ls hH hC hz hS hL
  exact lv_iload_n M.1 M.2.1 hd rfl (hL.get hi rfl) (h l D tA base p e s m args below meth c M H locs ls hH hC hz hS hL)

theorem w_iload {i : Nat} {x : Int32} (hd : decode cL_law pc = .ok (.iload i, 2)) (hi : lv[i]? = some (.int x)) (h : EvL st hp0 b L xs (pc + 2) lv (.int x :: stk) hp cl sl) : EvL st hp0 b L xs pc lv stk hp cl sl := by
  intro l D tA base p e s m args below meth c M H locs ls hH hC hz hS hL
  exact lv_iload M.1 M.2.1 hd (hL.get hi rfl) (h l D tA base p e s m args below meth c M H locs ls hH hC hz hS hL)

theorem w_aload_n {i : Fin 4} {x : Nat} (hd : decode cL_law pc = .ok (.aload_n i, 1)) (hi : lv[(i : Nat)]? = some (.ref x)) (h : EvL st hp0 b L xs (pc + 1) lv (.ref x :: stk) hp cl sl) : EvL st hp0 b L xs pc lv stk hp cl sl := by
  intro l D tA base p e s m args below meth c M H locs ls hH hC hz hS hL
  exact lv_aload_n M.1 M.2.1 hd rfl (hL.get hi rfl) (h l D tA base p e s m args below meth c M H locs ls hH hC hz hS hL)

theorem w_lload {i : Nat} {x : Int64} (hd : decode cL_law pc = .ok (.lload i, 2)) (hi : lv[i]? = some (.long x)) (h : EvL st hp0 b L xs (pc + 2) lv (.long x :: stk) hp cl sl) : EvL st hp0 b L xs pc lv stk hp cl sl := by
  intro l D tA base p e s m args below meth c M H locs ls hH hC hz hS hL
  exact lv_lload M.1 M.2.1 hd (hL.get hi rfl) (h l D tA base p e s m args below meth c M H locs ls hH hC hz hS hL)

theorem w_astore_n {i : Fin 4} {x : Nat} (hd : decode cL_law pc = .ok (.astore_n i, 1)) (hn : (i : Nat) < lv.length) (ho : ax_ok lv i = true) (h : EvL st hp0 b L xs (pc + 1) (lv.set i (.ref x)) stk hp cl sl) : EvL st hp0 b L xs pc lv (.ref x :: stk) hp cl sl := by
  intro l D tA base p e s m args below meth c M H locs ls hH hC hz hS hL
  exact lv_astore_n M.1 M.2.1 hd rfl hL.2 (by have := hL.1; omega) rfl (fun ls2 hl2 => h l D tA base p e s m args below meth c M H locs ls2 hH hC hz hS (hL.put ho hl2))

theorem w_istore_n {i : Fin 4} {x : Int32} (hd : decode cL_law pc = .ok (.istore_n i, 1)) (hn : (i : Nat) < lv.length) (ho : ax_ok lv i = true) (h : EvL st hp0 b L xs (pc + 1) (lv.set i (.int x)) stk hp cl sl) : EvL st hp0 b L xs pc lv (.int x :: stk) hp cl sl := by
  intro l D tA base p e s m args below meth c M H locs ls hH hC hz hS hL
  exact lv_istore_n M.1 M.2.1 hd rfl hL.2 (by have := hL.1; omega) rfl (fun ls2 hl2 => h l D tA base p e s m args below meth c M H locs ls2 hH hC hz hS (hL.put ho hl2))

theorem w_istore {i : Nat} {x : Int32} (hd : decode cL_law pc = .ok (.istore i, 2)) (hn : i < lv.length) (ho : ax_ok lv i = true) (h : EvL st hp0 b L xs (pc + 2) (lv.set i (.int x)) stk hp cl sl) : EvL st hp0 b L xs pc lv (.int x :: stk) hp cl sl := by
  intro l D tA base p e s m args below meth c M H locs ls hH hC hz hS hL
  exact lv_istore M.1 M.2.1 hd hL.2 (by have := hL.1; omega) rfl (fun ls2 hl2 => h l D tA base p e s m args below meth c M H locs ls2 hH hC hz hS (hL.put ho hl2))

theorem w_iinc {i : Nat} {n : Int} {x v : Int32} (hd : decode cL_law pc = .ok (.iinc i n, 3)) (hi : lv[i]? = some (.int x)) (hv : x + Int32.ofInt n = v) (ho : ax_ok lv i = true) (h : EvL st hp0 b L xs (pc + 3) (lv.set i (.int v)) stk hp cl sl) : EvL st hp0 b L xs pc lv stk hp cl sl := by
  intro l D tA base p e s m args below meth c M H locs ls hH hC hz hS hL
  obtain ⟨kk, hkk⟩ := List.getElem?_of_mem (ax_as_mem.mpr ⟨hi, rfl⟩ : (i, Value.int x) ∈ ax_as lv)
  exact lv_iinc M.1 M.2.1 hd hL.2 hkk hv (by rw [← hL.1]; exact (List.getElem?_eq_some_iff.mp hi).1) rfl (fun ls2 hl2 => h l D tA base p e s m args below meth c M H locs ls2 hH hC hz hS (hL.put ho hl2))

theorem w_iadd {x z : Int32} (hd : decode cL_law pc = .ok (.iadd, 1)) (h : EvL st hp0 b L xs (pc + 1) lv (.int (x + z) :: stk) hp cl sl) : EvL st hp0 b L xs pc lv (.int z :: .int x :: stk) hp cl sl := by
  intro l D tA base p e s m args below meth c M H locs ls hH hC hz hS hL
  exact lv_iadd M.1 M.2.1 hd (h l D tA base p e s m args below meth c M H locs ls hH hC hz hS hL)

theorem w_irem {x z : Int32} (hd : decode cL_law pc = .ok (.irem, 1)) (hne : ¬ z = 0) (h : EvL st hp0 b L xs (pc + 1) lv (.int (x - x / z * z) :: stk) hp cl sl) : EvL st hp0 b L xs pc lv (.int z :: .int x :: stk) hp cl sl := by
  intro l D tA base p e s m args below meth c M H locs ls hH hC hz hS hL
  exact lv_irem M.1 M.2.1 hd hne (h l D tA base p e s m args below meth c M H locs ls hH hC hz hS hL)

theorem w_idiv {x z : Int32} (hd : decode cL_law pc = .ok (.idiv, 1)) (hne : ¬ z = 0) (h : EvL st hp0 b L xs (pc + 1) lv (.int (x / z) :: stk) hp cl sl) : EvL st hp0 b L xs pc lv (.int z :: .int x :: stk) hp cl sl := by
  intro l D tA base p e s m args below meth c M H locs ls hH hC hz hS hL
  exact lv_idiv M.1 M.2.1 hd hne (h l D tA base p e s m args below meth c M H locs ls hH hC hz hS hL)

theorem w_lcmp {x z : Int64} (hd : decode cL_law pc = .ok (.lcmp, 1)) (h : EvL st hp0 b L xs (pc + 1) lv (.int (lg_cmp x z) :: stk) hp cl sl) : EvL st hp0 b L xs pc lv (.long z :: .long x :: stk) hp cl sl := by
  intro l D tA base p e s m args below meth c M H locs ls hH hC hz hS hL
  exact W.lcmp M.1 M.2.1 hd (h l D tA base p e s m args below meth c M H locs ls hH hC hz hS hL)

theorem w_dup {v : Value} (hd : decode cL_law pc = .ok (.dup, 1)) (hv : v.category = 1) (h : EvL st hp0 b L xs (pc + 1) lv (v :: v :: stk) hp cl sl) : EvL st hp0 b L xs pc lv (v :: stk) hp cl sl := by
  intro l D tA base p e s m args below meth c M H locs ls hH hC hz hS hL
  exact lv_dup M.1 M.2.1 hd hv (h l D tA base p e s m args below meth c M H locs ls hH hC hz hS hL)

theorem w_goto {off : Int} {tgt : Nat} (hd : decode cL_law pc = .ok (.goto off, 3)) (ht : (pc : Int) + off = (tgt : Int)) (h : EvL st hp0 b L xs tgt lv stk hp cl sl) : EvL st hp0 b L xs pc lv stk hp cl sl := by
  intro l D tA base p e s m args below meth c M H locs ls hH hC hz hS hL
  exact lv_goto M.1 M.2.1 hd ht (h l D tA base p e s m args below meth c M H locs ls hH hC hz hS hL)

theorem w_if_eq {x : Int32} {off : Int} {tgt : Nat} (hd : decode cL_law pc = .ok (.ifCond .eq off, 3)) (ht : (pc : Int) + off = (tgt : Int)) (hT : (x = 0) → EvL st hp0 b L xs tgt lv stk hp cl sl) (hF : ¬ (x = 0) → EvL st hp0 b L xs (pc + 3) lv stk hp cl sl) : EvL st hp0 b L xs pc lv (.int x :: stk) hp cl sl := by
  intro l D tA base p e s m args below meth c M H locs ls hH hC hz hS hL
  exact lv_if_eq M.1 M.2.1 hd ht (fun q => hT q l D tA base p e s m args below meth c M H locs ls hH hC hz hS hL) (fun q => hF q l D tA base p e s m args below meth c M H locs ls hH hC hz hS hL)

theorem w_if_ne {x : Int32} {off : Int} {tgt : Nat} (hd : decode cL_law pc = .ok (.ifCond .ne off, 3)) (ht : (pc : Int) + off = (tgt : Int)) (hT : (¬ x = 0) → EvL st hp0 b L xs tgt lv stk hp cl sl) (hF : (x = 0) → EvL st hp0 b L xs (pc + 3) lv stk hp cl sl) : EvL st hp0 b L xs pc lv (.int x :: stk) hp cl sl := by
  intro l D tA base p e s m args below meth c M H locs ls hH hC hz hS hL
  exact lv_if_ne M.1 M.2.1 hd ht (fun q => hT q l D tA base p e s m args below meth c M H locs ls hH hC hz hS hL) (fun q => hF q l D tA base p e s m args below meth c M H locs ls hH hC hz hS hL)

theorem w_if_lt {x : Int32} {off : Int} {tgt : Nat} (hd : decode cL_law pc = .ok (.ifCond .lt off, 3)) (ht : (pc : Int) + off = (tgt : Int)) (hT : (x < 0) → EvL st hp0 b L xs tgt lv stk hp cl sl) (hF : ¬ (x < 0) → EvL st hp0 b L xs (pc + 3) lv stk hp cl sl) : EvL st hp0 b L xs pc lv (.int x :: stk) hp cl sl := by
  intro l D tA base p e s m args below meth c M H locs ls hH hC hz hS hL
  exact lv_if_lt M.1 M.2.1 hd ht (fun q => hT q l D tA base p e s m args below meth c M H locs ls hH hC hz hS hL) (fun q => hF q l D tA base p e s m args below meth c M H locs ls hH hC hz hS hL)

theorem w_icmp_ne {x z : Int32} {off : Int} {tgt : Nat} (hd : decode cL_law pc = .ok (.if_icmp .ne off, 3)) (ht : (pc : Int) + off = (tgt : Int)) (hT : (¬ x = z) → EvL st hp0 b L xs tgt lv stk hp cl sl) (hF : (x = z) → EvL st hp0 b L xs (pc + 3) lv stk hp cl sl) : EvL st hp0 b L xs pc lv (.int z :: .int x :: stk) hp cl sl := by
  intro l D tA base p e s m args below meth c M H locs ls hH hC hz hS hL
  exact lv_icmp_ne M.1 M.2.1 hd ht (fun q => hT q l D tA base p e s m args below meth c M H locs ls hH hC hz hS hL) (fun q => hF q l D tA base p e s m args below meth c M H locs ls hH hC hz hS hL)

theorem w_icmp_ge {x z : Int32} {off : Int} {tgt : Nat} (hd : decode cL_law pc = .ok (.if_icmp .ge off, 3)) (ht : (pc : Int) + off = (tgt : Int)) (hT : (z ≤ x) → EvL st hp0 b L xs tgt lv stk hp cl sl) (hF : ¬ (z ≤ x) → EvL st hp0 b L xs (pc + 3) lv stk hp cl sl) : EvL st hp0 b L xs pc lv (.int z :: .int x :: stk) hp cl sl := by
  intro l D tA base p e s m args below meth c M H locs ls hH hC hz hS hL
  exact lv_icmp_ge M.1 M.2.1 hd ht (fun q => hT q l D tA base p e s m args below meth c M H locs ls hH hC hz hS hL) (fun q => hF q l D tA base p e s m args below meth c M H locs ls hH hC hz hS hL)

theorem w_lstore {i : Nat} {x : Int64} (hd : decode cL_law pc = .ok (.lstore i, 2)) (hn : i + 1 < lv.length) (ho : ax_ok lv i = true) (h : EvL st hp0 b L xs (pc + 2) ((lv.set i (.long x)).set (i + 1) .null) stk hp cl sl) : EvL st hp0 b L xs pc lv (.long x :: stk) hp cl sl := by
  intro l D tA base p e s m args below meth c M H locs ls hH hC hz hS hL
  exact lv_lstore M.1 M.2.1 hd hL.2 (by have := hL.1; omega) rfl (fun ls2 hl2 => h l D tA base p e s m args below meth c M H locs ls2 hH hC hz hS (hL.put2 ho hl2))

theorem w_new {idx ci N : Nat} {C : String} {T : u_T} {fs : List Value} (ty : Nat → FieldType) (hd : decode cL_law pc = .ok (.new idx, 3)) (hc : vwCl[ci]? = some (C, T, N)) (hty : ∀ j, j < N → parseFieldDescriptor (T j).2.2.1 = some (ty j)) (hw : Cond.classLink RL idx C ∈ TB ∧ Cond.instantiable C N ∈ TB ∧ Cond.initialized C ∈ TB) (hfs : ∀ j, j < N → defaultValue (ty j) = vp_V fs j) (hm : cl + 1 ≤ 600000) (hms : sl + N ≤ 7302250) (h : EvL st hp0 b L xs (pc + 3) lv (.ref hp.1 :: stk) (hp.1 + 1, hset hp.2 hp.1 (.inr (ci, fs))) (cl + 1) (sl + N)) : EvL st hp0 b L xs pc lv stk hp cl sl := by
  intro l D tA base p e s m args below meth c M H locs ls hH hC hz hS hL
  have hts := M.2.2.2.2.2.1
  have hI := M.2.2.2.2.2.2.2.2.2.2
  have hKn := hI.1.1 ci _ hc
  have hz0 := hH.1
  refine W.newcK M.1 M.2.1 M.2.2.2.2.1 (hts _ hw.1) (hts _ hw.2.1) (hts _ hw.2.2) rfl hd hm hms hKn.2.1 hz0 fun H1 kC hkC e1 z1 o1 => ?_
  refine h l D tA base p e s m args below meth c M H1 locs ls (hH.mk ⟨_, hc, (u_born ty hts (ax_cls hc).1 hKn hkC e1 hty).to hfs⟩ z1 o1) (hC.push hH.2.1 hI.st rfl) (by show hp.1 + 1 = hp0.1 + (cl + 1); omega) ⟨Nat.le_trans hS.1 (by omega), fun q h1 h2 => (o1 q (by rw [← hz0]; exact Nat.lt_of_lt_of_le h1 hS.1)).trans (hS.2.1 q h1 h2), hS.2.2⟩ hL

theorem w_callV {a ci : Nat} {fs : List Value} (hd : decode cL_law pc = .ok (.invokevirtual idx, 3)) (hy : ax_kM y1 cc1 nL1 ret1 n) (hi : Cond.instanceMethod y1 ∈ TB ∧ Cond.selects y1.cls y1 y1 ∈ TB) (hl : Cond.methodLink RL idx y1 ∈ TB) (hc : CT st 10 y1 cc1 nL1 ret1 (.ref a :: As) hp mc1 ms1 Q1) (hh : hp.2 a = some (.inr (ci, fs))) (hci : (vwCl[ci]?).map (fun q => q.1) = some y1.cls) (hs : stk0 = As.reverse ++ .ref a :: stk) (hn : As.length = n) (hr : (stk.map fun v => v.category).sum ≤ 8) (hm : cl + mc1 ≤ 600000 ∧ sl + ms1 ≤ 7302250)
    (h : ∀ r hp', Q1 r hp' → EvL st hp0 b L xs (pc + 3) lv (r.toList ++ stk) hp' (cl + mc1) (sl + ms1)) : EvL st hp0 b L xs pc lv stk0 hp cl sl := by
  intro l D tA base p e s m args below meth c M H locs ls hH hC hz hS hL
  have hts := M.2.2.2.2.2.1
  have hI := M.2.2.2.2.2.2.2.2.2.2
  obtain ⟨q, hq, hq1⟩ := Option.map_eq_some_iff.mp hci
  subst hs
  refine ax_after (va_runV (C := y1.cls) (Ts := TB) (own := RL) (As := As) (rest := stk) ⟨M.1, M.2.1, M.2.2.2.1, M.2.2.2.2.1, hts⟩ (hc l D tA base) (cwV n hts (ax_TBin fun w hw => ?_) rfl rfl rfl ⟨rfl, hy.2.2.1⟩ ⟨Nat.le_refl 11, (show 8 + (nL1 + 11) + 36 * 10 ≤ 414 from by have := hy.2.2.2; omega)⟩) ⟨ax_blind, ?_, fun U hU hW => ⟨rfl, by rw [hU]; exact hH, hC, hI.warm (by rw [hU]; exact hS) hW⟩⟩ rfl hn hL.2.1 rfl (lv_room hr) hd hm) hS hH.1 (fun r hp' H1 locs1 hQ hz1 hH1 hC1 hS1 => h r hp' hQ l D tA base p e s m args below meth c M H1 locs1 ls hH1 hC1 (by omega) hS1 hL)
  · unfold wsV at hw
    rcases List.mem_append.mp hw with hw | hw
    · rcases List.mem_cons.mp hw with rfl | hw
      · exact hl
      rcases List.mem_cons.mp hw with rfl | hw
      · exact hi.1
      rcases List.mem_cons.mp hw with rfl | hw
      · exact hi.2
      rw [List.mem_singleton.mp hw]
      exact hy.1
    · exact (hy.ws w hw).1
  · rw [← hq1]
    exact va_recv hI.1 hH.2.2 hq (hH.at hC hh rfl)

theorem w_callI {a : Nat} (hd : decode cL_law pc = .ok (.invokespecial idx, 3)) (hy : ax_kM y1 cc1 nL1 none n) (hy1 : y1.name = "<init>") (hi : Cond.instanceMethod y1 ∈ TB) (hl : Cond.methodLink RL idx y1 ∈ TB) (hc : CT st 10 y1 cc1 nL1 none (.ref a :: As) hp mc1 ms1 Q1) (hs : stk0 = As.reverse ++ .ref a :: stk) (hn : As.length = n) (hr : (stk.map fun v => v.category).sum ≤ 8) (hm : cl + mc1 ≤ 600000 ∧ sl + ms1 ≤ 7302250)
    (h : ∀ r hp', Q1 r hp' → EvL st hp0 b L xs (pc + 3) lv (r.toList ++ stk) hp' (cl + mc1) (sl + ms1)) : EvL st hp0 b L xs pc lv stk0 hp cl sl := by
  intro l D tA base p e s m args below meth c M H locs ls hH hC hz hS hL
  have hts := M.2.2.2.2.2.1
  have hI := M.2.2.2.2.2.2.2.2.2.2
  subst hs
  exact ax_after (va_runI (Ts := TB) (own := RL) (b := a) (As := As) (rest := stk) ⟨M.1, M.2.1, M.2.2.2.1, M.2.2.2.2.1, hts⟩ (hc l D tA base) (cwI n hts hy.ws rfl rfl rfl (hts _ hy.1) (hts _ hl) (hts _ hi) hy1 hy.2.2.1 ⟨Nat.le_refl 11, (show 8 + (nL1 + 11) + 36 * 10 ≤ 414 from by have := hy.2.2.2; omega)⟩) ⟨ax_blind, fun U hU hW => ⟨rfl, by rw [hU]; exact hH, hC, hI.warm (by rw [hU]; exact hS) hW⟩⟩ rfl hn hL.2.1 rfl (lv_room hr) hd hm) hS hH.1 (fun r hp' H1 locs1 hQ hz1 hH1 hC1 hS1 => h r hp' hQ l D tA base p e s m args below meth c M H1 locs1 ls hH1 hC1 (by omega) hS1 hL)

theorem w_callS (hd : decode cL_law pc = .ok (.invokestatic idx, 3)) (hy : ax_kM y1 cc1 nL1 ret1 n) (hi : Cond.static y1 ∈ TB) (hl : Cond.methodLink RL idx y1 ∈ TB) (hc : CT st 10 y1 cc1 nL1 ret1 As hp mc1 ms1 Q1) (hs : stk0 = As.reverse ++ stk) (hn : As.length = n) (hr : (stk.map fun v => v.category).sum ≤ 8) (hm : cl + mc1 ≤ 600000 ∧ sl + ms1 ≤ 7302250)
    (h : ∀ r hp', Q1 r hp' → EvL st hp0 b L xs (pc + 3) lv (r.toList ++ stk) hp' (cl + mc1) (sl + ms1)) : EvL st hp0 b L xs pc lv stk0 hp cl sl := by
  intro l D tA base p e s m args below meth c M H locs ls hH hC hz hS hL
  have hts := M.2.2.2.2.2.1
  have hI := M.2.2.2.2.2.2.2.2.2.2
  subst hs
  refine ax_after (va_runS (Ts := TB) (own := RL) (As := As) (rest := stk) ⟨M.1, M.2.1, M.2.2.2.1, M.2.2.2.2.1, hts⟩ (hc l D tA base) (va_cwS n hts (ax_TBin fun w hw => ?_) rfl rfl rfl hy.2.2.1 ⟨Nat.le_refl 11, (show 8 + (nL1 + 11) + 36 * 10 ≤ 414 from by have := hy.2.2.2; omega)⟩) ⟨ax_blind, fun U hU hW => ⟨rfl, by rw [hU]; exact hH, hC, hI.warm (by rw [hU]; exact hS) hW⟩⟩ rfl hn hL.2.1 rfl (lv_room hr) hd hm) hS hH.1 (fun r hp' H1 locs1 hQ hz1 hH1 hC1 hS1 => h r hp' hQ l D tA base p e s m args below meth c M H1 locs1 ls hH1 hC1 (by omega) hS1 hL)
  unfold va_wsS at hw
  rcases List.mem_append.mp hw with hw | hw
  · rcases List.mem_cons.mp hw with rfl | hw
    · exact hl
    rcases List.mem_cons.mp hw with rfl | hw
    · exact hi
    rw [List.mem_singleton.mp hw]
    exact hy.1
  · exact (hy.ws w hw).1

theorem w_ret1 (hd : decode cL_law pc = .ok (.ireturn, 1)) (hc : cl ≤ 600000) (hs : sl ≤ 7302250) : EvL st hp0 b L xs pc lv [.int 1] hp cl sl := by
  intro l D tA base p e s m args below meth c M H locs ls hH hC hz hS hL
  obtain ⟨hX, hbl, rfl, hb⟩ := M.2.2.2.2.2.2.2.2.2.1
  refine va_forget (fun q hq => by rw [← hb]; exact hS.2.2 q hq) ?_
  refine W.widen (k := 600000) (n := 7302250) hc hs ?_
  exact lw_ret M.1 M.2.1 M.2.2.1 M.2.2.2.2.2.2.1 hd
theorem w_isd {i : Nat} {a a2 : Int32} (hd : decode cL_law pc = .ok (.istore i, 2)) (hn : i < lv.length) (ho : ax_ok lv i = true) (he : a = a2) (hl : lv.set i (.int a2) = lv2) (h : EvL st hp0 b L xs (pc + 2) lv2 stk hp cl sl) : EvL st hp0 b L xs pc lv (.int a :: stk) hp cl sl := by
  subst he
  subst hl
  exact w_istore hd hn ho h
theorem w_isd_n {i : Fin 4} {a a2 : Int32} (hd : decode cL_law pc = .ok (.istore_n i, 1)) (hn : (i : Nat) < lv.length) (ho : ax_ok lv i = true) (he : a = a2) (hl : lv.set i (.int a2) = lv2) (h : EvL st hp0 b L xs (pc + 1) lv2 stk hp cl sl) : EvL st hp0 b L xs pc lv (.int a :: stk) hp cl sl := by
  subst he
  subst hl
  exact w_istore_n hd hn ho h
theorem w_incd {i : Nat} {m : Int} {a a2 : Int32} (hd : decode cL_law pc = .ok (.iinc i m, 3)) (hi : lv[i]? = some (.int a)) (hv : a + Int32.ofInt m = a2) (ho : ax_ok lv i = true) (hl : lv.set i (.int a2) = lv2) (h : EvL st hp0 b L xs (pc + 3) lv2 stk hp cl sl) : EvL st hp0 b L xs pc lv stk hp cl sl := by
  subst hl
  exact w_iinc hd hi hv ho h
theorem w_lsd {i : Nat} {a a2 : Int64} (hd : decode cL_law pc = .ok (.lstore i, 2)) (hn : i + 1 < lv.length) (ho : ax_ok lv i = true) (he : a = a2) (hl : (lv.set i (.long a2)).set (i + 1) .null = lv2) (h : EvL st hp0 b L xs (pc + 2) lv2 stk hp cl sl) : EvL st hp0 b L xs pc lv (.long a :: stk) hp cl sl := by
  subst he
  subst hl
  exact w_lstore hd hn ho h
theorem w_top {a a2 : Int32} (he : a = a2) (h : EvL st hp0 b L xs pc lv (.int a2 :: stk) hp cl sl) : EvL st hp0 b L xs pc lv (.int a :: stk) hp cl sl := by
  subst he
  exact h
variable {x nn : Nat} {σ τ : Sg} {sl0 : Nat → Sg} {sv : Nat → Int32}
theorem w_cn {a v : Int32} (hd : decode cL_law pc = .ok (.invokevirtual idx, 3)) (hl : Cond.methodLink RL idx yX4_count ∈ TB) (hX : XS hp.2 x σ nn τ sl0 sv) (hr : (stk.map fun v => v.category).sum ≤ 8) (hm : cl ≤ 600000 ∧ sl ≤ 7302250) (he : ∀ P : PD, P.1 = 0 → xCount σ nn P a = v) (h : EvL st hp0 b L xs (pc + 3) lv (.int v :: stk) hp cl sl) : EvL st hp0 b L xs pc lv (.int a :: .ref x :: stk) hp cl sl := by
  obtain ⟨hQ, H, T, P, hA, hP, _⟩ := id hX
  have hc := xcount (st := st) 5 (z := hp.1) hA hQ.ok3 (by omega) a
  rw [he P hP] at hc
  exact w_callV hd kX4_count iX4_count hl hc hA.ob rfl rfl rfl hr hm (fun r hp' hq => by obtain ⟨rfl, rfl⟩ := hq; exact h)
theorem w_xq {r : Int32} {σ' τ' : Sg} {n' : Nat} {sl' : Nat → Sg} {sv' : Nat → Int32} (hd : decode cL_law pc = .ok (.invokevirtual idx, 3)) (hy : ax_kM y1 cc1 nL1 (some .int) n) (hi : Cond.instanceMethod y1 ∈ TB ∧ Cond.selects y1.cls y1 y1 ∈ TB) (hl : Cond.methodLink RL idx y1 ∈ TB) (hX : XS hp.2 x σ nn τ sl0 sv) (hc : CT st 10 y1 cc1 nL1 (some .int) (.ref x :: As) hp 0 0 (XQ r hp.1 x σ' n' τ' sl' sv')) (hci : (vwCl[4]?).map (fun q => q.1) = some y1.cls) (hs : stk0 = As.reverse ++ .ref x :: stk) (hn : As.length = n) (hr : (stk.map fun v => v.category).sum ≤ 8) (hm : cl ≤ 600000 ∧ sl ≤ 7302250) (h : ∀ h', XS h' x σ' n' τ' sl' sv' → EvL st hp0 b L xs (pc + 3) lv (.int r :: stk) (hp.1, h') cl sl) : EvL st hp0 b L xs pc lv stk0 hp cl sl := by
  obtain ⟨fs, ho⟩ := hX.ob
  refine w_callV hd hy hi hl hc ho hci hs hn hr hm (fun r' hp' hq => ?_)
  obtain ⟨rfl, h', rfl, q1⟩ := hq
  exact h h' q1
/-- a static call that reads -/
theorem w_sr {v : Value} (hd : decode cL_law pc = .ok (.invokestatic idx, 3)) (hy : ax_kM y1 cc1 nL1 ret1 n) (hi : Cond.static y1 ∈ TB) (hl : Cond.methodLink RL idx y1 ∈ TB) (hc : CT st 10 y1 cc1 nL1 ret1 As hp 0 0 (RO (some v) hp)) (hs : stk0 = As.reverse ++ stk) (hn : As.length = n) (hr : (stk.map fun v => v.category).sum ≤ 8) (hm : cl ≤ 600000 ∧ sl ≤ 7302250) (h : EvL st hp0 b L xs (pc + 3) lv (v :: stk) hp cl sl) : EvL st hp0 b L xs pc lv stk0 hp cl sl :=
  w_callS hd hy hi hl hc hs hn hr hm (fun r hp' hq => by obtain ⟨rfl, rfl⟩ := hq; exact h)
/-- a static call behind which the object stands as it stood -/
theorem w_sq {r : Int32} {σ' τ' : Sg} {n' : Nat} {sl' : Nat → Sg} {sv' : Nat → Int32} (hd : decode cL_law pc = .ok (.invokestatic idx, 3)) (hy : ax_kM y1 cc1 nL1 ret1 n) (hi : Cond.static y1 ∈ TB) (hl : Cond.methodLink RL idx y1 ∈ TB) (hc : CT st 10 y1 cc1 nL1 ret1 As hp 0 0 (XQ r hp.1 x σ' n' τ' sl' sv')) (hs : stk0 = As.reverse ++ stk) (hn : As.length = n) (hr : (stk.map fun v => v.category).sum ≤ 8) (hm : cl ≤ 600000 ∧ sl ≤ 7302250) (h : ∀ h', XS h' x σ' n' τ' sl' sv' → EvL st hp0 b L xs (pc + 3) lv (.int r :: stk) (hp.1, h') cl sl) : EvL st hp0 b L xs pc lv stk0 hp cl sl := by
  refine w_callS hd hy hi hl hc hs hn hr hm (fun r' hp' hq => ?_)
  obtain ⟨rfl, h', rfl, q1⟩ := hq
  exact h h' q1
/-- a cell of the script, or what stands for it -/
def cellV (L : Nat) (xs : Nat → Int32) (i : Nat) : Int32 := (if i < L then xs i else (431585811 : Int32) * (nI i + 383) + 71011) &&& 2147483647
def cellN (L : Nat) (xs : Nat → Int32) (i : Nat) : Nat := (if i < L then xs i else (431585811 : Int32) * (nI i + 383) + 71011).toBitVec.toNat % 2 ^ 31
theorem cellV_n (L : Nat) (xs : Nat → Int32) (i : Nat) : cellV L xs i = nI (cellN L xs i) ∧ cellN L xs i < 2 ^ 31 := ⟨pk_and _ (m := 2147483647) 31 rfl, Nat.mod_lt _ (by decide)⟩
def CX (st : Nat → Nat) (k b L : Nat) (xs : Nat → Int32) (hp : Hp) (i v : Int32) : Prop := ∀ (l : Launch) (D : va_G) (tA : Nat → ClassId) (base : Nat), Met l yL_cell (.code yL_cell cL_cell 2 (some .int) :: TB) (ax_R k 0 0) (va_Pc [.ref b, .int i] (fun U => ax_U D tA base st hp U ∧ va_X b L xs U U.heap ∧ b < base)) (ax_Q D tA base st 0 (RO (some (.int v)) hp)) 0 0 (fun q => base ≤ q)
theorem t_cell {st : Nat → Nat} (k : Nat) {b L : Nat} {xs : Nat → Int32} {hp : Hp} {i : Nat} (hi : i < 70) (hL260 : L ≤ 260) : CX st k b L xs hp (nI i) (cellV L xs i) := by
  intro l D tA base
  refine Met.ofW (cc := cL_cell) (maxL := 2) (ret := some .int) (by decide) rfl ?_
  intro p e s m args below meth c s₁ B hml hv
  obtain ⟨rfl, ⟨hH, hC, hI⟩, hX, hb⟩ := hv
  have hts := atoms_spec (ws := .code yL_cell cL_cell 2 (some .int) :: TB) B.pre
  have hTB : ∀ w ∈ TB, w.before ([.ref b, .int (nI i)] : List Value).toArray s = true := fun w hw => hts w (List.mem_cons_of_mem _ hw)
  have hown : s.vm.findClass RL = some m.cls := findClass_of_methodNamed B.named
  rw [lg_entry_eq]
  have hbs : b < s.heap.size := by rw [hH.1]; exact Nat.lt_of_lt_of_le hb hH.2.1
  have hnb : ¬ base ≤ b := Nat.not_le.mpr hb
  have fin : ∀ (ls : Array Slot) (v : Int32), v &&& 2147483647 = cellV L xs i → W p l e (ax_R k 0 0) s m ([.ref b, .int (nI i)] : List Value).toArray below meth c s.heap [] 0 0 (MQ below (ax_Q D tA base st 0 (RO (some (.int (cellV L xs i))) hp)) ([.ref b, .int (nI i)] : List Value).toArray s 0 0 (fun q => base ≤ q)) (F0 m 23 ls [.int v]) := by
    intro ls v hv
    refine lv_ldc B.exec B.bytes hown (hTB _ q295) dL_cell_23 ?_
    refine lv_iand B.exec B.bytes dL_cell_25 ?_
    refine W.zret B.exec B.bytes B.returns rfl (fun t ht _ => ⟨⟨_, hp, rfl, ⟨by rw [hv], rfl⟩, hH.1.symm, by rw [ht]; exact hH, hC⟩, ?_⟩) (fun q hq => by cases hq) dL_cell_26 B.notSynchronized
    have h0 : va_S (fun q => base ≤ q) s.heap s.heap [] := va_S.rf
    exact h0.F ht
  have key : ∀ ls : Array Slot, ax_L ls 2 [.ref b, .int (nI i)] → W p l e (ax_R k 0 0) s m ([.ref b, .int (nI i)] : List Value).toArray below meth c s.heap [] 0 0 (MQ below (ax_Q D tA base st 0 (RO (some (.int (cellV L xs i))) hp)) ([.ref b, .int (nI i)] : List Value).toArray s 0 0 (fun q => base ≤ q)) (F0 m 0 ls []) := by
    intro ls hL
    refine lv_iload_n B.exec B.bytes dL_cell_0 rfl (hL.get (i := 1) rfl rfl) ?_
    refine lv_aload_n B.exec B.bytes dL_cell_1 rfl (hL.get (i := 0) rfl rfl) ?_
    refine va_slen B.exec B.bytes hX hbs hnb va_S.rf dL_cell_2 ?_
    refine lv_icmp_ge (tgt := 12) B.exec B.bytes dL_cell_3 (by decide) (fun q => ?_) (fun q => ?_)
    · refine lv_ldc B.exec B.bytes hown (hTB _ q293) dL_cell_12 ?_
      refine lv_iload_n B.exec B.bytes dL_cell_14 rfl (hL.get (i := 1) rfl rfl) ?_
      refine lv_sipush (v := 383) B.exec B.bytes dL_cell_15 rfl ?_
      refine lv_iadd B.exec B.bytes dL_cell_18 ?_
      refine lv_imul B.exec B.bytes dL_cell_19 ?_
      refine lv_ldc B.exec B.bytes hown (hTB _ q294) dL_cell_20 ?_
      refine lv_iadd B.exec B.bytes dL_cell_22 ?_
      refine fin ls _ ?_
      unfold cellV
      have q : nI L ≤ nI i := q
      rw [nI_leI (by omega) (by omega)] at q
      rw [if_neg (by omega)]
    · have q : ¬ nI L ≤ nI i := q
      rw [nI_leI (by omega) (by omega)] at q
      refine lv_aload_n B.exec B.bytes dL_cell_6 rfl (hL.get (i := 0) rfl rfl) ?_
      refine lv_iload_n B.exec B.bytes dL_cell_7 rfl (hL.get (i := 1) rfl rfl) ?_
      refine va_sld B.exec B.bytes hX hbs hnb va_S.rf (vp_in_nI (by omega) (by omega)) dL_cell_8 ?_
      refine lv_goto (tgt := 23) B.exec B.bytes dL_cell_9 (by decide) ?_
      refine fin ls _ ?_
      unfold cellV
      rw [if_pos (by omega), nI_clamp (by omega)]
  exact key _ ⟨rfl, lv_entry [.ref b, .int (nI i)] (n := 2) (Nat.le_of_ble_eq_true rfl)⟩
theorem cx_blind {D : va_G} {tA : Nat → ClassId} {base : Nat} {av : List Value} : FrameBlind (va_Pc av (fun U => ax_U D tA base st hp U ∧ va_X b L xs U U.heap ∧ b < base)) := fun a U g mk h => ⟨h.1, ⟨h.2.1.1, h.2.1.2.1, h.2.1.2.2.calling g mk a⟩, va_X.moved (u := U) (U := U.calling g mk a) (Vm.Alike.refl U.vm) h.2.2.1, h.2.2.2⟩
theorem w_cell {i v : Int32} (hd : decode cL_law pc = .ok (.invokestatic idx, 3)) (hl : Cond.methodLink RL idx yL_cell ∈ TB) (hc : CX st 10 b L xs hp i v) (hr : (stk.map fun v => v.category).sum ≤ 8) (hm : cl ≤ 600000 ∧ sl ≤ 7302250) (h : EvL st hp0 b L xs (pc + 3) lv (.int v :: stk) hp cl sl) : EvL st hp0 b L xs pc lv (.int i :: .ref b :: stk) hp cl sl := by
  intro l D tA base p e s m args below meth c M H locs ls hH hC hz hS hL
  have hts := M.2.2.2.2.2.1
  have hI := M.2.2.2.2.2.2.2.2.2.2
  have hE := M.2.2.2.2.2.2.2.2.2.1
  have hy := kL_cell
  have hkeep : H[b]? = s.heap[b]? := hS.2.1 b hE.2.1 (by rw [hE.2.2.2]; exact Nat.not_le.mpr hE.2.1)
  refine ax_after (va_runS (Ts := TB) (own := RL) (As := [.ref b, .int i]) (rest := stk) ⟨M.1, M.2.1, M.2.2.2.1, M.2.2.2.2.1, hts⟩ (hc l D tA base) (va_cwS 2 hts (ax_TBin fun w hw => ?_) rfl rfl rfl hy.2.2.1 ⟨Nat.le_refl 11, (show 8 + (2 + 11) + 36 * 10 ≤ 414 from by decide)⟩) ⟨cx_blind, fun U hU hW => ⟨rfl, ⟨by rw [hU]; exact hH, hC, hI.warm (by rw [hU]; exact hS) hW⟩, (hE.1.moved hW.alike).kept (by rw [hU]; exact hkeep), by rw [hE.2.2.2]; exact hE.2.1⟩⟩ rfl rfl hL.2.1 rfl (lv_room hr) hd hm) hS hH.1 (fun r hp' H1 locs1 hQ hz1 hH1 hC1 hS1 => by
    obtain ⟨rfl, rfl⟩ := hQ
    exact h l D tA base p e s m args below meth c M H1 locs1 ls hH1 hC1 hz hS1 hL)
  unfold va_wsS at hw
  rcases List.mem_append.mp hw with hw | hw
  · rcases List.mem_cons.mp hw with rfl | hw
    · exact hl
    rcases List.mem_cons.mp hw with rfl | hw
    · exact q291
    rw [List.mem_singleton.mp hw]
    exact hy.1
  · exact (hy.ws w hw).1
end EVL
