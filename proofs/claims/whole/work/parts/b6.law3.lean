/-! THE CLAIM OUT OF ONE WALK OF THE LAW'S BODY. Your part is whole_start (and what it stands on); all else here is the same for every law, but numbers. -/
def R_law : String := "EscheatLotsLaw"
def lw_P (b : Addr) (xs : List Int32) (args : Array Value) (s : State) : Prop := args = #[.ref b] ∧ s.IntsAt b xs ∧ xs.length ≤ 2048 ∧ (Jvm.Cond.and given_1 narrow_1).before args s = true
def lw_Q (_ : Array Value) (s : State) (o : Outcome) (t : State) : Prop := o = .returned (some (.int 1)) ∧ Framed s o t [] 600000 7302250
def lw_Z (below : List Frame) (a : Array Value) (s : State) : State → Prop := fun t => ∃ o, t.status = .running ∧ Ended t below o ∧ lw_Q a s o t
/-- the law's own end, with 1 on the stack, nothing written that was there before, its room as the claim has it -/
theorem lw_ret {p : Program} {l : Launch} {e : Env} {s : State} {m : MethodId} {below : List Frame} {meth : Method} {c : Code} {b : Nat} (hx : p.tables.exec = Jvm.exec) (hb : c.code = code) (hr : meth.sig.returnType = ret) (hlocks : meth.locks = false) {pc : Nat} {H : Heap} {ls : Array Slot} (hdg : decode code pc = .ok (.ireturn, 1)) : W p l e room_1 s m #[Value.ref b] below meth c H [] 600000 7302250 (lw_Z below #[Value.ref b] s) (F0 m pc ls [.int 1]) := by
  intro T hT X
  obtain ⟨fs, hret, hrun, hended, hW, hframe⟩ := X.leave (v := some (.int 1)) (hlocks := hlocks) (fun h => by rw [hr] at h; cases h)
  have hmeth' : T.vm.method? m = some meth := X.method'
  refine ⟨T.setFrames fs, ?_, .returned (some (.int 1)), hrun, hended, rfl, ⟨_, rfl⟩, hW, hframe⟩
  jvm_step X.here [X.here.top, hx, hb, hdg, hmeth', hr, ret, narrow_b1]
  (try refine ⟨rfl, ?_⟩); (try refine ⟨rfl, ?_⟩)
  first | (intro acts; rw [hret _ acts rfl rfl rfl]) | rw [hret _ _ rfl rfl rfl]
  exact Steps.refl _
/-- what holds at the law's entry: the machine, the code, the tables' words (any of lw_tbl by 'hts w (by decide +kernel)'), the script of L ints xs at the cell b, what the Statement gives of the start (any of its parts by flat_of_before) -/
def lw_At (p : Program) (s : State) (m : MethodId) (meth : Method) (c : Code) (b L : Nat) (xs : Nat → Int32) : Prop :=
  p.tables.exec = Jvm.exec ∧ c.code = code ∧ meth.sig.returnType = ret ∧ c.maxLocals = 4 ∧ s.vm.findClass R_law = some m.cls ∧ (∀ w ∈ lw_tbl, w.before #[Value.ref b] s = true) ∧ va_X b L xs s s.heap ∧ b < s.heap.size ∧ meth.locks = false ∧ (Jvm.Cond.and given_1 narrow_1).before #[Value.ref b] s = true


/-- what the law's body knows of the machine -/
def LM (st : Nat → Nat) (hp0 : Hp) (b L : Nat) (xs : Nat → Int32) (D : va_G) (tA : Nat → ClassId) (base : Nat) (p : Program) (s : State) (m : MethodId) (args : Array Value) (meth : Method) (c : Code) : Prop :=
  p.tables.exec = Jvm.exec ∧ c.code = cL_law ∧ meth.sig.returnType = ret ∧ c.maxLocals = 4 ∧ s.vm.findClass RL = some m.cls ∧ (∀ w ∈ TB, w.before args s = true) ∧ meth.locks = false ∧ s.heap.size = hp0.1 ∧ base ≤ s.heap.size ∧ (va_X b L xs s s.heap ∧ b < s.heap.size ∧ args = #[Value.ref b] ∧ base = s.heap.size) ∧ ax_I D tA base st s
/-- THE LAW'S JUDGEMENT -/
def EvL (st : Nat → Nat) (hp0 : Hp) (b L : Nat) (xs : Nat → Int32) (pc : Nat) (lv stk : List Value) (hp : Hp) (cl sl : Nat) : Prop :=
  ∀ (l : Launch) (D : va_G) (tA : Nat → ClassId) (base : Nat) (p : Program) (e : Env) (s : State) (m : MethodId) (args : Array Value) (below : List Frame) (meth : Method) (c : Code), LM st hp0 b L xs D tA base p s m args meth c →
    ∀ (H : Heap) (locs : List Loc) (ls : Array Slot), ax_H D tA base hp H → ax_C base st hp → hp.1 = hp0.1 + cl → va_S (fun q => base ≤ q) s.heap H locs → ax_L ls 4 lv →
      W p l e room_1 s m args below meth c H locs cl sl (lw_Z below args s) (F0 m pc ls stk)
section EVL
variable {st : Nat → Nat} {hp0 : Hp} {b L : Nat} {xs : Nat → Int32} {pc : Nat} {lv stk stk0 : List Value} {hp : Hp} {cl sl : Nat}
variable {idx n nL1 mc1 ms1 : Nat} {y1 : MethodName} {cc1 : ByteArray} {ret1 : Option FieldType} {As : List Value} {Q1 : Option Value → Hp → Prop}

theorem w_iconst {n : Int} {v : Int32} (hd : decode cL_law pc = .ok (.iconst n, 1)) (hv : Int32.ofInt n = v) (h : EvL st hp0 b L xs (pc + 1) lv (.int v :: stk) hp cl sl) : EvL st hp0 b L xs pc lv stk hp cl sl := by
  intro l D tA base p e s m args below meth c M H locs ls hH hC hz hS hL
  exact lv_iconst M.1 M.2.1 hd hv (h l D tA base p e s m args below meth c M H locs ls hH hC hz hS hL)

theorem w_bipush {n : Int} {v : Int32} (hd : decode cL_law pc = .ok (.bipush n, 2)) (hv : (Int8.ofInt n).toInt32 = v) (h : EvL st hp0 b L xs (pc + 2) lv (.int v :: stk) hp cl sl) : EvL st hp0 b L xs pc lv stk hp cl sl := by
  intro l D tA base p e s m args below meth c M H locs ls hH hC hz hS hL
  exact lv_bipush M.1 M.2.1 hd hv (h l D tA base p e s m args below meth c M H locs ls hH hC hz hS hL)

theorem w_ldc2 {n : Nat} {v : Int64} (hd : decode cL_law pc = .ok (.ldc2_w n, 3)) (hv : Cond.constantLong RL n v ∈ TB) (h : EvL st hp0 b L xs (pc + 3) lv (.long v :: stk) hp cl sl) : EvL st hp0 b L xs pc lv stk hp cl sl := by
  intro l D tA base p e s m args below meth c M H locs ls hH hC hz hS hL
  exact lv_ldc2 M.1 M.2.1 M.2.2.2.2.1 (M.2.2.2.2.2.1 _ hv) hd (h l D tA base p e s m args below meth c M H locs ls hH hC hz hS hL)

theorem w_iload_n {i : Fin 4} {x : Int32} (hd : decode cL_law pc = .ok (.iload_n i, 1)) (hi : lv[(i : Nat)]? = some (.int x)) (h : EvL st hp0 b L xs (pc + 1) lv (.int x :: stk) hp cl sl) : EvL st hp0 b L xs pc lv stk hp cl sl := by
  intro l D tA base p e s m args below meth c M H locs ls hH hC hz hS hL
  exact lv_iload_n M.1 M.2.1 hd rfl (hL.get hi rfl) (h l D tA base p e s m args below meth c M H locs ls hH hC hz hS hL)

theorem w_aload_n {i : Fin 4} {x : Nat} (hd : decode cL_law pc = .ok (.aload_n i, 1)) (hi : lv[(i : Nat)]? = some (.ref x)) (h : EvL st hp0 b L xs (pc + 1) lv (.ref x :: stk) hp cl sl) : EvL st hp0 b L xs pc lv stk hp cl sl := by
  intro l D tA base p e s m args below meth c M H locs ls hH hC hz hS hL
  exact lv_aload_n M.1 M.2.1 hd rfl (hL.get hi rfl) (h l D tA base p e s m args below meth c M H locs ls hH hC hz hS hL)

theorem w_astore_n {i : Fin 4} {x : Nat} (hd : decode cL_law pc = .ok (.astore_n i, 1)) (hn : (i : Nat) < lv.length) (ho : ax_ok lv i = true) (h : EvL st hp0 b L xs (pc + 1) (lv.set i (.ref x)) stk hp cl sl) : EvL st hp0 b L xs pc lv (.ref x :: stk) hp cl sl := by
  intro l D tA base p e s m args below meth c M H locs ls hH hC hz hS hL
  exact lv_astore_n M.1 M.2.1 hd rfl hL.2 (by have := hL.1; omega) rfl (fun ls2 hl2 => h l D tA base p e s m args below meth c M H locs ls2 hH hC hz hS (hL.put ho hl2))

theorem w_istore_n {i : Fin 4} {x : Int32} (hd : decode cL_law pc = .ok (.istore_n i, 1)) (hn : (i : Nat) < lv.length) (ho : ax_ok lv i = true) (h : EvL st hp0 b L xs (pc + 1) (lv.set i (.int x)) stk hp cl sl) : EvL st hp0 b L xs pc lv (.int x :: stk) hp cl sl := by
  intro l D tA base p e s m args below meth c M H locs ls hH hC hz hS hL
  exact lv_istore_n M.1 M.2.1 hd rfl hL.2 (by have := hL.1; omega) rfl (fun ls2 hl2 => h l D tA base p e s m args below meth c M H locs ls2 hH hC hz hS (hL.put ho hl2))

theorem w_iinc {i : Nat} {n : Int} {x v : Int32} (hd : decode cL_law pc = .ok (.iinc i n, 3)) (hi : lv[i]? = some (.int x)) (hv : x + Int32.ofInt n = v) (ho : ax_ok lv i = true) (h : EvL st hp0 b L xs (pc + 3) (lv.set i (.int v)) stk hp cl sl) : EvL st hp0 b L xs pc lv stk hp cl sl := by
  intro l D tA base p e s m args below meth c M H locs ls hH hC hz hS hL
  obtain ⟨kk, hkk⟩ := List.getElem?_of_mem (ax_as_mem.mpr ⟨hi, rfl⟩ : (i, Value.int x) ∈ ax_as lv)
  exact lv_iinc M.1 M.2.1 hd hL.2 hkk hv (by rw [← hL.1]; exact (List.getElem?_eq_some_iff.mp hi).1) rfl (fun ls2 hl2 => h l D tA base p e s m args below meth c M H locs ls2 hH hC hz hS (hL.put ho hl2))

theorem w_iadd {x z : Int32} (hd : decode cL_law pc = .ok (.iadd, 1)) (h : EvL st hp0 b L xs (pc + 1) lv (.int (x + z) :: stk) hp cl sl) : EvL st hp0 b L xs pc lv (.int z :: .int x :: stk) hp cl sl := by
  intro l D tA base p e s m args below meth c M H locs ls hH hC hz hS hL
  exact lv_iadd M.1 M.2.1 hd (h l D tA base p e s m args below meth c M H locs ls hH hC hz hS hL)

theorem w_isub {x z : Int32} (hd : decode cL_law pc = .ok (.isub, 1)) (h : EvL st hp0 b L xs (pc + 1) lv (.int (x - z) :: stk) hp cl sl) : EvL st hp0 b L xs pc lv (.int z :: .int x :: stk) hp cl sl := by
  intro l D tA base p e s m args below meth c M H locs ls hH hC hz hS hL
  exact lv_isub M.1 M.2.1 hd (h l D tA base p e s m args below meth c M H locs ls hH hC hz hS hL)

theorem w_iand {x z : Int32} (hd : decode cL_law pc = .ok (.iand, 1)) (h : EvL st hp0 b L xs (pc + 1) lv (.int (x &&& z) :: stk) hp cl sl) : EvL st hp0 b L xs pc lv (.int z :: .int x :: stk) hp cl sl := by
  intro l D tA base p e s m args below meth c M H locs ls hH hC hz hS hL
  exact lv_iand M.1 M.2.1 hd (h l D tA base p e s m args below meth c M H locs ls hH hC hz hS hL)

theorem w_land {x z : Int64} (hd : decode cL_law pc = .ok (.land, 1)) (h : EvL st hp0 b L xs (pc + 1) lv (.long (x &&& z) :: stk) hp cl sl) : EvL st hp0 b L xs pc lv (.long z :: .long x :: stk) hp cl sl := by
  intro l D tA base p e s m args below meth c M H locs ls hH hC hz hS hL
  exact lv_land M.1 M.2.1 hd (h l D tA base p e s m args below meth c M H locs ls hH hC hz hS hL)

theorem w_lor {x z : Int64} (hd : decode cL_law pc = .ok (.lor, 1)) (h : EvL st hp0 b L xs (pc + 1) lv (.long (x ||| z) :: stk) hp cl sl) : EvL st hp0 b L xs pc lv (.long z :: .long x :: stk) hp cl sl := by
  intro l D tA base p e s m args below meth c M H locs ls hH hC hz hS hL
  exact lv_lor M.1 M.2.1 hd (h l D tA base p e s m args below meth c M H locs ls hH hC hz hS hL)

theorem w_lshl {x v : Int64} {z : Int32} (hd : decode cL_law pc = .ok (.lshl, 1)) (hv : x <<< (z.toInt64 &&& 63) = v) (h : EvL st hp0 b L xs (pc + 1) lv (.long v :: stk) hp cl sl) : EvL st hp0 b L xs pc lv (.int z :: .long x :: stk) hp cl sl := by
  intro l D tA base p e s m args below meth c M H locs ls hH hC hz hS hL
  exact lv_lshl M.1 M.2.1 hd hv (h l D tA base p e s m args below meth c M H locs ls hH hC hz hS hL)

theorem w_i2l {x : Int32} (hd : decode cL_law pc = .ok (.i2l, 1)) (h : EvL st hp0 b L xs (pc + 1) lv (.long x.toInt64 :: stk) hp cl sl) : EvL st hp0 b L xs pc lv (.int x :: stk) hp cl sl := by
  intro l D tA base p e s m args below meth c M H locs ls hH hC hz hS hL
  exact lv_i2l M.1 M.2.1 hd rfl (h l D tA base p e s m args below meth c M H locs ls hH hC hz hS hL)

theorem w_dup {v : Value} (hd : decode cL_law pc = .ok (.dup, 1)) (hv : v.category = 1) (h : EvL st hp0 b L xs (pc + 1) lv (v :: v :: stk) hp cl sl) : EvL st hp0 b L xs pc lv (v :: stk) hp cl sl := by
  intro l D tA base p e s m args below meth c M H locs ls hH hC hz hS hL
  exact lv_dup M.1 M.2.1 hd hv (h l D tA base p e s m args below meth c M H locs ls hH hC hz hS hL)

theorem w_goto {off : Int} {tgt : Nat} (hd : decode cL_law pc = .ok (.goto off, 3)) (ht : (pc : Int) + off = (tgt : Int)) (h : EvL st hp0 b L xs tgt lv stk hp cl sl) : EvL st hp0 b L xs pc lv stk hp cl sl := by
  intro l D tA base p e s m args below meth c M H locs ls hH hC hz hS hL
  exact lv_goto M.1 M.2.1 hd ht (h l D tA base p e s m args below meth c M H locs ls hH hC hz hS hL)

theorem w_icmp_eq {x z : Int32} {off : Int} {tgt : Nat} (hd : decode cL_law pc = .ok (.if_icmp .eq off, 3)) (ht : (pc : Int) + off = (tgt : Int)) (hT : (x = z) → EvL st hp0 b L xs tgt lv stk hp cl sl) (hF : ¬ (x = z) → EvL st hp0 b L xs (pc + 3) lv stk hp cl sl) : EvL st hp0 b L xs pc lv (.int z :: .int x :: stk) hp cl sl := by
  intro l D tA base p e s m args below meth c M H locs ls hH hC hz hS hL
  exact lv_icmp_eq M.1 M.2.1 hd ht (fun q => hT q l D tA base p e s m args below meth c M H locs ls hH hC hz hS hL) (fun q => hF q l D tA base p e s m args below meth c M H locs ls hH hC hz hS hL)

theorem w_icmp_gt {x z : Int32} {off : Int} {tgt : Nat} (hd : decode cL_law pc = .ok (.if_icmp .gt off, 3)) (ht : (pc : Int) + off = (tgt : Int)) (hT : (z < x) → EvL st hp0 b L xs tgt lv stk hp cl sl) (hF : ¬ (z < x) → EvL st hp0 b L xs (pc + 3) lv stk hp cl sl) : EvL st hp0 b L xs pc lv (.int z :: .int x :: stk) hp cl sl := by
  intro l D tA base p e s m args below meth c M H locs ls hH hC hz hS hL
  exact lv_icmp_gt M.1 M.2.1 hd ht (fun q => hT q l D tA base p e s m args below meth c M H locs ls hH hC hz hS hL) (fun q => hF q l D tA base p e s m args below meth c M H locs ls hH hC hz hS hL)

theorem w_tableIn {dflt lo hi : Int} {offs : Array Int} {len : Nat} {x : Int32} {off : Int} {tgt : Nat} (hd : decode cL_law pc = .ok (.tableswitch dflt lo hi offs, len)) (h1 : ¬ x.toInt < lo) (h2 : ¬ hi < x.toInt) (ho : offs[(x.toInt - lo).toNat]? = some off) (ht : (pc : Int) + off = (tgt : Int)) (h : EvL st hp0 b L xs tgt lv stk hp cl sl) : EvL st hp0 b L xs pc lv (.int x :: stk) hp cl sl := by
  intro l D tA base p e s m args below meth c M H locs ls hH hC hz hS hL
  exact lv_tableIn M.1 M.2.1 hd h1 h2 ho ht (h l D tA base p e s m args below meth c M H locs ls hH hC hz hS hL)

theorem w_tableOut {dflt lo hi : Int} {offs : Array Int} {len : Nat} {x : Int32} {tgt : Nat} (hd : decode cL_law pc = .ok (.tableswitch dflt lo hi offs, len)) (hx : x.toInt < lo ∨ hi < x.toInt) (ht : (pc : Int) + dflt = (tgt : Int)) (h : EvL st hp0 b L xs tgt lv stk hp cl sl) : EvL st hp0 b L xs pc lv (.int x :: stk) hp cl sl := by
  intro l D tA base p e s m args below meth c M H locs ls hH hC hz hS hL
  exact lv_tableOut M.1 M.2.1 hd hx ht (h l D tA base p e s m args below meth c M H locs ls hH hC hz hS hL)

theorem w_new {idx ci N : Nat} {C : String} {T : u_T} {fs : List Value} (ty : Nat → FieldType) (hd : decode cL_law pc = .ok (.new idx, 3)) (hc : vwCl[ci]? = some (C, T, N)) (hty : ∀ j, j < N → parseFieldDescriptor (T j).2.2.1 = some (ty j)) (hw : Cond.classLink RL idx C ∈ TB ∧ Cond.instantiable C N ∈ TB ∧ Cond.initialized C ∈ TB) (hfs : ∀ j, j < N → defaultValue (ty j) = vp_V fs j) (hm : cl + 1 ≤ 600000) (hms : sl + N ≤ 7302250) (h : EvL st hp0 b L xs (pc + 3) lv (.ref hp.1 :: stk) (hp.1 + 1, hset hp.2 hp.1 (.inr (ci, fs))) (cl + 1) (sl + N)) : EvL st hp0 b L xs pc lv stk hp cl sl := by
  intro l D tA base p e s m args below meth c M H locs ls hH hC hz hS hL
  have hts := M.2.2.2.2.2.1
  have hI := M.2.2.2.2.2.2.2.2.2.2
  have hKn := hI.1.1 ci _ hc
  have hz0 := hH.1
  refine W.newcK M.1 M.2.1 M.2.2.2.2.1 (hts _ hw.1) (hts _ hw.2.1) (hts _ hw.2.2) rfl hd hm hms hKn.2.1 hz0 fun H1 kC hkC e1 z1 o1 => ?_
  refine h l D tA base p e s m args below meth c M H1 locs ls (hH.mk ⟨_, hc, (u_born ty hts (ax_cls hc).1 hKn hkC e1 hty).to hfs⟩ z1 o1) (hC.push hH.2.1 hI.st rfl) (by show hp.1 + 1 = hp0.1 + (cl + 1); omega) ⟨Nat.le_trans hS.1 (by omega), fun q h1 h2 => (o1 q (by rw [← hz0]; exact Nat.lt_of_lt_of_le h1 hS.1)).trans (hS.2.1 q h1 h2), hS.2.2⟩ hL

theorem w_callV {a ci : Nat} {fs : List Value} (hd : decode cL_law pc = .ok (.invokevirtual idx, 3)) (hy : ax_kM y1 cc1 nL1 ret1 n) (hi : Cond.instanceMethod y1 ∈ TB ∧ Cond.selects y1.cls y1 y1 ∈ TB) (hl : Cond.methodLink RL idx y1 ∈ TB) (hc : CT st 9 y1 cc1 nL1 ret1 (.ref a :: As) hp mc1 ms1 Q1) (hh : hp.2 a = some (.inr (ci, fs))) (hci : (vwCl[ci]?).map (fun q => q.1) = some y1.cls) (hs : stk0 = As.reverse ++ .ref a :: stk) (hn : As.length = n) (hr : (stk.map fun v => v.category).sum ≤ 8) (hm : cl + mc1 ≤ 600000 ∧ sl + ms1 ≤ 7302250)
    (h : ∀ r hp', Q1 r hp' → EvL st hp0 b L xs (pc + 3) lv (r.toList ++ stk) hp' (cl + mc1) (sl + ms1)) : EvL st hp0 b L xs pc lv stk0 hp cl sl := by
  intro l D tA base p e s m args below meth c M H locs ls hH hC hz hS hL
  have hts := M.2.2.2.2.2.1
  have hI := M.2.2.2.2.2.2.2.2.2.2
  obtain ⟨q, hq, hq1⟩ := Option.map_eq_some_iff.mp hci
  subst hs
  refine ax_after (va_runV (C := y1.cls) (Ts := TB) (own := RL) (As := As) (rest := stk) ⟨M.1, M.2.1, M.2.2.2.1, M.2.2.2.2.1, hts⟩ (hc l D tA base) (cwV n hts (ax_TBin fun w hw => ?_) rfl rfl rfl ⟨rfl, hy.2.2.1⟩ ⟨Nat.le_refl 10, (show 8 + (nL1 + 11) + 26 * 9 ≤ 358 from by have := hy.2.2.2; omega)⟩) ⟨ax_blind, ?_, fun U hU hW => ⟨rfl, by rw [hU]; exact hH, hC, hI.warm (by rw [hU]; exact hS) hW⟩⟩ rfl hn hL.2.1 rfl (lv_room hr) hd hm) hS hH.1 (fun r hp' H1 locs1 hQ hz1 hH1 hC1 hS1 => h r hp' hQ l D tA base p e s m args below meth c M H1 locs1 ls hH1 hC1 (by omega) hS1 hL)
  · unfold wsV at hw
    rcases List.mem_append.mp hw with hw | hw
    · rcases List.mem_cons.mp hw with rfl | hw
      · exact hl
      rcases List.mem_cons.mp hw with rfl | hw
      · exact hi.1
      rcases List.mem_cons.mp hw with rfl | hw
      · exact hi.2
      rw [List.mem_singleton.mp hw]
      exact hy.1
    · exact (hy.ws w hw).1
  · rw [← hq1]
    exact va_recv hI.1 hH.2.2 hq (hH.at hC hh rfl)

theorem w_callI {a : Nat} (hd : decode cL_law pc = .ok (.invokespecial idx, 3)) (hy : ax_kM y1 cc1 nL1 none n) (hy1 : y1.name = "<init>") (hi : Cond.instanceMethod y1 ∈ TB) (hl : Cond.methodLink RL idx y1 ∈ TB) (hc : CT st 9 y1 cc1 nL1 none (.ref a :: As) hp mc1 ms1 Q1) (hs : stk0 = As.reverse ++ .ref a :: stk) (hn : As.length = n) (hr : (stk.map fun v => v.category).sum ≤ 8) (hm : cl + mc1 ≤ 600000 ∧ sl + ms1 ≤ 7302250)
    (h : ∀ r hp', Q1 r hp' → EvL st hp0 b L xs (pc + 3) lv (r.toList ++ stk) hp' (cl + mc1) (sl + ms1)) : EvL st hp0 b L xs pc lv stk0 hp cl sl := by
  intro l D tA base p e s m args below meth c M H locs ls hH hC hz hS hL
  have hts := M.2.2.2.2.2.1
  have hI := M.2.2.2.2.2.2.2.2.2.2
  subst hs
  exact ax_after (va_runI (Ts := TB) (own := RL) (b := a) (As := As) (rest := stk) ⟨M.1, M.2.1, M.2.2.2.1, M.2.2.2.2.1, hts⟩ (hc l D tA base) (cwI n hts hy.ws rfl rfl rfl (hts _ hy.1) (hts _ hl) (hts _ hi) hy1 hy.2.2.1 ⟨Nat.le_refl 10, (show 8 + (nL1 + 11) + 26 * 9 ≤ 358 from by have := hy.2.2.2; omega)⟩) ⟨ax_blind, fun U hU hW => ⟨rfl, by rw [hU]; exact hH, hC, hI.warm (by rw [hU]; exact hS) hW⟩⟩ rfl hn hL.2.1 rfl (lv_room hr) hd hm) hS hH.1 (fun r hp' H1 locs1 hQ hz1 hH1 hC1 hS1 => h r hp' hQ l D tA base p e s m args below meth c M H1 locs1 ls hH1 hC1 (by omega) hS1 hL)

theorem w_sld {i : Int32} (hd : decode cL_law pc = .ok (.iaload, 1)) (hin : vp_in i L) (h : EvL st hp0 b L xs (pc + 1) lv (.int (xs i.toNatClampNeg) :: stk) hp cl sl) : EvL st hp0 b L xs pc lv (.int i :: .ref b :: stk) hp cl sl := by
  intro l D tA base p e s m args below meth c M H locs ls hH hC hz hS hL
  have hE := M.2.2.2.2.2.2.2.2.2.1
  exact va_sld M.1 M.2.1 hE.1 hE.2.1 (by rw [hE.2.2.2]; exact Nat.not_le.mpr hE.2.1) hS hin hd (h l D tA base p e s m args below meth c M H locs ls hH hC hz hS hL)
theorem w_slen (hd : decode cL_law pc = .ok (.arraylength, 1)) (h : EvL st hp0 b L xs (pc + 1) lv (.int (nI L) :: stk) hp cl sl) : EvL st hp0 b L xs pc lv (.ref b :: stk) hp cl sl := by
  intro l D tA base p e s m args below meth c M H locs ls hH hC hz hS hL
  have hE := M.2.2.2.2.2.2.2.2.2.1
  exact va_slen M.1 M.2.1 hE.1 hE.2.1 (by rw [hE.2.2.2]; exact Nat.not_le.mpr hE.2.1) hS hd (h l D tA base p e s m args below meth c M H locs ls hH hC hz hS hL)
theorem w_ret1 (hd : decode cL_law pc = .ok (.ireturn, 1)) (hc : cl ≤ 600000) (hs : sl ≤ 7302250) : EvL st hp0 b L xs pc lv [.int 1] hp cl sl := by
  intro l D tA base p e s m args below meth c M H locs ls hH hC hz hS hL
  obtain ⟨hX, hbl, rfl, hb⟩ := M.2.2.2.2.2.2.2.2.2.1
  refine va_forget (fun q hq => by rw [← hb]; exact hS.2.2 q hq) ?_
  refine W.widen (k := 600000) (n := 7302250) hc hs ?_
  exact lw_ret M.1 M.2.1 M.2.2.1 M.2.2.2.2.2.2.1 hd
end EVL
