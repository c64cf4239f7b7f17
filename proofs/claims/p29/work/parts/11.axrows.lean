section AXR
variable {st : Nat → Nat} {k : Nat} {y : MethodName} {cc : ByteArray} {nL : Nat} {ret : Option FieldType} {hp0 : Hp} {mc ms : Nat} {fin : Option Value → Hp → Prop} {pc : Nat} {lv stk : List Value} {hp : Hp} {cl sl : Nat}
theorem x_iconst {n : Int} {v : Int32} (hd : decode cc pc = .ok (.iconst n, 1)) (hv : Int32.ofInt n = v) (h : Ev st k y cc nL ret hp0 mc ms fin (pc + 1) lv (.int v :: stk) hp cl sl) : Ev st k y cc nL ret hp0 mc ms fin pc lv stk hp cl sl := by
  intro l D tA base p e s m args below meth c M H locs ls hH hC hz hS hL
  exact lv_iconst M.1 M.2.1 hd hv (h l D tA base p e s m args below meth c M H locs ls hH hC hz hS hL)
theorem x_bipush {n : Int} {v : Int32} (hd : decode cc pc = .ok (.bipush n, 2)) (hv : (Int8.ofInt n).toInt32 = v) (h : Ev st k y cc nL ret hp0 mc ms fin (pc + 2) lv (.int v :: stk) hp cl sl) : Ev st k y cc nL ret hp0 mc ms fin pc lv stk hp cl sl := by
  intro l D tA base p e s m args below meth c M H locs ls hH hC hz hS hL
  exact lv_bipush M.1 M.2.1 hd hv (h l D tA base p e s m args below meth c M H locs ls hH hC hz hS hL)
theorem x_sipush {n : Int} {v : Int32} (hd : decode cc pc = .ok (.sipush n, 3)) (hv : (Int16.ofInt n).toInt32 = v) (h : Ev st k y cc nL ret hp0 mc ms fin (pc + 3) lv (.int v :: stk) hp cl sl) : Ev st k y cc nL ret hp0 mc ms fin pc lv stk hp cl sl := by
  intro l D tA base p e s m args below meth c M H locs ls hH hC hz hS hL
  exact lv_sipush M.1 M.2.1 hd hv (h l D tA base p e s m args below meth c M H locs ls hH hC hz hS hL)
theorem x_lconst {n : Fin 2} {v : Int64} (hd : decode cc pc = .ok (.lconst n, 1)) (hv : Int64.ofNat (n : Nat) = v) (h : Ev st k y cc nL ret hp0 mc ms fin (pc + 1) lv (.long v :: stk) hp cl sl) : Ev st k y cc nL ret hp0 mc ms fin pc lv stk hp cl sl := by
  intro l D tA base p e s m args below meth c M H locs ls hH hC hz hS hL
  exact lv_lconst M.1 M.2.1 hd hv (h l D tA base p e s m args below meth c M H locs ls hH hC hz hS hL)
theorem x_ldcw {n : Nat} {v : Int32} (hd : decode cc pc = .ok (.ldc_w n, 3)) (hv : Cond.constant y.cls n v ∈ TB) (h : Ev st k y cc nL ret hp0 mc ms fin (pc + 3) lv (.int v :: stk) hp cl sl) : Ev st k y cc nL ret hp0 mc ms fin pc lv stk hp cl sl := by
  intro l D tA base p e s m args below meth c M H locs ls hH hC hz hS hL
  exact lv_ldcw M.1 M.2.1 M.2.2.2.2.1 (M.2.2.2.2.2.1 _ hv) hd (h l D tA base p e s m args below meth c M H locs ls hH hC hz hS hL)
theorem x_ldc2 {n : Nat} {v : Int64} (hd : decode cc pc = .ok (.ldc2_w n, 3)) (hv : Cond.constantLong y.cls n v ∈ TB) (h : Ev st k y cc nL ret hp0 mc ms fin (pc + 3) lv (.long v :: stk) hp cl sl) : Ev st k y cc nL ret hp0 mc ms fin pc lv stk hp cl sl := by
  intro l D tA base p e s m args below meth c M H locs ls hH hC hz hS hL
  exact lv_ldc2 M.1 M.2.1 M.2.2.2.2.1 (M.2.2.2.2.2.1 _ hv) hd (h l D tA base p e s m args below meth c M H locs ls hH hC hz hS hL)
theorem x_iload_n {i : Fin 4} {x : Int32} (hd : decode cc pc = .ok (.iload_n i, 1)) (hi : lv[(i : Nat)]? = some (.int x)) (h : Ev st k y cc nL ret hp0 mc ms fin (pc + 1) lv (.int x :: stk) hp cl sl) : Ev st k y cc nL ret hp0 mc ms fin pc lv stk hp cl sl := by
  intro l D tA base p e s m args below meth c M H locs ls hH hC hz hS hL
  exact lv_iload_n M.1 M.2.1 hd rfl (hL.get hi rfl) (h l D tA base p e s m args below meth c M H locs ls hH hC hz hS hL)
theorem x_iload {i : Nat} {x : Int32} (hd : decode cc pc = .ok (.iload i, 2)) (hi : lv[i]? = some (.int x)) (h : Ev st k y cc nL ret hp0 mc ms fin (pc + 2) lv (.int x :: stk) hp cl sl) : Ev st k y cc nL ret hp0 mc ms fin pc lv stk hp cl sl := by
  intro l D tA base p e s m args below meth c M H locs ls hH hC hz hS hL
  exact lv_iload M.1 M.2.1 hd (hL.get hi rfl) (h l D tA base p e s m args below meth c M H locs ls hH hC hz hS hL)
theorem x_lload_n {i : Fin 4} {x : Int64} (hd : decode cc pc = .ok (.lload_n i, 1)) (hi : lv[(i : Nat)]? = some (.long x)) (h : Ev st k y cc nL ret hp0 mc ms fin (pc + 1) lv (.long x :: stk) hp cl sl) : Ev st k y cc nL ret hp0 mc ms fin pc lv stk hp cl sl := by
  intro l D tA base p e s m args below meth c M H locs ls hH hC hz hS hL
  exact lv_lload_n M.1 M.2.1 hd rfl (hL.get hi rfl) (h l D tA base p e s m args below meth c M H locs ls hH hC hz hS hL)
theorem x_lload {i : Nat} {x : Int64} (hd : decode cc pc = .ok (.lload i, 2)) (hi : lv[i]? = some (.long x)) (h : Ev st k y cc nL ret hp0 mc ms fin (pc + 2) lv (.long x :: stk) hp cl sl) : Ev st k y cc nL ret hp0 mc ms fin pc lv stk hp cl sl := by
  intro l D tA base p e s m args below meth c M H locs ls hH hC hz hS hL
  exact lv_lload M.1 M.2.1 hd (hL.get hi rfl) (h l D tA base p e s m args below meth c M H locs ls hH hC hz hS hL)
theorem x_aload_n {i : Fin 4} {x : Nat} (hd : decode cc pc = .ok (.aload_n i, 1)) (hi : lv[(i : Nat)]? = some (.ref x)) (h : Ev st k y cc nL ret hp0 mc ms fin (pc + 1) lv (.ref x :: stk) hp cl sl) : Ev st k y cc nL ret hp0 mc ms fin pc lv stk hp cl sl := by
  intro l D tA base p e s m args below meth c M H locs ls hH hC hz hS hL
  exact lv_aload_n M.1 M.2.1 hd rfl (hL.get hi rfl) (h l D tA base p e s m args below meth c M H locs ls hH hC hz hS hL)
theorem x_aload {i : Nat} {x : Nat} (hd : decode cc pc = .ok (.aload i, 2)) (hi : lv[i]? = some (.ref x)) (h : Ev st k y cc nL ret hp0 mc ms fin (pc + 2) lv (.ref x :: stk) hp cl sl) : Ev st k y cc nL ret hp0 mc ms fin pc lv stk hp cl sl := by
  intro l D tA base p e s m args below meth c M H locs ls hH hC hz hS hL
  exact lv_aload M.1 M.2.1 hd (hL.get hi rfl) (h l D tA base p e s m args below meth c M H locs ls hH hC hz hS hL)
theorem x_istore_n {i : Fin 4} {x : Int32} (hd : decode cc pc = .ok (.istore_n i, 1)) (hn : (i : Nat) < lv.length) (ho : ax_ok lv i = true) (h : Ev st k y cc nL ret hp0 mc ms fin (pc + 1) (lv.set i (.int x)) stk hp cl sl) : Ev st k y cc nL ret hp0 mc ms fin pc lv (.int x :: stk) hp cl sl := by
  intro l D tA base p e s m args below meth c M H locs ls hH hC hz hS hL
  exact lv_istore_n M.1 M.2.1 hd rfl hL.2 (by rw [← hL.1]; exact hn) rfl (fun ls2 hl2 => h l D tA base p e s m args below meth c M H locs ls2 hH hC hz hS (hL.put ho hl2))
theorem x_istore {i : Nat} {x : Int32} (hd : decode cc pc = .ok (.istore i, 2)) (hn : i < lv.length) (ho : ax_ok lv i = true) (h : Ev st k y cc nL ret hp0 mc ms fin (pc + 2) (lv.set i (.int x)) stk hp cl sl) : Ev st k y cc nL ret hp0 mc ms fin pc lv (.int x :: stk) hp cl sl := by
  intro l D tA base p e s m args below meth c M H locs ls hH hC hz hS hL
  exact lv_istore M.1 M.2.1 hd hL.2 (by rw [← hL.1]; exact hn) rfl (fun ls2 hl2 => h l D tA base p e s m args below meth c M H locs ls2 hH hC hz hS (hL.put ho hl2))
theorem x_astore_n {i : Fin 4} {x : Nat} (hd : decode cc pc = .ok (.astore_n i, 1)) (hn : (i : Nat) < lv.length) (ho : ax_ok lv i = true) (h : Ev st k y cc nL ret hp0 mc ms fin (pc + 1) (lv.set i (.ref x)) stk hp cl sl) : Ev st k y cc nL ret hp0 mc ms fin pc lv (.ref x :: stk) hp cl sl := by
  intro l D tA base p e s m args below meth c M H locs ls hH hC hz hS hL
  exact lv_astore_n M.1 M.2.1 hd rfl hL.2 (by rw [← hL.1]; exact hn) rfl (fun ls2 hl2 => h l D tA base p e s m args below meth c M H locs ls2 hH hC hz hS (hL.put ho hl2))
theorem x_astore {i : Nat} {x : Nat} (hd : decode cc pc = .ok (.astore i, 2)) (hn : i < lv.length) (ho : ax_ok lv i = true) (h : Ev st k y cc nL ret hp0 mc ms fin (pc + 2) (lv.set i (.ref x)) stk hp cl sl) : Ev st k y cc nL ret hp0 mc ms fin pc lv (.ref x :: stk) hp cl sl := by
  intro l D tA base p e s m args below meth c M H locs ls hH hC hz hS hL
  exact lv_astore M.1 M.2.1 hd hL.2 (by rw [← hL.1]; exact hn) rfl (fun ls2 hl2 => h l D tA base p e s m args below meth c M H locs ls2 hH hC hz hS (hL.put ho hl2))
theorem x_lstore_n {i : Fin 4} {x : Int64} (hd : decode cc pc = .ok (.lstore_n i, 1)) (hn : (i : Nat) + 1 < lv.length) (ho : ax_ok lv i = true) (h : Ev st k y cc nL ret hp0 mc ms fin (pc + 1) ((lv.set i (.long x)).set (i + 1) .null) stk hp cl sl) : Ev st k y cc nL ret hp0 mc ms fin pc lv (.long x :: stk) hp cl sl := by
  intro l D tA base p e s m args below meth c M H locs ls hH hC hz hS hL
  exact lv_lstore_n M.1 M.2.1 hd rfl hL.2 (by rw [← hL.1]; exact hn) rfl (fun ls2 hl2 => h l D tA base p e s m args below meth c M H locs ls2 hH hC hz hS (hL.put2 ho hl2))
theorem x_iinc {i : Nat} {n : Int} {x v : Int32} (hd : decode cc pc = .ok (.iinc i n, 3)) (hi : lv[i]? = some (.int x)) (hv : x + Int32.ofInt n = v) (ho : ax_ok lv i = true) (h : Ev st k y cc nL ret hp0 mc ms fin (pc + 3) (lv.set i (.int v)) stk hp cl sl) : Ev st k y cc nL ret hp0 mc ms fin pc lv stk hp cl sl := by
  intro l D tA base p e s m args below meth c M H locs ls hH hC hz hS hL
  obtain ⟨kk, hkk⟩ := List.getElem?_of_mem (ax_as_mem.mpr ⟨hi, rfl⟩ : (i, Value.int x) ∈ ax_as lv)
  exact lv_iinc M.1 M.2.1 hd hL.2 hkk hv (by rw [← hL.1]; exact (List.getElem?_eq_some_iff.mp hi).1) rfl (fun ls2 hl2 => h l D tA base p e s m args below meth c M H locs ls2 hH hC hz hS (hL.put ho hl2))
theorem x_iadd {x z : Int32} (hd : decode cc pc = .ok (.iadd, 1)) (h : Ev st k y cc nL ret hp0 mc ms fin (pc + 1) lv (.int (x + z) :: stk) hp cl sl) : Ev st k y cc nL ret hp0 mc ms fin pc lv (.int z :: .int x :: stk) hp cl sl := by
  intro l D tA base p e s m args below meth c M H locs ls hH hC hz hS hL
  exact lv_iadd M.1 M.2.1 hd (h l D tA base p e s m args below meth c M H locs ls hH hC hz hS hL)
theorem x_isub {x z : Int32} (hd : decode cc pc = .ok (.isub, 1)) (h : Ev st k y cc nL ret hp0 mc ms fin (pc + 1) lv (.int (x - z) :: stk) hp cl sl) : Ev st k y cc nL ret hp0 mc ms fin pc lv (.int z :: .int x :: stk) hp cl sl := by
  intro l D tA base p e s m args below meth c M H locs ls hH hC hz hS hL
  exact lv_isub M.1 M.2.1 hd (h l D tA base p e s m args below meth c M H locs ls hH hC hz hS hL)
theorem x_imul {x z : Int32} (hd : decode cc pc = .ok (.imul, 1)) (h : Ev st k y cc nL ret hp0 mc ms fin (pc + 1) lv (.int (x * z) :: stk) hp cl sl) : Ev st k y cc nL ret hp0 mc ms fin pc lv (.int z :: .int x :: stk) hp cl sl := by
  intro l D tA base p e s m args below meth c M H locs ls hH hC hz hS hL
  exact lv_imul M.1 M.2.1 hd (h l D tA base p e s m args below meth c M H locs ls hH hC hz hS hL)
theorem x_iand {x z : Int32} (hd : decode cc pc = .ok (.iand, 1)) (h : Ev st k y cc nL ret hp0 mc ms fin (pc + 1) lv (.int (x &&& z) :: stk) hp cl sl) : Ev st k y cc nL ret hp0 mc ms fin pc lv (.int z :: .int x :: stk) hp cl sl := by
  intro l D tA base p e s m args below meth c M H locs ls hH hC hz hS hL
  exact lv_iand M.1 M.2.1 hd (h l D tA base p e s m args below meth c M H locs ls hH hC hz hS hL)
theorem x_ior {x z : Int32} (hd : decode cc pc = .ok (.ior, 1)) (h : Ev st k y cc nL ret hp0 mc ms fin (pc + 1) lv (.int (x ||| z) :: stk) hp cl sl) : Ev st k y cc nL ret hp0 mc ms fin pc lv (.int z :: .int x :: stk) hp cl sl := by
  intro l D tA base p e s m args below meth c M H locs ls hH hC hz hS hL
  exact lv_ior M.1 M.2.1 hd (h l D tA base p e s m args below meth c M H locs ls hH hC hz hS hL)
theorem x_ixor {x z : Int32} (hd : decode cc pc = .ok (.ixor, 1)) (h : Ev st k y cc nL ret hp0 mc ms fin (pc + 1) lv (.int (x ^^^ z) :: stk) hp cl sl) : Ev st k y cc nL ret hp0 mc ms fin pc lv (.int z :: .int x :: stk) hp cl sl := by
  intro l D tA base p e s m args below meth c M H locs ls hH hC hz hS hL
  exact lv_ixor M.1 M.2.1 hd (h l D tA base p e s m args below meth c M H locs ls hH hC hz hS hL)
theorem x_ishl {x z : Int32} (hd : decode cc pc = .ok (.ishl, 1)) (h : Ev st k y cc nL ret hp0 mc ms fin (pc + 1) lv (.int (x <<< (z &&& 31)) :: stk) hp cl sl) : Ev st k y cc nL ret hp0 mc ms fin pc lv (.int z :: .int x :: stk) hp cl sl := by
  intro l D tA base p e s m args below meth c M H locs ls hH hC hz hS hL
  exact lv_ishl M.1 M.2.1 hd (h l D tA base p e s m args below meth c M H locs ls hH hC hz hS hL)
theorem x_ishr {x z : Int32} (hd : decode cc pc = .ok (.ishr, 1)) (h : Ev st k y cc nL ret hp0 mc ms fin (pc + 1) lv (.int (x >>> (z &&& 31)) :: stk) hp cl sl) : Ev st k y cc nL ret hp0 mc ms fin pc lv (.int z :: .int x :: stk) hp cl sl := by
  intro l D tA base p e s m args below meth c M H locs ls hH hC hz hS hL
  exact lv_ishr M.1 M.2.1 hd (h l D tA base p e s m args below meth c M H locs ls hH hC hz hS hL)
theorem x_iushr {x z v : Int32} (hd : decode cc pc = .ok (.iushr, 1)) (hv : (x.toUInt32 >>> (z.toUInt32 &&& Int32.toUInt32 31)).toInt32 = v) (h : Ev st k y cc nL ret hp0 mc ms fin (pc + 1) lv (.int v :: stk) hp cl sl) : Ev st k y cc nL ret hp0 mc ms fin pc lv (.int z :: .int x :: stk) hp cl sl := by
  intro l D tA base p e s m args below meth c M H locs ls hH hC hz hS hL
  exact lv_iushr M.1 M.2.1 hd hv (h l D tA base p e s m args below meth c M H locs ls hH hC hz hS hL)
theorem x_idiv {x z : Int32} (hd : decode cc pc = .ok (.idiv, 1)) (hne : ¬ z = 0) (h : Ev st k y cc nL ret hp0 mc ms fin (pc + 1) lv (.int (x / z) :: stk) hp cl sl) : Ev st k y cc nL ret hp0 mc ms fin pc lv (.int z :: .int x :: stk) hp cl sl := by
  intro l D tA base p e s m args below meth c M H locs ls hH hC hz hS hL
  exact lv_idiv M.1 M.2.1 hd hne (h l D tA base p e s m args below meth c M H locs ls hH hC hz hS hL)
theorem x_irem {x z : Int32} (hd : decode cc pc = .ok (.irem, 1)) (hne : ¬ z = 0) (h : Ev st k y cc nL ret hp0 mc ms fin (pc + 1) lv (.int (x - x / z * z) :: stk) hp cl sl) : Ev st k y cc nL ret hp0 mc ms fin pc lv (.int z :: .int x :: stk) hp cl sl := by
  intro l D tA base p e s m args below meth c M H locs ls hH hC hz hS hL
  exact lv_irem M.1 M.2.1 hd hne (h l D tA base p e s m args below meth c M H locs ls hH hC hz hS hL)
theorem x_land {x z : Int64} (hd : decode cc pc = .ok (.land, 1)) (h : Ev st k y cc nL ret hp0 mc ms fin (pc + 1) lv (.long (x &&& z) :: stk) hp cl sl) : Ev st k y cc nL ret hp0 mc ms fin pc lv (.long z :: .long x :: stk) hp cl sl := by
  intro l D tA base p e s m args below meth c M H locs ls hH hC hz hS hL
  exact lv_land M.1 M.2.1 hd (h l D tA base p e s m args below meth c M H locs ls hH hC hz hS hL)
theorem x_lor {x z : Int64} (hd : decode cc pc = .ok (.lor, 1)) (h : Ev st k y cc nL ret hp0 mc ms fin (pc + 1) lv (.long (x ||| z) :: stk) hp cl sl) : Ev st k y cc nL ret hp0 mc ms fin pc lv (.long z :: .long x :: stk) hp cl sl := by
  intro l D tA base p e s m args below meth c M H locs ls hH hC hz hS hL
  exact lv_lor M.1 M.2.1 hd (h l D tA base p e s m args below meth c M H locs ls hH hC hz hS hL)
theorem x_lcmp {x z : Int64} (hd : decode cc pc = .ok (.lcmp, 1)) (h : Ev st k y cc nL ret hp0 mc ms fin (pc + 1) lv (.int (lg_cmp x z) :: stk) hp cl sl) : Ev st k y cc nL ret hp0 mc ms fin pc lv (.long z :: .long x :: stk) hp cl sl := by
  intro l D tA base p e s m args below meth c M H locs ls hH hC hz hS hL
  exact W.lcmp M.1 M.2.1 hd (h l D tA base p e s m args below meth c M H locs ls hH hC hz hS hL)
theorem x_lushr {x v : Int64} {z : Int32} (hd : decode cc pc = .ok (.lushr, 1)) (hv : (x.toUInt64 >>> (z.toInt64.toUInt64 &&& Int64.toUInt64 63)).toInt64 = v) (h : Ev st k y cc nL ret hp0 mc ms fin (pc + 1) lv (.long v :: stk) hp cl sl) : Ev st k y cc nL ret hp0 mc ms fin pc lv (.int z :: .long x :: stk) hp cl sl := by
  intro l D tA base p e s m args below meth c M H locs ls hH hC hz hS hL
  exact lv_lushr M.1 M.2.1 hd hv (h l D tA base p e s m args below meth c M H locs ls hH hC hz hS hL)
theorem x_lshl {x v : Int64} {z : Int32} (hd : decode cc pc = .ok (.lshl, 1)) (hv : x <<< (z.toInt64 &&& 63) = v) (h : Ev st k y cc nL ret hp0 mc ms fin (pc + 1) lv (.long v :: stk) hp cl sl) : Ev st k y cc nL ret hp0 mc ms fin pc lv (.int z :: .long x :: stk) hp cl sl := by
  intro l D tA base p e s m args below meth c M H locs ls hH hC hz hS hL
  exact lv_lshl M.1 M.2.1 hd hv (h l D tA base p e s m args below meth c M H locs ls hH hC hz hS hL)
theorem x_i2l {x : Int32} (hd : decode cc pc = .ok (.i2l, 1)) (h : Ev st k y cc nL ret hp0 mc ms fin (pc + 1) lv (.long x.toInt64 :: stk) hp cl sl) : Ev st k y cc nL ret hp0 mc ms fin pc lv (.int x :: stk) hp cl sl := by
  intro l D tA base p e s m args below meth c M H locs ls hH hC hz hS hL
  exact lv_i2l M.1 M.2.1 hd rfl (h l D tA base p e s m args below meth c M H locs ls hH hC hz hS hL)
theorem x_l2i {x : Int64} (hd : decode cc pc = .ok (.l2i, 1)) (h : Ev st k y cc nL ret hp0 mc ms fin (pc + 1) lv (.int x.toInt32 :: stk) hp cl sl) : Ev st k y cc nL ret hp0 mc ms fin pc lv (.long x :: stk) hp cl sl := by
  intro l D tA base p e s m args below meth c M H locs ls hH hC hz hS hL
  exact lv_l2i M.1 M.2.1 hd rfl (h l D tA base p e s m args below meth c M H locs ls hH hC hz hS hL)
theorem x_i2c {x : Int32} (hd : decode cc pc = .ok (.i2c, 1)) (h : Ev st k y cc nL ret hp0 mc ms fin (pc + 1) lv (.int (x.toUInt32 % 65536).toInt32 :: stk) hp cl sl) : Ev st k y cc nL ret hp0 mc ms fin pc lv (.int x :: stk) hp cl sl := by
  intro l D tA base p e s m args below meth c M H locs ls hH hC hz hS hL
  exact lv_i2c M.1 M.2.1 hd rfl (h l D tA base p e s m args below meth c M H locs ls hH hC hz hS hL)
theorem x_dup {v : Value} (hd : decode cc pc = .ok (.dup, 1)) (hv : v.category = 1) (h : Ev st k y cc nL ret hp0 mc ms fin (pc + 1) lv (v :: v :: stk) hp cl sl) : Ev st k y cc nL ret hp0 mc ms fin pc lv (v :: stk) hp cl sl := by
  intro l D tA base p e s m args below meth c M H locs ls hH hC hz hS hL
  exact lv_dup M.1 M.2.1 hd hv (h l D tA base p e s m args below meth c M H locs ls hH hC hz hS hL)
theorem x_pop {v : Value} (hd : decode cc pc = .ok (.pop, 1)) (hv : v.category = 1) (h : Ev st k y cc nL ret hp0 mc ms fin (pc + 1) lv stk hp cl sl) : Ev st k y cc nL ret hp0 mc ms fin pc lv (v :: stk) hp cl sl := by
  intro l D tA base p e s m args below meth c M H locs ls hH hC hz hS hL
  exact lv_pop M.1 M.2.1 hd hv (h l D tA base p e s m args below meth c M H locs ls hH hC hz hS hL)
theorem x_dup2 {v w : Value} (hd : decode cc pc = .ok (.dup2, 1)) (hv : v.category = 1) (hw : w.category = 1) (h : Ev st k y cc nL ret hp0 mc ms fin (pc + 1) lv (v :: w :: v :: w :: stk) hp cl sl) : Ev st k y cc nL ret hp0 mc ms fin pc lv (v :: w :: stk) hp cl sl := by
  intro l D tA base p e s m args below meth c M H locs ls hH hC hz hS hL
  exact lv_dup2_11 M.1 M.2.1 hd hv hw (h l D tA base p e s m args below meth c M H locs ls hH hC hz hS hL)
theorem x_dup_x1 {v w : Value} (hd : decode cc pc = .ok (.dup_x1, 1)) (hv : v.category = 1) (hw : w.category = 1) (h : Ev st k y cc nL ret hp0 mc ms fin (pc + 1) lv (v :: w :: v :: stk) hp cl sl) : Ev st k y cc nL ret hp0 mc ms fin pc lv (v :: w :: stk) hp cl sl := by
  intro l D tA base p e s m args below meth c M H locs ls hH hC hz hS hL
  exact lv_dup_x1 M.1 M.2.1 hd hv hw (h l D tA base p e s m args below meth c M H locs ls hH hC hz hS hL)
theorem x_goto {off : Int} {tgt : Nat} (hd : decode cc pc = .ok (.goto off, 3)) (ht : (pc : Int) + off = (tgt : Int)) (h : Ev st k y cc nL ret hp0 mc ms fin tgt lv stk hp cl sl) : Ev st k y cc nL ret hp0 mc ms fin pc lv stk hp cl sl := by
  intro l D tA base p e s m args below meth c M H locs ls hH hC hz hS hL
  exact lv_goto M.1 M.2.1 hd ht (h l D tA base p e s m args below meth c M H locs ls hH hC hz hS hL)
theorem x_if_eq {x : Int32} {off : Int} {tgt : Nat} (hd : decode cc pc = .ok (.ifCond .eq off, 3)) (ht : (pc : Int) + off = (tgt : Int)) (hT : (x = 0) → Ev st k y cc nL ret hp0 mc ms fin tgt lv stk hp cl sl) (hF : ¬ (x = 0) → Ev st k y cc nL ret hp0 mc ms fin (pc + 3) lv stk hp cl sl) : Ev st k y cc nL ret hp0 mc ms fin pc lv (.int x :: stk) hp cl sl := by
  intro l D tA base p e s m args below meth c M H locs ls hH hC hz hS hL
  exact lv_if_eq M.1 M.2.1 hd ht (fun q => hT q l D tA base p e s m args below meth c M H locs ls hH hC hz hS hL) (fun q => hF q l D tA base p e s m args below meth c M H locs ls hH hC hz hS hL)
theorem x_if_ne {x : Int32} {off : Int} {tgt : Nat} (hd : decode cc pc = .ok (.ifCond .ne off, 3)) (ht : (pc : Int) + off = (tgt : Int)) (hT : (¬ x = 0) → Ev st k y cc nL ret hp0 mc ms fin tgt lv stk hp cl sl) (hF : (x = 0) → Ev st k y cc nL ret hp0 mc ms fin (pc + 3) lv stk hp cl sl) : Ev st k y cc nL ret hp0 mc ms fin pc lv (.int x :: stk) hp cl sl := by
  intro l D tA base p e s m args below meth c M H locs ls hH hC hz hS hL
  exact lv_if_ne M.1 M.2.1 hd ht (fun q => hT q l D tA base p e s m args below meth c M H locs ls hH hC hz hS hL) (fun q => hF q l D tA base p e s m args below meth c M H locs ls hH hC hz hS hL)
theorem x_if_lt {x : Int32} {off : Int} {tgt : Nat} (hd : decode cc pc = .ok (.ifCond .lt off, 3)) (ht : (pc : Int) + off = (tgt : Int)) (hT : (x < 0) → Ev st k y cc nL ret hp0 mc ms fin tgt lv stk hp cl sl) (hF : ¬ (x < 0) → Ev st k y cc nL ret hp0 mc ms fin (pc + 3) lv stk hp cl sl) : Ev st k y cc nL ret hp0 mc ms fin pc lv (.int x :: stk) hp cl sl := by
  intro l D tA base p e s m args below meth c M H locs ls hH hC hz hS hL
  exact lv_if_lt M.1 M.2.1 hd ht (fun q => hT q l D tA base p e s m args below meth c M H locs ls hH hC hz hS hL) (fun q => hF q l D tA base p e s m args below meth c M H locs ls hH hC hz hS hL)
theorem x_if_ge {x : Int32} {off : Int} {tgt : Nat} (hd : decode cc pc = .ok (.ifCond .ge off, 3)) (ht : (pc : Int) + off = (tgt : Int)) (hT : (0 ≤ x) → Ev st k y cc nL ret hp0 mc ms fin tgt lv stk hp cl sl) (hF : ¬ (0 ≤ x) → Ev st k y cc nL ret hp0 mc ms fin (pc + 3) lv stk hp cl sl) : Ev st k y cc nL ret hp0 mc ms fin pc lv (.int x :: stk) hp cl sl := by
  intro l D tA base p e s m args below meth c M H locs ls hH hC hz hS hL
  exact lv_if_ge M.1 M.2.1 hd ht (fun q => hT q l D tA base p e s m args below meth c M H locs ls hH hC hz hS hL) (fun q => hF q l D tA base p e s m args below meth c M H locs ls hH hC hz hS hL)
theorem x_if_gt {x : Int32} {off : Int} {tgt : Nat} (hd : decode cc pc = .ok (.ifCond .gt off, 3)) (ht : (pc : Int) + off = (tgt : Int)) (hT : (0 < x) → Ev st k y cc nL ret hp0 mc ms fin tgt lv stk hp cl sl) (hF : ¬ (0 < x) → Ev st k y cc nL ret hp0 mc ms fin (pc + 3) lv stk hp cl sl) : Ev st k y cc nL ret hp0 mc ms fin pc lv (.int x :: stk) hp cl sl := by
  intro l D tA base p e s m args below meth c M H locs ls hH hC hz hS hL
  exact lv_if_gt M.1 M.2.1 hd ht (fun q => hT q l D tA base p e s m args below meth c M H locs ls hH hC hz hS hL) (fun q => hF q l D tA base p e s m args below meth c M H locs ls hH hC hz hS hL)
theorem x_if_le {x : Int32} {off : Int} {tgt : Nat} (hd : decode cc pc = .ok (.ifCond .le off, 3)) (ht : (pc : Int) + off = (tgt : Int)) (hT : (x ≤ 0) → Ev st k y cc nL ret hp0 mc ms fin tgt lv stk hp cl sl) (hF : ¬ (x ≤ 0) → Ev st k y cc nL ret hp0 mc ms fin (pc + 3) lv stk hp cl sl) : Ev st k y cc nL ret hp0 mc ms fin pc lv (.int x :: stk) hp cl sl := by
  intro l D tA base p e s m args below meth c M H locs ls hH hC hz hS hL
  exact lv_if_le M.1 M.2.1 hd ht (fun q => hT q l D tA base p e s m args below meth c M H locs ls hH hC hz hS hL) (fun q => hF q l D tA base p e s m args below meth c M H locs ls hH hC hz hS hL)
theorem x_icmp_eq {x z : Int32} {off : Int} {tgt : Nat} (hd : decode cc pc = .ok (.if_icmp .eq off, 3)) (ht : (pc : Int) + off = (tgt : Int)) (hT : (x = z) → Ev st k y cc nL ret hp0 mc ms fin tgt lv stk hp cl sl) (hF : ¬ (x = z) → Ev st k y cc nL ret hp0 mc ms fin (pc + 3) lv stk hp cl sl) : Ev st k y cc nL ret hp0 mc ms fin pc lv (.int z :: .int x :: stk) hp cl sl := by
  intro l D tA base p e s m args below meth c M H locs ls hH hC hz hS hL
  exact lv_icmp_eq M.1 M.2.1 hd ht (fun q => hT q l D tA base p e s m args below meth c M H locs ls hH hC hz hS hL) (fun q => hF q l D tA base p e s m args below meth c M H locs ls hH hC hz hS hL)
theorem x_icmp_ne {x z : Int32} {off : Int} {tgt : Nat} (hd : decode cc pc = .ok (.if_icmp .ne off, 3)) (ht : (pc : Int) + off = (tgt : Int)) (hT : (¬ x = z) → Ev st k y cc nL ret hp0 mc ms fin tgt lv stk hp cl sl) (hF : (x = z) → Ev st k y cc nL ret hp0 mc ms fin (pc + 3) lv stk hp cl sl) : Ev st k y cc nL ret hp0 mc ms fin pc lv (.int z :: .int x :: stk) hp cl sl := by
  intro l D tA base p e s m args below meth c M H locs ls hH hC hz hS hL
  exact lv_icmp_ne M.1 M.2.1 hd ht (fun q => hT q l D tA base p e s m args below meth c M H locs ls hH hC hz hS hL) (fun q => hF q l D tA base p e s m args below meth c M H locs ls hH hC hz hS hL)
theorem x_icmp_lt {x z : Int32} {off : Int} {tgt : Nat} (hd : decode cc pc = .ok (.if_icmp .lt off, 3)) (ht : (pc : Int) + off = (tgt : Int)) (hT : (x < z) → Ev st k y cc nL ret hp0 mc ms fin tgt lv stk hp cl sl) (hF : ¬ (x < z) → Ev st k y cc nL ret hp0 mc ms fin (pc + 3) lv stk hp cl sl) : Ev st k y cc nL ret hp0 mc ms fin pc lv (.int z :: .int x :: stk) hp cl sl := by
  intro l D tA base p e s m args below meth c M H locs ls hH hC hz hS hL
  exact lv_icmp_lt M.1 M.2.1 hd ht (fun q => hT q l D tA base p e s m args below meth c M H locs ls hH hC hz hS hL) (fun q => hF q l D tA base p e s m args below meth c M H locs ls hH hC hz hS hL)
theorem x_icmp_ge {x z : Int32} {off : Int} {tgt : Nat} (hd : decode cc pc = .ok (.if_icmp .ge off, 3)) (ht : (pc : Int) + off = (tgt : Int)) (hT : (z ≤ x) → Ev st k y cc nL ret hp0 mc ms fin tgt lv stk hp cl sl) (hF : ¬ (z ≤ x) → Ev st k y cc nL ret hp0 mc ms fin (pc + 3) lv stk hp cl sl) : Ev st k y cc nL ret hp0 mc ms fin pc lv (.int z :: .int x :: stk) hp cl sl := by
  intro l D tA base p e s m args below meth c M H locs ls hH hC hz hS hL
  exact lv_icmp_ge M.1 M.2.1 hd ht (fun q => hT q l D tA base p e s m args below meth c M H locs ls hH hC hz hS hL) (fun q => hF q l D tA base p e s m args below meth c M H locs ls hH hC hz hS hL)
theorem x_icmp_gt {x z : Int32} {off : Int} {tgt : Nat} (hd : decode cc pc = .ok (.if_icmp .gt off, 3)) (ht : (pc : Int) + off = (tgt : Int)) (hT : (z < x) → Ev st k y cc nL ret hp0 mc ms fin tgt lv stk hp cl sl) (hF : ¬ (z < x) → Ev st k y cc nL ret hp0 mc ms fin (pc + 3) lv stk hp cl sl) : Ev st k y cc nL ret hp0 mc ms fin pc lv (.int z :: .int x :: stk) hp cl sl := by
  intro l D tA base p e s m args below meth c M H locs ls hH hC hz hS hL
  exact lv_icmp_gt M.1 M.2.1 hd ht (fun q => hT q l D tA base p e s m args below meth c M H locs ls hH hC hz hS hL) (fun q => hF q l D tA base p e s m args below meth c M H locs ls hH hC hz hS hL)
theorem x_icmp_le {x z : Int32} {off : Int} {tgt : Nat} (hd : decode cc pc = .ok (.if_icmp .le off, 3)) (ht : (pc : Int) + off = (tgt : Int)) (hT : (x ≤ z) → Ev st k y cc nL ret hp0 mc ms fin tgt lv stk hp cl sl) (hF : ¬ (x ≤ z) → Ev st k y cc nL ret hp0 mc ms fin (pc + 3) lv stk hp cl sl) : Ev st k y cc nL ret hp0 mc ms fin pc lv (.int z :: .int x :: stk) hp cl sl := by
  intro l D tA base p e s m args below meth c M H locs ls hH hC hz hS hL
  exact lv_icmp_le M.1 M.2.1 hd ht (fun q => hT q l D tA base p e s m args below meth c M H locs ls hH hC hz hS hL) (fun q => hF q l D tA base p e s m args below meth c M H locs ls hH hC hz hS hL)
theorem x_tableOut {dflt lo hi : Int} {offs : Array Int} {len : Nat} {x : Int32} {tgt : Nat} (hd : decode cc pc = .ok (.tableswitch dflt lo hi offs, len)) (hx : x.toInt < lo ∨ hi < x.toInt) (ht : (pc : Int) + dflt = (tgt : Int)) (h : Ev st k y cc nL ret hp0 mc ms fin tgt lv stk hp cl sl) : Ev st k y cc nL ret hp0 mc ms fin pc lv (.int x :: stk) hp cl sl := by
  intro l D tA base p e s m args below meth c M H locs ls hH hC hz hS hL
  exact lv_tableOut M.1 M.2.1 hd hx ht (h l D tA base p e s m args below meth c M H locs ls hH hC hz hS hL)
theorem x_tableIn {dflt lo hi : Int} {offs : Array Int} {len : Nat} {x : Int32} {off : Int} {tgt : Nat} (hd : decode cc pc = .ok (.tableswitch dflt lo hi offs, len)) (h1 : ¬ x.toInt < lo) (h2 : ¬ hi < x.toInt) (ho : offs[(x.toInt - lo).toNat]? = some off) (ht : (pc : Int) + off = (tgt : Int)) (h : Ev st k y cc nL ret hp0 mc ms fin tgt lv stk hp cl sl) : Ev st k y cc nL ret hp0 mc ms fin pc lv (.int x :: stk) hp cl sl := by
  intro l D tA base p e s m args below meth c M H locs ls hH hC hz hS hL
  exact lv_tableIn M.1 M.2.1 hd h1 h2 ho ht (h l D tA base p e s m args below meth c M H locs ls hH hC hz hS hL)
end AXR
