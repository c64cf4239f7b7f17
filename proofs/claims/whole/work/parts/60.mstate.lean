/-! THE REFERENCE's numbers z, seen as an office's rows; row 14: purses -/
def zk (i : Nat) : Nat × Nat :=
  if i < 5 then (0, i) else if i = 5 then (13, 4) else if i = 6 then (13, 3) else if i = 7 then (13, 0) else if i = 8 then (13, 1) else if i = 9 then (13, 2)
  else if i < 58 then (1 + (i - 10) % 4, (i - 10) / 4) else if i < 268 then (5 + (i - 58) % 7, (i - 58) / 7) else if i < 284 then (14, i - 268) else (12, i - 284)
def encZ (ζ : Sg) (i : Nat) : Int32 := ζ (zk i).1 (zk i).2
/-- a row and place that stand at i -/
def zAt (K j i : Nat) : Prop := i < 300 ∧ zk i = (K, j)
theorem zk_inj {i k : Nat} (hi : i < 300) (hk : k < 300) (h : zk i = zk k) : i = k := by
  unfold zk at h
  repeat' split at h
  all_goals first | (simp only [Prod.mk.injEq] at h; omega) | omega
theorem encZ_at {ζ : Sg} {K j i : Nat} (h : zAt K j i) : encZ ζ i = ζ K j := by
  unfold encZ
  rw [h.2]
theorem encZ_up {ζ : Sg} {K j i : Nat} (v : Int32) (h : zAt K j i) {b : Nat} (hb : b < 300) : upd (encZ ζ) i v b = encZ (up2 ζ K j v) b := by
  unfold upd encZ up2
  by_cases hbi : b = i
  · rw [if_pos hbi, if_pos (by rw [hbi, h.2]; exact ⟨rfl, rfl⟩)]
  · rw [if_neg hbi, if_neg]
    intro q
    exact hbi (zk_inj hb h.1 (by rw [h.2]; exact Prod.ext q.1 q.2))
theorem zAt_lot {j w : Nat} (hj : j < 12) (hw : w < 4) : zAt (1 + w) j (10 + 4 * j + w) := by
  refine ⟨by omega, ?_⟩
  unfold zk
  rw [if_neg (by omega), if_neg (by omega), if_neg (by omega), if_neg (by omega), if_neg (by omega), if_neg (by omega), if_pos (by omega)]
  congr 1 <;> omega
theorem zAt_cl {c w : Nat} (hc : c < 30) (hw : w < 7) : zAt (5 + w) c (58 + 7 * c + w) := by
  refine ⟨by omega, ?_⟩
  unfold zk
  rw [if_neg (by omega), if_neg (by omega), if_neg (by omega), if_neg (by omega), if_neg (by omega), if_neg (by omega), if_neg (by omega), if_pos (by omega)]
  congr 1 <;> omega
theorem zAt_pu {j : Nat} (hj : j < 16) : zAt 14 j (268 + j) := by
  refine ⟨by omega, ?_⟩
  unfold zk
  rw [if_neg (by omega), if_neg (by omega), if_neg (by omega), if_neg (by omega), if_neg (by omega), if_neg (by omega), if_neg (by omega), if_neg (by omega), if_pos (by omega)]
  rw [Nat.add_sub_cancel_left]
theorem zAt_pd {j : Nat} (hj : j < 16) : zAt 12 j (284 + j) := by
  refine ⟨by omega, ?_⟩
  unfold zk
  rw [if_neg (by omega), if_neg (by omega), if_neg (by omega), if_neg (by omega), if_neg (by omega), if_neg (by omega), if_neg (by omega), if_neg (by omega), if_neg (by omega)]
  rw [Nat.add_sub_cancel_left]
theorem zAt_set {j : Nat} (hj : j < 5) : zAt 0 j j := by
  refine ⟨by omega, ?_⟩
  unfold zk
  rw [if_pos hj]
/-- the object and its z, whatever its other fields -/
def ZAt (h : Nat → Option va_E) (m : Nat) (fs : List Value) (ζ : Sg) : Prop := h m = some (.inr (5, .ref (m + 1) :: fs)) ∧ RwAt h 0 (m + 1) 300 (encZ ζ)
theorem ZAt.ob {h : Nat → Option va_E} {m : Nat} {fs : List Value} {ζ : Sg} (H : ZAt h m fs ζ) : h m = some (.inr (5, .ref (m + 1) :: fs)) := H.1
def ZO (r0 : Option Value) (z m : Nat) (h : Nat → Option va_E) (fs : List Value) (ζ' : Sg) : Option Value → Hp → Prop := fun r hp' => r = r0 ∧ ∃ h', hp' = (z, h') ∧ ZAt h' m fs ζ' ∧ Fr (m + 1) 1 h h'
theorem ZO.mk {v w : Int32} {z m : Nat} {h h' : Nat → Option va_E} {fs : List Value} {ζ ζ' : Sg} (hv : v = w) (hζ : ζ = ζ') (H : ZAt h' m fs ζ) (F : Fr (m + 1) 1 h h') : ZO (some (.int w)) z m h fs ζ' (some (.int v)) (z, h') := by
  subst hv
  subst hζ
  exact ⟨rfl, h', rfl, H, F⟩
theorem ZO.mkn {z m : Nat} {h h' : Nat → Option va_E} {fs : List Value} {ζ ζ' : Sg} (hζ : ζ = ζ') (H : ZAt h' m fs ζ) (F : Fr (m + 1) 1 h h') : ZO none z m h fs ζ' none (z, h') := by
  subst hζ
  exact ⟨rfl, h', rfl, H, F⟩
section ZX
variable {st : Nat → Nat} {k : Nat} {y : MethodName} {cc : ByteArray} {nL : Nat} {ret : Option FieldType} {hp0 : Hp} {mc ms : Nat} {fin : Option Value → Hp → Prop} {pc : Nat} {lv stk stk0 : List Value} {hp : Hp} {cl sl : Nat} {m : Nat} {fs : List Value} {ζ ζ' : Sg}
theorem z_ald {i : Int32} {b : Nat} (K j : Nat) (hd : decode cc pc = .ok (.iaload, 1)) (H : ZAt hp.2 m fs ζ) (hz : zAt K j b) (hi : ¬ i < 0 ∧ i.toNatClampNeg = b) (h : Ev st k y cc nL ret hp0 mc ms fin (pc + 1) lv (.int (ζ K j) :: stk) hp cl sl) : Ev st k y cc nL ret hp0 mc ms fin pc lv (.int i :: .ref (m + 1) :: stk) hp cl sl := by
  refine e_ald hd H.2 ⟨hi.1, hi.2, hz.1⟩ ?_
  rw [encZ_at hz]
  exact h
theorem z_ast {i v : Int32} {b : Nat} (K j : Nat) (hd : decode cc pc = .ok (.iastore, 1)) (H : ZAt hp.2 m fs ζ) (hz : zAt K j b) (hi : ¬ i < 0 ∧ i.toNatClampNeg = b) (h : ∀ h', ZAt h' m fs (up2 ζ K j v) → Fr (m + 1) 1 hp.2 h' → Ev st k y cc nL ret hp0 mc ms fin (pc + 1) lv stk (hp.1, h') cl sl) : Ev st k y cc nL ret hp0 mc ms fin pc lv (.int v :: .int i :: .ref (m + 1) :: stk) hp cl sl := by
  refine e_ast hd H.2 ⟨hi.1, hi.2, hz.1⟩ (fun h' hA he => h h' ⟨(he m (by omega)).trans H.1, hA.to fun b hb => encZ_up v hz hb⟩ (fun q hq => he q (by omega)))
/-- calls that change z -/
theorem c_VZ {idx n nL1 a ci : Nat} {y1 : MethodName} {cc1 : ByteArray} {ret1 : Option FieldType} {As : List Value} {v : Value} {fs0 : List Value} (hd : decode cc pc = .ok (.invokevirtual idx, 3)) (hy : ax_kM y1 cc1 nL1 ret1 n) (hi : Cond.instanceMethod y1 ∈ TB ∧ Cond.selects y1.cls y1 y1 ∈ TB) (hl : Cond.methodLink y.cls idx y1 ∈ TB) (hc : CT st k y1 cc1 nL1 ret1 (.ref a :: As) hp 0 0 (ZO (some v) hp.1 m hp.2 fs ζ')) (hh : hp.2 a = some (.inr (ci, fs0))) (hci : (vwCl[ci]?).map (fun q => q.1) = some y1.cls) (hs : stk0 = As.reverse ++ .ref a :: stk) (hn : As.length = n) (hr : (stk.map fun v => v.category).sum ≤ 8) (hm : cl ≤ mc ∧ sl ≤ ms) (h : ∀ h', ZAt h' m fs ζ' → Fr (m + 1) 1 hp.2 h' → Ev st (k + 1) y cc nL ret hp0 mc ms fin (pc + 3) lv (v :: stk) (hp.1, h') cl sl) : Ev st (k + 1) y cc nL ret hp0 mc ms fin pc lv stk0 hp cl sl :=
  x_callV hd hy hi hl hc hh hci hs hn hr hm (fun r hp' hq => by obtain ⟨rfl, h2, rfl, q1, q2⟩ := hq; exact h h2 q1 q2)
theorem c_VZn {idx n nL1 a ci : Nat} {y1 : MethodName} {cc1 : ByteArray} {ret1 : Option FieldType} {As : List Value} {fs0 : List Value} (hd : decode cc pc = .ok (.invokevirtual idx, 3)) (hy : ax_kM y1 cc1 nL1 ret1 n) (hi : Cond.instanceMethod y1 ∈ TB ∧ Cond.selects y1.cls y1 y1 ∈ TB) (hl : Cond.methodLink y.cls idx y1 ∈ TB) (hc : CT st k y1 cc1 nL1 ret1 (.ref a :: As) hp 0 0 (ZO none hp.1 m hp.2 fs ζ')) (hh : hp.2 a = some (.inr (ci, fs0))) (hci : (vwCl[ci]?).map (fun q => q.1) = some y1.cls) (hs : stk0 = As.reverse ++ .ref a :: stk) (hn : As.length = n) (hr : (stk.map fun v => v.category).sum ≤ 8) (hm : cl ≤ mc ∧ sl ≤ ms) (h : ∀ h', ZAt h' m fs ζ' → Fr (m + 1) 1 hp.2 h' → Ev st (k + 1) y cc nL ret hp0 mc ms fin (pc + 3) lv stk (hp.1, h') cl sl) : Ev st (k + 1) y cc nL ret hp0 mc ms fin pc lv stk0 hp cl sl :=
  x_callV hd hy hi hl hc hh hci hs hn hr hm (fun r hp' hq => by obtain ⟨rfl, h2, rfl, q1, q2⟩ := hq; exact h h2 q1 q2)
end ZX
/-- indices -/
theorem ixN {b : Nat} (h : b < 2 ^ 31) : ¬ nI b < 0 ∧ (nI b).toNatClampNeg = b := ⟨nI_pos h, nI_clamp h⟩
theorem ix_eq {i : Int32} {b : Nat} (e : i = nI b) (h : b < 2 ^ 31) : ¬ i < 0 ∧ i.toNatClampNeg = b := by
  subst e
  exact ixN h
theorem ix_lot {j w : Nat} (hj : j < 12) (hw : w < 4) : ¬ (10 + 4 * nI j + nI w) < 0 ∧ (10 + 4 * nI j + nI w).toNatClampNeg = 10 + 4 * j + w :=
  ix_eq (by rw [show (4 : Int32) = nI 4 from rfl, pk_mul, show (10 : Int32) = nI 10 from rfl, nI_add, nI_add]) (by omega)
theorem ix_cl {j w : Nat} (hj : j < 30) (hw : w < 7) : ¬ (58 + 7 * nI j + nI w) < 0 ∧ (58 + 7 * nI j + nI w).toNatClampNeg = 58 + 7 * j + w :=
  ix_eq (by rw [show (7 : Int32) = nI 7 from rfl, pk_mul, show (58 : Int32) = nI 58 from rfl, nI_add, nI_add]) (by omega)
theorem ix_ad {i : Int32} {a b : Nat} (k : Nat) (hi : i = nI k) (h : a + k < 2 ^ 31) (hb : b = a + k) : ¬ (nI a + i) < 0 ∧ (nI a + i).toNatClampNeg = b := by
  subst hi
  subst hb
  exact ix_eq (nI_add a k) h
