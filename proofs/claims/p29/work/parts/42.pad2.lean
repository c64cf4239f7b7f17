/-! the pad's text, and what is put -/
def lus (x : Int64) (z : Int32) : Int64 := (x.toUInt64 >>> (z.toInt64.toUInt64 &&& Int64.toUInt64 63)).toInt64
def sCode (L : Int64) (i : Int32) : Int32 := (lus L (8 * i)).toInt32 &&& 255
def chs (L : Int64) : Nat → Nat → Int32
  | 0, _ => 8
  | k + 1, i => if lg_cmp (lus L (8 * nI i)) 0 = 0 then nI i else if sCode L (nI i) < 33 then 0 else if sCode L (nI i) ≤ 126 then chs L k (i + 1) else 0
def sChars (L : Int64) : Int32 := chs L 8 0
def updN (T : Nat → Nat) (j v : Nat) : Nat → Nat := fun i => if i = j then v else T i
def cdN (L : Int64) (i : Nat) : Nat := (sCode L (nI i)).toBitVec.toNat % 65536
def apF (L : Int64) : Nat → (Nat → Nat) → Nat → (Nat → Nat) × Nat
  | 0, T, n => (T, n)
  | k + 1, T, n => apF L k (updN T n (cdN L k)) (n + 1)
def sPut (T : Nat → Nat) (P : PD) (L : Int64) : Int32 × (Nat → Nat) × PD :=
  if sChars L = 0 then (-2, T, P) else if nI P.1 + sChars L ≤ 80 then
    (let q := apF L (sChars L).toNatClampNeg T P.1
     (nI q.2, q.1, (q.2, P.2))) else (-4, T, P)
def sFault (T : Nat → Nat) (P : PD) : Int32 := if (ffAll T P).1 = true then -6 else nI (ffAll T P).2.2.1
theorem chs_le (L : Int64) : ∀ (k i : Nat), i + k = 8 → ∃ m, m ≤ 8 ∧ chs L k i = nI m
  | 0, _, _ => ⟨8, Nat.le_refl _, rfl⟩
  | k + 1, i, h => by
    unfold chs
    split
    · exact ⟨i, by omega, rfl⟩
    split
    · exact ⟨0, by omega, rfl⟩
    split
    · exact chs_le L k (i + 1) (by omega)
    · exact ⟨0, by omega, rfl⟩
section PDY
variable {st : Nat → Nat} {k : Nat} {y : MethodName} {cc : ByteArray} {nL : Nat} {ret : Option FieldType} {hp0 : Hp} {mc ms : Nat} {fin : Option Value → Hp → Prop} {pc : Nat} {lv stk stk0 : List Value} {hp : Hp} {cl sl : Nat}
theorem e_nm2 {x : Int32} (h : ∀ v, x = v → Ev st k y cc nL ret hp0 mc ms fin pc lv (.int v :: stk) hp cl sl) : Ev st k y cc nL ret hp0 mc ms fin pc lv (.int x :: stk) hp cl sl := h x rfl
theorem p_cast {a j v : Nat} {i x : Int32} {T : Nat → Nat} {P : PD} (hd : decode cc pc = .ok (.castore, 1)) (H : PadAt hp.2 a T P) (hi : ax_ix i 80 j) (hx : x = nI v) (hv : v < 65536) (h : ∀ h', PadAt h' a (updN T j v) P → Fr a 2 hp.2 h' → Ev st k y cc nL ret hp0 mc ms fin (pc + 1) lv stk (hp.1, h') cl sl) : Ev st k y cc nL ret hp0 mc ms fin pc lv (.int x :: .int i :: .ref (a + 1) :: stk) hp cl sl := by
  subst hx
  obtain ⟨f, h1, h2⟩ := H.tx
  refine x_cast hd h1 hi (pk_charN hv).1 (h _ ⟨?_, ⟨_, hset_s _ _ _, fun b hb => ?_⟩, fun b => ?_⟩ (Fr.set _ (by omega) (by omega)))
  · rw [hset_n _ (by omega)]; exact H.1
  · show upd f j (nI v) b = nI (updN T j v b)
    unfold upd updN
    by_cases hq : b = j
    · rw [if_pos hq, if_pos hq]
    · rw [if_neg hq, if_neg hq]
      exact h2 b hb
  · unfold updN
    split
    · exact hv
    · exact H.2.2 b
end PDY
