theorem cnt_add (p : Nat → Bool) : ∀ (k l i : Nat), cnt p i (k + l) = cnt p i k + cnt p (i + k) l
  | 0, l, i => by
    rw [Nat.zero_add, Nat.add_zero]
    exact (Nat.zero_add _).symm
  | k + 1, l, i => by
    rw [show k + 1 + l = (k + l) + 1 by omega]
    show (if p i = true then 1 else 0) + cnt p (i + 1) (k + l) = ((if p i = true then 1 else 0) + cnt p (i + 1) k) + _
    rw [cnt_add p k l (i + 1), show i + 1 + k = i + (k + 1) by omega]
    omega
theorem cnt_sh {p q : Nat → Bool} (s : Nat) : ∀ (k i : Nat), (∀ j, i ≤ j → j < i + k → p (j + s) = q j) → cnt p (i + s) k = cnt q i k
  | 0, _, _ => rfl
  | k + 1, i, h => by
    show (if p (i + s) = true then 1 else 0) + cnt p (i + s + 1) k = (if q i = true then 1 else 0) + cnt q (i + 1) k
    rw [h i (Nat.le_refl _) (by omega), show i + s + 1 = (i + 1) + s by omega, cnt_sh s k (i + 1) fun j h1 h2 => h j (by omega) (by omega)]
theorem cnt_ext {p q : Nat → Bool} (k i : Nat) (h : ∀ j, i ≤ j → j < i + k → p j = q j) : cnt p i k = cnt q i k := cnt_sh 0 k i h
theorem cnt_0 {p : Nat → Bool} : ∀ (k i : Nat), (∀ j, i ≤ j → j < i + k → p j = false) → cnt p i k = 0
  | 0, _, _ => rfl
  | k + 1, i, h => by
    show (if p i = true then 1 else 0) + cnt p (i + 1) k = 0
    rw [h i (Nat.le_refl _) (by omega), cnt_0 k (i + 1) fun j h1 h2 => h j (by omega) (by omega)]
    rfl
theorem cnt_byte (Y : Nat) {r : Nat} (hr : r < 256) (l : Nat) : cnt (fun i => (256 * Y + r).testBit i) 0 (8 + l) = pB r + cnt (fun i => Y.testBit i) 0 l := by
  have tb : ∀ i, (256 * Y + r).testBit i = if i < 8 then r.testBit i else Y.testBit (i - 8) := fun i => Nat.testBit_two_pow_mul_add Y (i := 8) hr i
  rw [cnt_add, (pB_le r hr).2]
  congr 1
  · exact cnt_ext _ _ fun j _ hj => by
      rw [tb, if_pos (by omega)]
  · exact cnt_sh (p := fun i => (256 * Y + r).testBit i) (q := fun i => Y.testBit i) 8 l 0 fun j _ _ => by
      rw [tb, if_neg (by omega), Nat.add_sub_cancel]
theorem bytes4 (n : Nat) (h : n < 2 ^ 32) : ∃ a b c d, a < 256 ∧ b < 256 ∧ c < 256 ∧ d < 256 ∧ n = 256 * (256 * (256 * a + b) + c) + d :=
  ⟨n / 16777216, n / 65536 % 256, n / 256 % 256, n % 256, by omega, by omega, by omega, by omega, by omega⟩
theorem sBit_cnt (x : Int32) : sBit x = nI (cnt (gb x) 0 32) := by
  obtain ⟨a, b, c, d, ha, hb, hc, hd, hx⟩ := bytes4 _ x.toBitVec.isLt
  have h1 := sBit_nat x ha hb hc hd hx
  have h2 : cnt (gb x) 0 32 = cnt (fun i => x.toBitVec.toNat.testBit i) 0 32 := cnt_ext _ _ fun j _ _ => (BitVec.testBit_toNat _).symm
  have h3 : cnt (fun i => x.toBitVec.toNat.testBit i) 0 32 = pB d + (pB c + (pB b + (pB a + 0))) := by
    rw [hx]
    have c1 := cnt_byte (256 * (256 * a + b) + c) hd 24
    have c2 := cnt_byte (256 * a + b) hc 16
    have c3 := cnt_byte a hb 8
    have c4 := cnt_byte 0 ha 0
    rw [Nat.mul_zero, Nat.zero_add] at c4
    rw [c1, c2, c3, c4]
    rfl
  have p0 := (pB_le a ha).1
  have p1 := (pB_le b hb).1
  have p2 := (pB_le c hc).1
  have p3 := (pB_le d hd).1
  refine Int32.toBitVec_inj.mp (BitVec.eq_of_toNat_eq ?_)
  rw [h1, h2, h3]
  show _ = (BitVec.ofNat 32 _).toNat
  rw [BitVec.toNat_ofNat, Nat.mod_eq_of_lt (by omega)]
  omega
theorem sBit_mSize {x : Int32} (h30 : gb x 30 = false) (h31 : gb x 31 = false) : sBit x = mSize x := by
  rw [sBit_cnt, mSize_cnt]
  have e : cnt (gb x) (0 + 30) 2 = 0 := cnt_0 2 (0 + 30) fun j h1 h2 => by
    rcases (show j = 30 ∨ j = 31 by omega) with rfl | rfl
    · exact h30
    · exact h31
  have e2 : cnt (gb x) 0 32 = cnt (gb x) 0 30 := by
    rw [show (32 : Nat) = 30 + 2 from rfl, cnt_add, e, Nat.add_zero]
  rw [e2]
theorem sBit_bs (p : Nat → Bool) {n : Nat} (hn : n ≤ 30) : sBit (bs p n) = mSize (bs p n) := by
  refine sBit_mSize ?_ ?_
  · rw [gb_bs p (by omega) (by decide), decide_eq_false (by omega)]
    rfl
  · rw [gb_bs p (by omega) (by decide), decide_eq_false (by omega)]
    rfl
