/-! the count of a set's members: the class's way byte by byte -/
theorem and8 (a c : Nat) {b d : Nat} (hb : b < 256) (hd : d < 256) : (256 * a + b) &&& (256 * c + d) = 256 * (a &&& c) + (b &&& d) := by
  refine Nat.eq_of_testBit_eq fun i => ?_
  have hbd : (b &&& d) < 2 ^ 8 := Nat.and_lt_two_pow _ hd
  rw [Nat.testBit_and, show (256 : Nat) = 2 ^ 8 from rfl, Nat.testBit_two_pow_mul_add _ hb, Nat.testBit_two_pow_mul_add _ hd, Nat.testBit_two_pow_mul_add _ hbd]
  split
  · rw [Nat.testBit_and]
  · rw [Nat.testBit_and]
theorem sh8 (a c : Nat) {b d k : Nat} (hk : k ≤ 8) (hb : b < 256) (hd : d < 2 ^ (8 - k)) : ((256 * a + b) >>> k) &&& (256 * c + d) = 256 * ((a >>> k) &&& c) + ((b >>> k) &&& d) := by
  have hd2 : d < 2 ^ 8 := Nat.lt_of_lt_of_le hd (Nat.pow_le_pow_right (by decide) (by omega))
  refine Nat.eq_of_testBit_eq fun i => ?_
  have hbd : ((b >>> k) &&& d) < 2 ^ 8 := Nat.and_lt_two_pow _ hd2
  rw [Nat.testBit_and, Nat.testBit_shiftRight, show (256 : Nat) = 2 ^ 8 from rfl, Nat.testBit_two_pow_mul_add _ hb, Nat.testBit_two_pow_mul_add _ hd2, Nat.testBit_two_pow_mul_add _ hbd]
  by_cases hi : i < 8
  · rw [if_pos hi, if_pos hi, Nat.testBit_and, Nat.testBit_shiftRight]
    by_cases hki : k + i < 8
    · rw [if_pos hki]
    · have : d.testBit i = false := Nat.testBit_lt_two_pow (Nat.lt_of_lt_of_le hd (Nat.pow_le_pow_right (by decide) (by omega)))
      rw [this, Bool.and_false, Bool.and_false]
  · rw [if_neg hi, if_neg hi, if_neg (by omega), Nat.testBit_and, Nat.testBit_shiftRight, show k + i - 8 = k + (i - 8) by omega]
def fB (m N : Nat) : Nat := N - ((N >>> 1) &&& m)
def fC (m b : Nat) : Nat := (b &&& m) + ((b >>> 2) &&& m)
def fE (m c : Nat) : Nat := (c + (c >>> 4)) &&& m
def uB (r : Nat) : Nat := fC 51 (fB 85 r)
def pB (r : Nat) : Nat := fE 15 (uB r)
theorem fB_le (m N : Nat) : fB m N ≤ N := Nat.sub_le _ _
theorem fB_s (M Y : Nat) {r : Nat} (hr : r < 256) : fB (256 * M + 85) (256 * Y + r) = 256 * fB M Y + fB 85 r := by
  unfold fB
  rw [sh8 Y M (by decide) hr (by decide)]
  have h1 : (Y >>> 1) &&& M ≤ Y := Nat.le_trans Nat.and_le_left (Nat.shiftRight_le _ _)
  have h2 : (r >>> 1) &&& 85 ≤ r := Nat.le_trans Nat.and_le_left (Nat.shiftRight_le _ _)
  omega
theorem fC_s (M b : Nat) {s : Nat} (hs : s < 256) : fC (256 * M + 51) (256 * b + s) = 256 * fC M b + fC 51 s := by
  unfold fC
  rw [sh8 b M (by decide) hs (by decide), and8 b M hs (by decide)]
  omega
theorem uB_s (M5 M3 Y : Nat) {r : Nat} (hr : r < 256) : fC (256 * M3 + 51) (fB (256 * M5 + 85) (256 * Y + r)) = 256 * fC M3 (fB M5 Y) + uB r := by
  rw [fB_s M5 Y hr, fC_s M3 _ (Nat.lt_of_le_of_lt (fB_le 85 r) hr)]
  rfl
theorem uB_le : ∀ r, r < 256 → uB r ≤ 68 ∧ uB r % 16 ≤ 4 := by decide +kernel
theorem fE_s (M c : Nat) {u : Nat} (hu : u ≤ 68) (hc : c % 16 ≤ 4) : fE (256 * M + 15) (256 * c + u) = 256 * fE M c + fE 15 u := by
  unfold fE
  have e4 : ∀ n : Nat, n >>> 4 = n / 16 := fun n => by rw [Nat.shiftRight_eq_div_pow]
  have e : 256 * c + u + (256 * c + u) >>> 4 = 256 * (c + c >>> 4) + (16 * (c % 16) + u + u / 16) := by
    rw [e4, e4]
    omega
  have l15 : ∀ n : Nat, n &&& 15 = n % 16 := fun n => Nat.and_two_pow_sub_one_eq_mod n 4
  rw [e, and8 _ M (by omega) (by decide), l15, l15, e4]
  omega
theorem pB_le : ∀ r, r < 256 → pB r ≤ 8 ∧ pB r = cnt (fun i => r.testBit i) 0 8 := by decide +kernel
/-- four bytes -/
theorem fE_4 {a b c d : Nat} (ha : a < 256) (hb : b < 256) (hc : c < 256) (hd : d < 256) : fE 252645135 (fC 858993459 (fB 1431655765 (256 * (256 * (256 * a + b) + c) + d))) = 256 * (256 * (256 * pB a + pB b) + pB c) + pB d := by
  have e1 := uB_s 85 51 a hb
  have e2 := uB_s (256 * 85 + 85) (256 * 51 + 51) (256 * a + b) hc
  have e3 := uB_s (256 * (256 * 85 + 85) + 85) (256 * (256 * 51 + 51) + 51) (256 * (256 * a + b) + c) hd
  have u0 := uB_le a ha
  have u1 := uB_le b hb
  have u2 := uB_le c hc
  have u3 := uB_le d hd
  rw [show (1431655765 : Nat) = 256 * (256 * (256 * 85 + 85) + 85) + 85 from rfl, show (858993459 : Nat) = 256 * (256 * (256 * 51 + 51) + 51) + 51 from rfl, show (252645135 : Nat) = 256 * (256 * (256 * 15 + 15) + 15) + 15 from rfl, e3, e2, e1]
  rw [show fC 51 (fB 85 a) = uB a from rfl]
  rw [fE_s _ _ u3.1 (by omega), fE_s _ _ u2.1 (by omega), fE_s _ _ u1.1 u0.2]
  rfl
theorem fin4 {p q r s : Nat} (hp : p ≤ 8) (hq : q ≤ 8) (hr : r ≤ 8) (hs : s ≤ 8) {e f : Nat} (he : e = 256 * (256 * (256 * p + q) + r) + s) (hf : f = e + e / 256) : (f + f / 65536) % 64 = p + q + r + s ∧ f + f / 65536 < 2 ^ 32 ∧ f < 2 ^ 32 := by
  have h1 : e / 256 = 256 * (256 * p + q) + r := by omega
  have h2 : f = 256 * (256 * (256 * p + (q + p)) + (r + q)) + (s + r) := by omega
  have h3 : f / 65536 = 256 * p + (q + p) := by omega
  refine ⟨?_, by omega, by omega⟩
  rw [h3, h2]
  omega
theorem i_add (x z : Int32) : (x + z).toBitVec.toNat = (x.toBitVec.toNat + z.toBitVec.toNat) % 2 ^ 32 := by
  rw [Int32.toBitVec_add, BitVec.toNat_add]
theorem i_sub (x z : Int32) (h : z.toBitVec.toNat ≤ x.toBitVec.toNat) : (x - z).toBitVec.toNat = x.toBitVec.toNat - z.toBitVec.toNat := by
  have h1 := x.toBitVec.isLt
  have h2 := z.toBitVec.isLt
  rw [Int32.toBitVec_sub, BitVec.toNat_sub]
  omega
theorem i_and (x z : Int32) : (x &&& z).toBitVec.toNat = x.toBitVec.toNat &&& z.toBitVec.toNat := by
  rw [Int32.toBitVec_and, BitVec.toNat_and]
theorem i_sh (x z : Int32) (k : Nat) (hk : (z.toUInt32 &&& Int32.toUInt32 31).toNat % 32 = k) : (ush x z).toBitVec.toNat = x.toBitVec.toNat >>> k := by
  unfold ush
  show (x.toUInt32 >>> (z.toUInt32 &&& Int32.toUInt32 31)).toNat = _
  rw [UInt32.toNat_shiftRight, hk]
  rfl
theorem sBit_nat (x : Int32) {a b c d : Nat} (ha : a < 256) (hb : b < 256) (hc : c < 256) (hd : d < 256) (hx : x.toBitVec.toNat = 256 * (256 * (256 * a + b) + c) + d) : (sBit x).toBitVec.toNat = pB a + pB b + pB c + pB d := by
  have p0 := (pB_le a ha).1
  have p1 := (pB_le b hb).1
  have p2 := (pB_le c hc).1
  have p3 := (pB_le d hd).1
  have k := fE_4 ha hb hc hd
  rw [← hx] at k
  have e1 : (x - (ush x 1 &&& 1431655765)).toBitVec.toNat = fB 1431655765 x.toBitVec.toNat := by
    have e0 : (ush x 1 &&& 1431655765).toBitVec.toNat = (x.toBitVec.toNat >>> 1) &&& 1431655765 := by
      rw [i_and, i_sh x 1 1 rfl]
      rfl
    rw [i_sub _ _ (by rw [e0]; exact Nat.le_trans Nat.and_le_left (Nat.shiftRight_le _ _)), e0]
    rfl
  generalize hb1 : x - (ush x 1 &&& 1431655765) = b1 at e1
  have e2 : ((b1 &&& 858993459) + (ush b1 2 &&& 858993459)).toBitVec.toNat = fC 858993459 b1.toBitVec.toNat := by
    have q1 : (b1 &&& 858993459).toBitVec.toNat = b1.toBitVec.toNat &&& 858993459 := by
      rw [i_and]
      rfl
    have q2 : (ush b1 2 &&& 858993459).toBitVec.toNat = (b1.toBitVec.toNat >>> 2) &&& 858993459 := by
      rw [i_and, i_sh b1 2 2 rfl]
      rfl
    have m1 : b1.toBitVec.toNat &&& 858993459 ≤ 858993459 := Nat.and_le_right
    have m2 : (b1.toBitVec.toNat >>> 2) &&& 858993459 ≤ 858993459 := Nat.and_le_right
    rw [i_add, q1, q2, Nat.mod_eq_of_lt (by omega)]
    rfl
  generalize hc1 : (b1 &&& 858993459) + (ush b1 2 &&& 858993459) = c1 at e2
  have m3 : c1.toBitVec.toNat ≤ 2 * 858993459 := by
    rw [e2]
    unfold fC
    have m1 : b1.toBitVec.toNat &&& 858993459 ≤ 858993459 := Nat.and_le_right
    have m2 : (b1.toBitVec.toNat >>> 2) &&& 858993459 ≤ 858993459 := Nat.and_le_right
    omega
  have e3 : ((c1 + ush c1 4) &&& 252645135).toBitVec.toNat = fE 252645135 c1.toBitVec.toNat := by
    have q1 := i_sh c1 4 4 rfl
    have q2 : c1.toBitVec.toNat >>> 4 = c1.toBitVec.toNat / 16 := by rw [Nat.shiftRight_eq_div_pow]
    rw [i_and, i_add, q1, Nat.mod_eq_of_lt (by rw [q2]; omega)]
    rfl
  generalize he1 : (c1 + ush c1 4) &&& 252645135 = e4 at e3
  rw [e2, e1, k] at e3
  have q8 : e4.toBitVec.toNat >>> 8 = e4.toBitVec.toNat / 256 := by rw [Nat.shiftRight_eq_div_pow]
  have fin := fin4 p0 p1 p2 p3 e3 rfl
  have e5 : (e4 + ush e4 8).toBitVec.toNat = e4.toBitVec.toNat + e4.toBitVec.toNat / 256 := by
    rw [i_add, i_sh e4 8 8 rfl, q8, Nat.mod_eq_of_lt fin.2.2]
  generalize hf1 : e4 + ush e4 8 = f1 at e5
  rw [← e5] at fin
  have q16 : f1.toBitVec.toNat >>> 16 = f1.toBitVec.toNat / 65536 := by rw [Nat.shiftRight_eq_div_pow]
  have e6 : (f1 + ush f1 16).toBitVec.toNat = f1.toBitVec.toNat + f1.toBitVec.toNat / 65536 := by
    rw [i_add, i_sh f1 16 16 rfl, q16, Nat.mod_eq_of_lt fin.2.1]
  have e7 : ((f1 + ush f1 16) &&& 63).toBitVec.toNat = (f1.toBitVec.toNat + f1.toBitVec.toNat / 65536) % 64 := by
    rw [i_and, e6]
    exact Nat.and_two_pow_sub_one_eq_mod _ 6
  unfold sBit
  dsimp only
  rw [hb1, hc1, he1, hf1, e7]
  exact fin.1
